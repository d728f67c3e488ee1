/-! pieces' cells in the law's words; looseness told twice; what a cell shows -/
theorem mul_gz (i : Nat) (b : Bool) : nI i * gz b = nI (if b then i else 0) := by
  cases b
  · show nI i * 0 = nI 0
    rw [show (0 : Int32) = nI 0 from rfl, pk_mul, Nat.mul_zero]
  · show nI i * 1 = nI i
    rw [show (1 : Int32) = nI 1 from rfl, pk_mul, Nat.mul_one]
theorem gz_not1 (b : Bool) : 1 - gz b = gz (!b) := by cases b <;> decide
theorem add_gz (a : Nat) (b : Bool) : nI a + gz b = nI (a + (if b then 1 else 0)) := by
  cases b
  · show nI a + 0 = nI (a + 0)
    exact nI_add a 0
  · exact nI_add a 1
theorem gz_nn (b : Bool) : ¬ gz b = gz (!b) := by cases b <;> decide
theorem cell_xy {p : Pd} {i : Nat} (h : Pw p) (hg : Pg p) (hi : i < ql p) : ∃ xx yy : Nat, xx ≤ 9 ∧ yy ≤ 7 ∧ pcl p i = 10 * yy + xx ∧ nI (qx p) + nI i * gz (qc p) = nI xx ∧ nI (qy p) + nI i * (1 - gz (qc p)) = nI yy := by
  obtain ⟨h1, h2, h3⟩ := h.cell hg hi
  refine ⟨_, _, h1, h2, h3, ?_, ?_⟩
  · rw [mul_gz, nI_add]
  · rw [gz_not1, mul_gz, nI_add]
    cases qc p <;> rfl
theorem lsp_out {p : Pd} {f : Nat → Int32} (h : qo p = true) : lsp p f = false := by
  rw [lsp, lse, h]; rfl
section LO
variable {p : Pd} {wet cover sun : Nat → Int32} {hr : Nat}
theorem loose_0 (h : lsp p wet = false) : fstI (fun i => !lsp p (wetN wet cover sun hr i)) 201 0 = 0 :=
  (fstI_val (B := fun i => !lsp p (wetN wet cover sun hr i)) (k := 0) (f := 201) (i := 0) (Nat.le_refl 0) (by omega) (by show (!lsp p wet) = true; rw [h]; rfl) (fun j _ h2 => by omega)).trans rfl
theorem loose_n (h : lsp p wet = true) : ¬ fstI (fun i => !lsp p (wetN wet cover sun hr i)) 201 0 = 0 := by
  intro e
  rcases fstI_spec (fun i => !lsp p (wetN wet cover sun hr i)) 201 0 with ⟨h1, -⟩ | ⟨k, k1, k2, k3, k4, -⟩
  · rw [h1] at e; exact absurd e (by decide)
  · rw [k3, show (0 : Int32) = nI 0 from rfl, nI_eq (by omega) (by omega)] at e
    subst e
    have k4 : (!lsp p wet) = true := k4
    rw [h] at k4; cases k4
theorem loose_h1 (h : ¬ fstI (fun i => !lsp p (wetN wet cover sun hr i)) 201 0 = 0) : (!lsp p wet) = false := by
  cases e : lsp p wet
  · exact absurd (loose_0 e) h
  · rfl
theorem loose_h2 (h : ¬ ¬ fstI (fun i => !lsp p (wetN wet cover sun hr i)) 201 0 = 0) : (!lsp p wet) = true := by
  cases e : lsp p wet
  · rfl
  · exact absurd (loose_n e) h
end LO
theorem tkF_step {F : Nat → Nat → Int32} {cover : Nat → Int32} {cl : Nat → Nat} {k i xx yy : Nat} (hxx : xx ≤ 9) (hp : cl i = 10 * yy + xx) (h : ∀ x y, x ≤ 9 → y ≤ 7 → F x y = gz (tkI cover cl k i (10 * y + x))) : ∀ x y, x ≤ 9 → y ≤ 7 → updF F xx (upd (F xx) yy 1) x y = gz (tkI cover cl k (i + 1) (10 * y + x)) := by
  intro x y hx hy
  rw [tkI]
  by_cases e : x = xx
  · subst e
    rw [updF_s]
    by_cases e2 : y = yy
    · subst e2; rw [pk_us, hp, decide_eq_true rfl, Bool.or_true]; rfl
    · rw [pk_un e2, h x y hx hy, hp, decide_eq_false (by omega), Bool.or_false]
  · rw [updF_n e, h x y hx hy, hp, decide_eq_false (by omega), Bool.or_false]
section CV
variable {np : Nat} {wet cover sun : Nat → Int32} {P : Nat → Pd} {pcs : Nat → Option Nat} {pa : Nat → Nat} {c : Nat}
theorem cov_h1 (h : 0 ≤ cover c) : decide (cover c = -1) = false := decide_eq_false (fun e => by rw [e] at h; exact absurd h (by decide))
theorem cov_h2 (J : JV np wet cover sun P pcs pa) (hc : c < 80) (h : ¬ 0 ≤ cover c) : decide (cover c = -1) = true := by
  rcases J.2.2.2.1.1 c hc with e | ⟨k, hk, e⟩
  · exact decide_eq_true e
  · rw [e] at h; exact absurd (nI_pos' (by have := J.1; omega)) h
theorem gap_ne (J : JV np wet cover sun P pcs pa) (hc : c < 80) (h : gz (decide (cover c = -1)) = gz (decide (0 ≤ cover c))) : False := by
  by_cases e2 : 0 ≤ cover c
  · rw [cov_h1 e2, decide_eq_true e2] at h; exact absurd h (by decide)
  · rw [cov_h2 J hc e2, decide_eq_false e2] at h; exact absurd h (by decide)
theorem col_h1 (J : JV np wet cover sun P pcs pa) (h : 0 ≤ colv np P cover c) : decide (cover c = -1) = false :=
  decide_eq_false (fun e => by rw [colv_n J.1 e] at h; exact absurd h (by decide))
theorem col_h2 (J : JV np wet cover sun P pcs pa) (hc : c < 80) (h : ¬ 0 ≤ colv np P cover c) : decide (cover c = -1) = true := by
  rcases J.2.2.2.1.1 c hc with e | ⟨k, hk, e⟩
  · exact decide_eq_true e
  · rw [colv_k J.1 hk e] at h
    obtain ⟨a, ha, ea⟩ := shw_col (J.2.2.1 k hk)
    rw [ea] at h; exact absurd (nI_pos' (by omega)) h
theorem wet_12 (J : JV np wet cover sun P pcs pa) (hc : c < 80) : wet c ≤ 12 := by
  rcases J.2.2.2.2.1 c hc with e | ⟨w, hw, e⟩
  · rw [e]; decide
  · rw [e, show (12 : Int32) = nI 12 from rfl, nI_leI (by omega) (by omega)]; exact hw
end CV
theorem gap_two {cover fd : Nat → Int32} {x y g : Nat} (hx : x ≤ 9) (hy : y ≤ 7) (hg : g = (mgp cover (nI x) (nI y) (fun _ => 0) fd).2.2) (fd2 : Nat → Int32) (ac : Bool) : pfm (mgp cover (nI x) (nI y) (fun _ => 0) fd2).1 ac ≤ g ∧ g ≤ 3 * pfm (mgp cover (nI x) (nI y) (fun _ => 0) fd2).1 ac := by
  have h := pfm_mkc (mgp cover (nI x) (nI y) (fun _ => 0) fd2).1 ac
  rw [← gap_mk hx hy, (mgp_sim (cover := cover) (x := nI x) (y := nI y) (mk := fun _ => 0) (fd := fd2) (fd2 := fd)).2.1, ← hg] at h
  exact h
theorem share_eq {cv j : Nat} (h : cv = j) (hj : j ≤ 80) : Op.cmpValue (FP.dcmp (shareD j) (FP.ddiv (FP.i2d (nI cv)) 4635329916471083008)) .l = 0 := by
  subst h; exact shareEq _ hj
theorem nle_m1 {j : Nat} (h : j < 2 ^ 31) : ¬ nI j ≤ -1 := by
  rw [fa_le, nI_toInt h]
  have : (-1 : Int32).toInt = -1 := by decide
  omega
theorem cnt_no {B : Nat → Bool} {n : Nat} (h : ∀ c, c < n → B c = false) : cnt B n = 0 := by
  induction n with
  | zero => rfl
  | succ n ih => rw [cnt_f (h n (Nat.lt_succ_self n))]; exact ih (fun c hc => h c (by omega))
