/-! what the law's checks rest on: the checksum, gaps and pieces that fill them, patterns, hours, covered cells -/
def SimG (S T : Sg) : Prop := S.1 = T.1 ∧ S.2.2 = T.2.2 ∧ ∀ j, j < S.2.2 → j < 80 → S.2.1 j = T.2.1 j
theorem rch_sim {cover : Nat → Int32} {x y : Int32} {S T : Sg} (h : SimG S T) : SimG (rch cover x y S) (rch cover x y T) := by
  obtain ⟨h1, h2, h3⟩ := h
  rw [rch, rch, h1]
  by_cases q : rchT cover T.1 x y = true
  · rw [if_pos q, if_pos q]
    refine ⟨rfl, by show S.2.2 + 1 = T.2.2 + 1; rw [h2], fun j hj hj8 => ?_⟩
    show putv 80 S.2.1 (nI S.2.2) (10 * y + x) j = putv 80 T.2.1 (nI T.2.2) (10 * y + x) j
    have hj : j < S.2.2 + 1 := hj
    rw [← h2]
    by_cases e : j < S.2.2
    · rw [putv, putv]
      split
      · by_cases e2 : j = (nI S.2.2).toNatClampNeg
        · rw [← e2, pk_us, pk_us]
        · rw [pk_un e2, pk_un e2]; exact h3 j e hj8
      · exact h3 j e hj8
    · have e3 : j = S.2.2 := by omega
      rw [putv_nI (by omega) (by omega), putv_nI (by omega) (by omega), e3, pk_us, pk_us]
  · rw [if_neg q, if_neg q]
    exact ⟨h1, h2, h3⟩
theorem mgL_sim {cover : Nat → Int32} : ∀ (f i : Nat) (S T : Sg), SimG S T → SimG (mgL cover f i S) (mgL cover f i T) := by
  intro f
  induction f with
  | zero => intro i S T h; exact h
  | succ f ih =>
    intro i S T h
    rw [mgL, mgL, h.2.1]
    by_cases q : i < T.2.2 ∧ i < 80
    · rw [if_pos q, if_pos q, h.2.2 i (by rw [h.2.1]; exact q.1) q.2]
      exact ih _ _ _ (rch_sim (rch_sim (rch_sim (rch_sim h))))
    · rw [if_neg q, if_neg q]; exact h
theorem mgp_sim {cover : Nat → Int32} {x y : Int32} {mk fd fd2 : Nat → Int32} : SimG (mgp cover x y mk fd) (mgp cover x y mk fd2) :=
  mgL_sim 81 0 _ _ (rch_sim ⟨rfl, rfl, fun j hj => absurd hj (Nat.not_lt_zero j)⟩)
theorem gpS_sim {cover fd fd2 : Nat → Int32} (n : Nat) : (gpS cover fd n).1 = (gpS cover fd2 n).1 ∧ (gpS cover fd n).2.1 = (gpS cover fd2 n).2.1 := by
  induction n with
  | zero => exact ⟨rfl, rfl⟩
  | succ n ih =>
    rw [gpS, gpS]
    dsimp only
    rw [ih.1, ih.2]
    have h := mgp_sim (cover := cover) (x := nI (n % 10)) (y := nI (n / 10)) (mk := (gpS cover fd2 n).2.1) (fd := (gpS cover fd n).2.2) (fd2 := (gpS cover fd2 n).2.2)
    rw [h.2.1, h.1]
    exact ⟨rfl, rfl⟩
theorem dig_fd {np hr : Nat} {P : Nat → Pd} {wet cover sun fd fd2 : Nat → Int32} : dgT np hr P wet cover sun fd = dgT np hr P wet cover sun fd2 := by
  have e : dg1 np hr P wet cover fd = dg1 np hr P wet cover fd2 := by
    funext w
    rw [dg1, dg1, cntf, cntf, (gpS_sim (cover := cover) (fd := fd) (fd2 := fd2) 80).1]
  rw [dgT, dgT, e]
/-! counting -/
theorem cnt_mono {P R : Nat → Bool} {n : Nat} (h : ∀ i, i < n → P i = true → R i = true) : cnt P n ≤ cnt R n := by
  induction n with
  | zero => exact Nat.le_refl 0
  | succ n ih =>
    have h1 := ih (fun i hi => h i (by omega))
    rw [cnt, cnt]
    cases hp : P n
    · simp only [Bool.false_eq_true, if_false]; omega
    · rw [h n (by omega) hp]; simp only [if_true]; omega
theorem cnt_not (P : Nat → Bool) (n : Nat) : cnt (fun c => !P c) n + cnt P n = n := by
  induction n with
  | zero => rfl
  | succ n ih =>
    rw [cnt, cnt]
    cases hp : P n
    · simp only [Bool.not_false, if_true, Bool.false_eq_true, if_false]; omega
    · simp only [Bool.not_true, if_true, Bool.false_eq_true, if_false]; omega
theorem cnt_app (B : Nat → Bool) (a b : Nat) : cnt B (a + b) = cnt B a + cnt (fun t => B (a + t)) b := by
  induction b with
  | zero => rfl
  | succ b ih => rw [← Nat.add_assoc, cnt, ih, cnt, Nat.add_assoc]
def cs (g : Nat → Nat → Bool) (st : Nat) : Nat → Nat
  | 0 => 0
  | i + 1 => cs g st i + cnt (g i) st
theorem cs_le (g : Nat → Nat → Bool) (st n : Nat) : cs g st n ≤ st * n := by
  induction n with
  | zero => exact Nat.zero_le _
  | succ n ih => rw [cs, Nat.mul_succ]; have := cnt_le (g n) st; omega
theorem cs_s (g : Nat → Nat → Bool) (st n : Nat) : cs g (st + 1) n = cs g st n + cnt (fun i => g i st) n := by
  induction n with
  | zero => rfl
  | succ n ih => rw [cs, cs, ih, cnt, cnt]; omega
theorem cs_flip (g : Nat → Nat → Bool) (st n : Nat) : cs g st n = cs (fun a b => g b a) n st := by
  induction st with
  | zero =>
    show cs g 0 n = 0
    induction n with
    | zero => rfl
    | succ n ih => rw [cs, ih]; rfl
  | succ st ih => rw [cs_s, ih, cs]
theorem cs_congr {g h : Nat → Nat → Bool} {st n : Nat} (e : ∀ i t, i < n → t < st → g i t = h i t) : cs g st n = cs h st n := by
  induction n with
  | zero => rfl
  | succ n ih => rw [cs, cs, ih (fun i t hi ht => e i t (by omega) ht), cnt_congr (fun t ht => e n t (by omega) ht)]
theorem cs_lines (B : Nat → Bool) (n : Nat) : cnt B (10 * n) = cs (fun i t => B (10 * i + t)) 10 n := by
  induction n with
  | zero => rfl
  | succ n ih => rw [Nat.mul_succ, cnt_app, ih, cs]
theorem cs_80 (B : Nat → Bool) : cs (fun x y => B (10 * y + x)) 8 10 = cnt B 80 := by
  rw [cs_flip]
  exact (cs_lines B 8).symm
theorem cs_even {g : Nat → Nat → Bool} {st n : Nat} (h : ∀ i, i < n → cnt (g i) st % 2 = 0) : cs g st n % 2 = 0 := by
  induction n with
  | zero => rfl
  | succ n ih =>
    have h1 := ih (fun i hi => h i (by omega))
    have h2 := h n (by omega)
    rw [cs]; omega
/-! gaps -/
theorem mkc_z : mkc (fun _ => 0) = 0 := by decide +kernel
theorem gap_mk {cover fd : Nat → Int32} {x y : Nat} (hx : x ≤ 9) (hy : y ≤ 7) : (mgp cover (nI x) (nI y) (fun _ => 0) fd).2.2 = mkc (mgp cover (nI x) (nI y) (fun _ => 0) fd).1 := by
  have h := (mgp_res (cover := cover) (mk0 := fun _ => 0) (fd := fd) hx hy rfl).1.2.2.2
  rw [mkc_z] at h
  omega
theorem gap_unc {cover fd : Nat → Int32} {x y : Nat} (hx : x ≤ 9) (hy : y ≤ 7) : ∀ c, c < 80 → (mgp cover (nI x) (nI y) (fun _ => 0) fd).1 c ≠ 0 → cover c = -1 :=
  (mgp_res (cover := cover) (mk0 := fun _ => 0) (fd := fd) hx hy rfl).2.2.2 (fun c => cover c = -1) (fun c _ _ _ sd _ d _ hd => hd) (tryM_sub (fun c _ h => absurd rfl h) (fun e _ h => h))
theorem gap_pos {cover fd : Nat → Int32} {x y : Nat} (hx : x ≤ 9) (hy : y ≤ 7) (hv : cover (10 * y + x) = -1) : 0 < (mgp cover (nI x) (nI y) (fun _ => 0) fd).2.2 := by
  have hS := mgp_res (cover := cover) (mk0 := fun _ => 0) (fd := fd) hx hy rfl
  have h1 := hS.2.2.1.1
  have e : (tryM cover (some (10 * y + x)) ((fun _ => 0, fd, 0) : Sg)).2.2 = 1 := by
    show (if cover (10 * y + x) = -1 ∧ ((fun _ => 0, fd, 0) : Sg).1 (10 * y + x) = 0 then ((upd (fun _ => 0) (10 * y + x) 1, upd fd 0 (nI (10 * y + x)), 0 + 1) : Sg) else (fun _ => 0, fd, 0)).2.2 = 1
    rw [if_pos ⟨hv, rfl⟩]
  rw [e] at h1
  exact h1
theorem gap_zero {cover fd : Nat → Int32} {x y : Nat} (hx : x ≤ 9) (hy : y ≤ 7) (hv : ¬ cover (10 * y + x) = -1) : (mgp cover (nI x) (nI y) (fun _ => 0) fd).2.2 = 0 := by
  rw [mgp_none hx hy (fun h => hv h.1)]
theorem unc_cnt {np : Nat} {cover : Nat → Int32} (hn : np ≤ 100) (h : CovOk np cover) : cnt (fun c => decide (cover c = -1)) 80 = 80 - cnt (fun c => decide (0 ≤ cover c)) 80 := by
  have h1 := cnt_not (fun c => decide (0 ≤ cover c)) 80
  have h2 : cnt (fun c => decide (cover c = -1)) 80 = cnt (fun c => !decide (0 ≤ cover c)) 80 := cnt_congr (fun c hc => by
    rw [cov_ge hn hc h]
    by_cases e : cover c = -1
    · rw [e]; decide
    · rw [decide_eq_false e, decide_eq_true e]; rfl)
  omega
theorem gap_le {np : Nat} {cover fd : Nat → Int32} {x y : Nat} (hn : np ≤ 100) (h : CovOk np cover) (hx : x ≤ 9) (hy : y ≤ 7) : (mgp cover (nI x) (nI y) (fun _ => 0) fd).2.2 ≤ 80 - cnt (fun c => decide (0 ≤ cover c)) 80 := by
  rw [← unc_cnt hn h, gap_mk hx hy]
  exact cnt_mono (fun c hc hm => decide_eq_true (gap_unc hx hy c hc (of_decide_eq_true hm)))
theorem gap_nb {cover fd fd2 : Nat → Int32} {x y : Nat} (hx : x < 9) (hy : y ≤ 7) (hv : cover (10 * y + x) = -1) (hw : cover (10 * y + (x + 1)) = -1) : (mgp cover (nI x) (nI y) (fun _ => 0) fd).2.2 = (mgp cover (nI (x + 1)) (nI y) (fun _ => 0) fd2).2.2 := by
  have hS := mgp_res (cover := cover) (mk0 := fun _ => 0) (fd := fd) (x := x) (y := y) (by omega) hy rfl
  have hT := mgp_res (cover := cover) (mk0 := fun _ => 0) (fd := fd2) (x := x + 1) (y := y) (by omega) hy rfl
  have aS := hS.2.2.1.2.2 _ (tryM_done hv)
  have aT := hT.2.2.1.2.2 _ (tryM_done hw)
  have nS : nb (10 * y + x) 0 = some (10 * y + (x + 1)) := by
    unfold nb
    rw [if_pos rfl, if_pos (by omega)]; rfl
  have nT : nb (10 * y + (x + 1)) 1 = some (10 * y + x) := by
    unfold nb
    rw [if_neg (by omega), if_pos rfl, if_pos (by omega)]; rfl
  have bS := res_cl hS _ (by omega) aS rfl 0 (by omega) _ nS hw
  have bT := res_cl hT _ (by omega) aT rfl 1 (by omega) _ nT hv
  have hm : ∀ c, c < 80 → ((mgp cover (nI x) (nI y) (fun _ => 0) fd).1 c ≠ 0 ↔ (mgp cover (nI (x + 1)) (nI y) (fun _ => 0) fd2).1 c ≠ 0) := fun c hc => by
    constructor
    · exact hS.2.2.2 (fun c => (mgp cover (nI (x + 1)) (nI y) (fun _ => 0) fd2).1 c ≠ 0) (res_cl hT) (tryM_sub (fun c _ h => absurd rfl h) (fun e he _ => by cases he; exact bT)) c hc
    · exact hT.2.2.2 (fun c => (mgp cover (nI x) (nI y) (fun _ => 0) fd).1 c ≠ 0) (res_cl hS) (tryM_sub (fun c _ h => absurd rfl h) (fun e he _ => by cases he; exact bS)) c hc
  rw [gap_mk (by omega) hy, gap_mk (by omega) hy]
  exact cnt_congr (fun c hc => by
    have := hm c hc
    exact decide_eq_decide.mpr this)
theorem ndI_cnt (g : Nat → Bool) (t : Nat) : (ndI g t).1 ≤ cnt g t ∧ cnt g t + (3 - (ndI g t).2 % 3) % 3 ≤ 3 * (ndI g t).1 := by
  induction t with
  | zero => exact ⟨Nat.le_refl 0, by show 0 + (3 - 0 % 3) % 3 ≤ 3 * 0; decide⟩
  | succ t ih =>
    rw [ndI, cnt]
    cases hg : g t
    · simp only [Bool.false_eq_true, if_false]
      omega
    · simp only [if_true]
      by_cases h3 : (ndI g t).2 % 3 = 0
      · rw [if_pos h3]; omega
      · rw [if_neg h3]; omega
theorem ndL_cs (g : Nat → Nat → Bool) (st n : Nat) : ndL g st n ≤ cs g st n ∧ cs g st n ≤ 3 * ndL g st n := by
  induction n with
  | zero => exact ⟨Nat.le_refl 0, Nat.le_refl 0⟩
  | succ n ih =>
    have := ndI_cnt (g n) st
    rw [ndL, cs]
    omega
theorem pfm_mkc (mk : Nat → Int32) (ac : Bool) : pfm mk ac ≤ mkc mk ∧ mkc mk ≤ 3 * pfm mk ac := by
  have e : mkc mk = cs (fun i t => decide (¬ mk (10 * i + t) = 0)) 10 8 := cs_lines (fun c => decide (¬ mk c = 0)) 8
  rw [e, pfm]
  cases ac
  · rw [cs_flip]
    exact ndL_cs (pfg mk false) 8 10
  · exact ndL_cs (pfg mk true) 10 8
/-! patterns -/
theorem off_at {np : Nat} {P : Nat → Pd} {cover : Nat → Int32} {k c : Nat} {a b : Int32} (h : fitB np P cover (c % 10) (c / 10) k a b = decide (colv np P cover (10 * (c / 10) + c % 10) = a)) : offB np P cover k a b c = !decide (colv np P cover c = a) := by
  rw [offB, h, show 10 * (c / 10) + c % 10 = c by omega]
theorem off_k {np : Nat} {P : Nat → Pd} {cover : Nat → Int32} {k : Nat} {a b : Int32} (h : k = 0 ∨ (k ≤ 2 ∧ b = a)) : cnt (offB np P cover k a b) 80 = 80 - cnt (fun c => decide (colv np P cover c = a)) 80 := by
  have h1 := cnt_not (fun c => decide (colv np P cover c = a)) 80
  have h2 : cnt (offB np P cover k a b) 80 = cnt (fun c => !decide (colv np P cover c = a)) 80 := cnt_congr (fun c hc => by
    refine off_at ?_
    rw [fitB]
    rcases h with h | ⟨h, rfl⟩
    · rw [if_pos h]
    · rcases (show k = 0 ∨ k = 1 ∨ k = 2 by omega) with e | e | e <;> subst e <;> simp)
  omega
theorem line_even {L : Nat → Bool} (h : ∀ t, t < 10 → L t = L (9 - t)) : cnt L 10 % 2 = 0 := by
  have h9 := h 9 (by omega)
  have h8 := h 8 (by omega)
  have h7 := h 7 (by omega)
  have h6 := h 6 (by omega)
  have h5 := h 5 (by omega)
  simp only [cnt, h9, h8, h7, h6, h5, Nat.reduceSub]
  omega
theorem off_3 {np : Nat} {P : Nat → Pd} {cover : Nat → Int32} {a b : Int32} : cnt (offB np P cover 3 a b) 80 % 2 = 0 := by
  have e : cnt (offB np P cover 3 a b) 80 = cs (fun i t => offB np P cover 3 a b (10 * i + t)) 10 8 := cs_lines _ 8
  rw [e]
  refine cs_even (fun i hi => line_even (fun t ht => ?_))
  show offB np P cover 3 a b (10 * i + t) = offB np P cover 3 a b (10 * i + (9 - t))
  rw [offB, offB, show (10 * i + t) % 10 = t by omega, show (10 * i + t) / 10 = i by omega, show (10 * i + (9 - t)) % 10 = 9 - t by omega, show (10 * i + (9 - t)) / 10 = i by omega, fitB, fitB]
  simp only [Nat.succ_ne_self, if_false, show ¬ (3 : Nat) = 0 by omega, show ¬ (3 : Nat) = 1 by omega, show ¬ (3 : Nat) = 2 by omega, show 9 - (9 - t) = t by omega]
  congr 1
  exact decide_eq_decide.mpr ⟨Eq.symm, Eq.symm⟩
theorem advS_spec {np : Nat} {P : Nat → Pd} {wet cover : Nat → Int32} {k : Nat} {a b : Int32} (n : Nat) : (advS np P wet cover k a b n).1 = -1 ∨ ∃ j, j < n ∧ (advS np P wet cover k a b n).1 = nI j ∧ lsp (P j) wet = true := by
  induction n with
  | zero => exact Or.inl rfl
  | succ n ih =>
    rw [advS]
    split
    · rename_i h
      rw [Bool.and_eq_true] at h
      exact Or.inr ⟨n, Nat.lt_succ_self n, rfl, h.1⟩
    · rcases ih with h | ⟨j, hj, h1, h2⟩
      · exact Or.inl h
      · exact Or.inr ⟨j, by omega, h1, h2⟩
/-! hours -/
theorem fstI_spec (B : Nat → Bool) : ∀ f i, (fstI B f i = -1 ∧ ∀ j, i ≤ j → j < i + f → B j = false) ∨ ∃ k, i ≤ k ∧ k < i + f ∧ fstI B f i = nI k ∧ B k = true ∧ ∀ j, i ≤ j → j < k → B j = false := by
  intro f
  induction f with
  | zero => intro i; exact Or.inl ⟨rfl, fun j h1 h2 => by omega⟩
  | succ f ih =>
    intro i
    rw [fstI]
    cases hb : B i
    · rcases ih (i + 1) with ⟨h1, h2⟩ | ⟨k, k1, k2, k3, k4, k5⟩
      · refine Or.inl ⟨h1, fun j j1 j2 => ?_⟩
        by_cases e : j = i
        · rw [e]; exact hb
        · exact h2 j (by omega) (by omega)
      · refine Or.inr ⟨k, by omega, by omega, k3, k4, fun j j1 j2 => ?_⟩
        by_cases e : j = i
        · rw [e]; exact hb
        · exact k5 j (by omega) j2
    · exact Or.inr ⟨i, Nat.le_refl i, by omega, rfl, hb, fun j j1 j2 => by omega⟩
theorem fstI_val {B : Nat → Bool} {k : Nat} : ∀ {f i : Nat}, i ≤ k → k < i + f → B k = true → (∀ j, i ≤ j → j < k → B j = false) → fstI B f i = nI k := by
  intro f
  induction f with
  | zero => intro i h1 h2; omega
  | succ f ih =>
    intro i h1 h2 h3 h4
    rw [fstI]
    by_cases e : i = k
    · subst e; rw [h3]; rfl
    · rw [h4 i (Nat.le_refl i) (by omega)]
      exact ih (by omega) (by omega) h3 (fun j j1 j2 => h4 j (by omega) j2)
theorem wetN_add (wet cover sun : Nat → Int32) (hr h : Nat) : ∀ i, wetN (wetN wet cover sun hr h) cover sun (hr + h) i = wetN wet cover sun hr (h + i) := by
  intro i
  induction i with
  | zero => rfl
  | succ i ih => rw [wetN, ih, ← Nat.add_assoc, wetN, Nat.add_assoc hr h i]
theorem dry1_1 {f cover : Nat → Int32} {less : Int32} {ev : Bool} {c : Nat} (h : 1 ≤ dry1 f cover less ev c) : 1 ≤ f c := by
  rw [dry1] at h
  by_cases q : 1 ≤ f c ∧ (cover c = -1 ∨ ev = true)
  · exact q.1
  · rw [if_neg q] at h; exact h
theorem wetN_1le {wet cover sun : Nat → Int32} {hr c : Nat} : ∀ n, 1 ≤ wetN wet cover sun hr n c → 1 ≤ wet c := by
  intro n
  induction n with
  | zero => intro h; exact h
  | succ n ih => intro h; exact ih (dry1_1 h)
def dryB (wet cover sun : Nat → Int32) (hr i : Nat) : Bool := decide (cnt (fun c => decide (1 ≤ wetN wet cover sun hr i c)) 80 = 0)
theorem dryB_s {wet cover sun : Nat → Int32} {hr i : Nat} (h : dryB wet cover sun hr i = true) : dryB wet cover sun hr (i + 1) = true := by
  have h0 := of_decide_eq_true h
  refine decide_eq_true ?_
  have h1 : cnt (fun c => decide (1 ≤ wetN wet cover sun hr (i + 1) c)) 80 ≤ cnt (fun c => decide (1 ≤ wetN wet cover sun hr i c)) 80 := cnt_mono (fun c _ hc => decide_eq_true (dry1_1 (of_decide_eq_true hc)))
  omega
theorem dryB_le {wet cover sun : Nat → Int32} {hr i j : Nat} (hij : i ≤ j) (h : dryB wet cover sun hr i = true) : dryB wet cover sun hr j = true := by
  induction j with
  | zero => rw [show i = 0 by omega] at h; exact h
  | succ j ih =>
    by_cases e : i = j + 1
    · rw [← e]; exact h
    · exact dryB_s (ih (by omega))
/-- what dry tells before and behind h hours -/
theorem dry_two (wet cover sun : Nat → Int32) (hr h : Nat) : fstI (dryB wet cover sun hr) 201 0 = -1 ∨ ∃ k, k ≤ 200 ∧ fstI (dryB wet cover sun hr) 201 0 = nI k ∧ (h < k → fstI (dryB (wetN wet cover sun hr h) cover sun (hr + h)) 201 0 = nI (k - h)) ∧ (k ≤ h → fstI (dryB (wetN wet cover sun hr h) cover sun (hr + h)) 201 0 = nI 0) := by
  have e : ∀ i, dryB (wetN wet cover sun hr h) cover sun (hr + h) i = dryB wet cover sun hr (h + i) := fun i => by rw [dryB, dryB, wetN_add]
  rcases fstI_spec (dryB wet cover sun hr) 201 0 with ⟨h1, -⟩ | ⟨k, k1, k2, k3, k4, k5⟩
  · exact Or.inl h1
  · refine Or.inr ⟨k, by omega, k3, fun hk => ?_, fun hk => ?_⟩
    · exact fstI_val (by omega) (by omega) (by rw [e, show h + (k - h) = k by omega]; exact k4) (fun j j1 j2 => by rw [e]; exact k5 _ (by omega) (by omega))
    · exact fstI_val (by omega) (by omega) (by rw [e]; exact dryB_le (by omega) k4) (fun j j1 j2 => by omega)
theorem loose_le {np : Nat} {P : Nat → Pd} {wet cover sun : Nat → Int32} {hr h : Nat} : cnt (fun k => lsp (P k) (wetN wet cover sun hr h)) np ≤ cnt (fun k => lsp (P k) wet) np :=
  cnt_mono (fun k _ hk => by
    rw [lsp, lse, Bool.and_eq_true] at hk ⊢
    exact ⟨hk.1, allB_iff.mpr (fun j hj => decide_eq_true (wetN_1le h (of_decide_eq_true (allB_iff.mp hk.2 j hj))))⟩)
/-- a cell's mortar, now and some hours on -/
theorem wetN_two {wet cover sun : Nat → Int32} {hr c : Nat} (hw : WetOk wet) (hs : SunOk sun) (hc : c < 80) (n : Nat) : (wet c = -1 ∧ wetN wet cover sun hr n c = -1) ∨ ∃ w v : Nat, w ≤ 12 ∧ v ≤ w ∧ wet c = nI w ∧ wetN wet cover sun hr n c = nI v := by
  induction n with
  | zero =>
    rcases hw c hc with e | ⟨w, w1, e⟩
    · exact Or.inl ⟨e, e⟩
    · exact Or.inr ⟨w, w, w1, Nat.le_refl w, e, e⟩
  | succ n ih =>
    obtain ⟨k, hk, e⟩ := hs ((hr + n) % 8) (Nat.mod_lt _ (by omega))
    rw [wetN, dry1, e]
    rcases ih with ⟨h1, h2⟩ | ⟨w, v, w1, v1, h1, h2⟩
    · rw [h2, if_neg (fun q => absurd q.1 (by decide))]
      exact Or.inl ⟨h1, rfl⟩
    · rw [h2]
      split
      · rw [dry_v v (by omega) k (by omega)]
        exact Or.inr ⟨w, v - k, w1, by omega, h1, rfl⟩
      · exact Or.inr ⟨w, v, w1, v1, h1, rfl⟩
theorem decL_in {f : Nat → Int32} {cl : Nat → Nat} {c n : Nat} (hi : ∀ i j, cl i = cl j → i = j) (h : ∃ j, j < n ∧ cl j = c) : decL f cl n c = f c - 1 := by
  have hout : ∀ n, (∀ j, j < n → cl j ≠ c) → decL f cl n c = f c := by
    intro n
    induction n with
    | zero => intro _; rfl
    | succ n ih => intro h; rw [decL, pk_un (Ne.symm (h n (Nat.lt_succ_self n)))]; exact ih (fun j hj => h j (by omega))
  induction n with
  | zero => obtain ⟨j, hj, -⟩ := h; omega
  | succ n ih =>
    obtain ⟨j, hj, hc⟩ := h
    rw [decL]
    by_cases e : c = cl n
    · rw [← e, pk_us, hout n (fun i hi2 e2 => by have := hi i n (e2.trans e); omega)]
    · rw [pk_un e]
      refine ih ⟨j, ?_, hc⟩
      rcases Nat.lt_succ_iff_lt_or_eq.mp hj with h2 | h2
      · exact h2
      · subst h2; exact absurd hc.symm e
theorem decL_out {f : Nat → Int32} {cl : Nat → Nat} {c n : Nat} (h : ∀ j, j < n → cl j ≠ c) : decL f cl n c = f c := by
  induction n with
  | zero => rfl
  | succ n ih => rw [decL, pk_un (Ne.symm (h n (Nat.lt_succ_self n)))]; exact ih (fun j hj => h j (by omega))
/-! covered cells, piece by piece -/
def tkB (cover : Nat → Int32) (k c : Nat) : Bool := decide (0 ≤ cover c) && decide ((cover c).toNatClampNeg < k)
def tkI (cover : Nat → Int32) (cl : Nat → Nat) (k : Nat) : Nat → Nat → Bool
  | 0, c => tkB cover k c
  | i + 1, c => tkI cover cl k i c || decide (cl i = c)
theorem tkI_iff {cover : Nat → Int32} {cl : Nat → Nat} {k i c : Nat} : tkI cover cl k i c = true ↔ tkB cover k c = true ∨ ∃ j, j < i ∧ cl j = c := by
  induction i with
  | zero => exact ⟨Or.inl, fun h => h.elim id (fun ⟨j, hj, _⟩ => absurd hj (Nat.not_lt_zero j))⟩
  | succ i ih =>
    rw [tkI, Bool.or_eq_true, ih, decide_eq_true_eq]
    constructor
    · rintro ((h | ⟨j, hj, h⟩) | h)
      · exact Or.inl h
      · exact Or.inr ⟨j, by omega, h⟩
      · exact Or.inr ⟨i, Nat.lt_succ_self i, h⟩
    · rintro (h | ⟨j, hj, h⟩)
      · exact Or.inl (Or.inl h)
      · rcases Nat.lt_succ_iff_lt_or_eq.mp hj with h2 | h2
        · exact Or.inl (Or.inr ⟨j, h2, h⟩)
        · subst h2; exact Or.inr h
theorem tkB_nI {cover : Nat → Int32} {k j c : Nat} (hj : j < 2 ^ 31) (h : cover c = nI j) : tkB cover k c = decide (j < k) := by
  rw [tkB, h, decide_eq_true (nI_pos' hj), nI_clamp hj, Bool.true_and]
theorem tkB_m1 {cover : Nat → Int32} {k c : Nat} (h : cover c = -1) : tkB cover k c = false := by
  rw [tkB, h]; rfl
theorem tk_0 {np : Nat} {cover : Nat → Int32} {c : Nat} (hn : np ≤ 100) (h : CovOk np cover) (hc : c < 80) : tkB cover 0 c = false := by
  rcases h c hc with e | ⟨j, hj, e⟩
  · exact tkB_m1 e
  · rw [tkB_nI (by omega) e]; exact decide_eq_false (Nat.not_lt_zero j)
theorem tk_np {np : Nat} {cover : Nat → Int32} {c : Nat} (hn : np ≤ 100) (h : CovOk np cover) (hc : c < 80) : tkB cover np c = decide (0 ≤ cover c) := by
  rcases h c hc with e | ⟨j, hj, e⟩
  · rw [tkB_m1 e, e]; rfl
  · rw [tkB_nI (by omega) e, e, decide_eq_true (nI_pos' (by omega)), decide_eq_true hj]
theorem tk_out {np k : Nat} {P : Nat → Pd} {cover : Nat → Int32} {c : Nat} (hn : np ≤ 100) (h : Own np P cover) (hk : k < np) (ho : qo (P k) = true) (hc : c < 80) : tkB cover (k + 1) c = tkB cover k c := by
  rcases h.1 c hc with e | ⟨j, hj, e⟩
  · rw [tkB_m1 e, tkB_m1 e]
  · rw [tkB_nI (by omega) e, tkB_nI (by omega) e]
    by_cases e2 : j = k
    · subst e2
      have h9 := ((h.2 j hk c hc).mp e).1
      rw [ho] at h9; cases h9
    · exact decide_eq_decide.mpr (by omega)
theorem tk_end {np k : Nat} {P : Nat → Pd} {cover : Nat → Int32} {c : Nat} (hn : np ≤ 100) (h : Own np P cover) (hk : k < np) (ho : qo (P k) = false) (hc : c < 80) : tkI cover (pcl (P k)) k (ql (P k)) c = tkB cover (k + 1) c := by
  rw [Bool.eq_iff_iff, tkI_iff]
  rcases h.1 c hc with e | ⟨j, hj, e⟩
  · rw [tkB_m1 e, tkB_m1 e]
    constructor
    · rintro (h1 | h1)
      · exact h1
      · have := (h.2 k hk c hc).mpr ⟨ho, h1⟩
        rw [e] at this; exact absurd this.symm (m1_nI (by omega))
    · intro h1; exact Or.inl h1
  · rw [tkB_nI (by omega) e, tkB_nI (by omega) e, decide_eq_true_eq, decide_eq_true_eq]
    constructor
    · rintro (h1 | h1)
      · omega
      · have := (h.2 k hk c hc).mpr ⟨ho, h1⟩
        rw [e, nI_eq (by omega) (by omega)] at this; omega
    · intro h1
      by_cases e2 : j = k
      · subst e2; exact Or.inr ((h.2 j hk c hc).mp e).2
      · exact Or.inl (by omega)
theorem tk_new {np k i : Nat} {P : Nat → Pd} {cover : Nat → Int32} (hn : np ≤ 100) (hg : Pok np P) (h : Own np P cover) (hk : k < np) (ho : qo (P k) = false) (hi : i < ql (P k)) : cover (pcl (P k) i) = nI k ∧ tkI cover (pcl (P k)) k i (pcl (P k) i) = false := by
  have h8 : pcl (P k) i < 80 := (hg k hk).2.2.2.2 i hi
  have h1 := (h.2 k hk _ h8).mpr ⟨ho, i, hi, rfl⟩
  refine ⟨h1, ?_⟩
  rw [Bool.eq_false_iff]
  intro h2
  rcases tkI_iff.mp h2 with h3 | ⟨j, hj, h3⟩
  · rw [tkB_nI (by omega) h1, decide_eq_true_eq] at h3; omega
  · have := cel_inj h3; omega
theorem tk_cnt {cover : Nat → Int32} {cl : Nat → Nat} {k i : Nat} (h8 : cl i < 80) (h : tkI cover cl k i (cl i) = false) : cnt (tkI cover cl k (i + 1)) 80 = cnt (tkI cover cl k i) 80 + 1 :=
  cnt_up _ (fun c hc => by rw [tkI, decide_eq_false (Ne.symm hc), Bool.or_false]) h8 h (by rw [tkI, decide_eq_true rfl, Bool.or_true])
