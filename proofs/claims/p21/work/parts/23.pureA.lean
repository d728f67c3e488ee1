/-! what holds between two steps of the law -/
def Pw (p : Pd) : Prop := (if qc p then qx p + ql p else qy p + ql p) ≤ (if qc p then 10 else 8) ∧ (∃ a : Nat, a ≤ 6 ∧ qf p = nI a) ∧ ∃ a : Nat, a ≤ 6 ∧ qb p = nI a
def Own (np : Nat) (P : Nat → Pd) (cover : Nat → Int32) : Prop := CovOk np cover ∧ ∀ k, k < np → ∀ c, c < 80 → (cover c = nI k ↔ qo (P k) = false ∧ ∃ j, j < ql (P k) ∧ pcl (P k) j = c)
def JV (np : Nat) (wet cover sun : Nat → Int32) (P : Nat → Pd) (pcs : Nat → Option Nat) (pa : Nat → Nat) : Prop :=
  np ≤ 100 ∧ Pok np P ∧ (∀ k, k < np → Pw (P k)) ∧ Own np P cover ∧ WetOk wet ∧ SunOk sun ∧ ∀ k, k < np → pcs k = some (pa k)
theorem setL_in {f : Nat → Int32} {cl : Nat → Nat} {v : Int32} {c n : Nat} (h : ∃ j, j < n ∧ cl j = c) : setL f cl v n c = v := by
  induction n with
  | zero => obtain ⟨j, hj, -⟩ := h; omega
  | succ n ih =>
    rw [setL]
    by_cases e : c = cl n
    · rw [← e, pk_us]
    · rw [pk_un e]
      obtain ⟨j, hj, hc⟩ := h
      refine ih ⟨j, ?_, hc⟩
      rcases Nat.lt_succ_iff_lt_or_eq.mp hj with h2 | h2
      · exact h2
      · subst h2; exact absurd hc.symm e
theorem setL_out {f : Nat → Int32} {cl : Nat → Nat} {v : Int32} {c n : Nat} (h : ∀ j, j < n → cl j ≠ c) : setL f cl v n c = f c := by
  induction n with
  | zero => rfl
  | succ n ih =>
    rw [setL, pk_un (Ne.symm (h n (Nat.lt_succ_self n)))]
    exact ih (fun j hj => h j (by omega))
theorem inout (p : Pd) (c : Nat) : (∃ j, j < ql p ∧ pcl p j = c) ∨ (∀ j, j < ql p → pcl p j ≠ c) := by
  by_cases h : ∃ j, j < ql p ∧ pcl p j = c
  · exact Or.inl h
  · exact Or.inr (fun j hj e => h ⟨j, hj, e⟩)
theorem hrm_at {wet cover : Nat → Int32} {x y ln : Nat} {ac : Bool} {own : Int32} (hx : x ≤ 9) (hy : y ≤ 7) (h1 : 1 ≤ ln) (h3 : ln ≤ 3) (h : hrm wet cover x y ln ac own = true) : (if ac then x + ln else y + ln) ≤ (if ac then 10 else 8) ∧ ∀ j, j < ln → 1 ≤ wet (cel x y ac j) ∧ (cover (cel x y ac j) = -1 ∨ cover (cel x y ac j) = own) := by
  rw [lie_hrm hx hy h1 h3, lieB, Bool.and_eq_true] at h
  refine ⟨of_decide_eq_true h.1, fun j hj => ?_⟩
  have h9 := allB_iff.mp h.2 j hj
  simp only [frm, Bool.and_eq_true, Bool.or_eq_true, decide_eq_true_eq] at h9
  exact h9
theorem hrm_mk {wet cover : Nat → Int32} {x y ln : Nat} {ac : Bool} {own : Int32} (hx : x ≤ 9) (hy : y ≤ 7) (h1 : 1 ≤ ln) (h3 : ln ≤ 3) (hb : (if ac then x + ln else y + ln) ≤ (if ac then 10 else 8)) (h : ∀ j, j < ln → 1 ≤ wet (cel x y ac j) ∧ (cover (cel x y ac j) = -1 ∨ cover (cel x y ac j) = own)) : hrm wet cover x y ln ac own = true := by
  rw [lie_hrm hx hy h1 h3, lieB, Bool.and_eq_true]
  refine ⟨decide_eq_true hb, allB_iff.mpr (fun j hj => ?_)⟩
  have h9 := h j hj
  simp only [frm, Bool.and_eq_true, Bool.or_eq_true, decide_eq_true_eq]
  exact h9
theorem Pw.cell {p : Pd} (h : Pw p) (hg : Pg p) {j : Nat} (hj : j < ql p) : qx p + (if qc p then j else 0) ≤ 9 ∧ qy p + (if qc p then 0 else j) ≤ 7 ∧ pcl p j = 10 * (qy p + (if qc p then 0 else j)) + (qx p + (if qc p then j else 0)) := by
  obtain ⟨h1, -⟩ := h
  obtain ⟨g1, g2, g3, g4, -⟩ := hg
  rw [pcl, cel]
  cases hq : qc p
  · simp only [hq, Bool.false_eq_true, if_false] at h1 ⊢
    omega
  · simp only [hq, if_true] at h1 ⊢
    omega
theorem own_press {np : Nat} {P : Nat → Pd} {cover : Nat → Int32} {p : Pd} (hn : np < 100) (h : Own np P cover) (ho : qo p = false) (hc : ∀ j, j < ql p → cover (pcl p j) = -1) : Own (np + 1) (pup P np p) (setL cover (pcl p) (nI np) (ql p)) := by
  obtain ⟨h1, h2⟩ := h
  refine ⟨fun c hc8 => ?_, fun k hk c hc8 => ?_⟩
  · rcases inout p c with hi | hi
    · rw [setL_in hi]; exact Or.inr ⟨np, by omega, rfl⟩
    · rw [setL_out hi]
      rcases h1 c hc8 with e | ⟨k, hk, e⟩
      · exact Or.inl e
      · exact Or.inr ⟨k, by omega, e⟩
  · by_cases e : k = np
    · rw [e, pup_s]
      rcases inout p c with hi | hi
      · rw [setL_in hi]; exact ⟨fun _ => ⟨ho, hi⟩, fun _ => rfl⟩
      · rw [setL_out hi]
        constructor
        · intro h9
          rcases h1 c hc8 with e2 | ⟨k2, hk2, e2⟩
          · rw [e2] at h9; exact absurd h9.symm (m1_nI (by omega))
          · rw [e2, nI_eq (by omega) (by omega)] at h9; omega
        · rintro ⟨-, j, hj, hjc⟩; exact absurd hjc (hi j hj)
    · rw [pup_n e]
      have hk' : k < np := by omega
      rcases inout p c with ⟨j, hj, hjc⟩ | hi
      · rw [setL_in ⟨j, hj, hjc⟩]
        constructor
        · intro h9; rw [nI_eq (by omega) (by omega)] at h9; omega
        · intro h9
          have h8 := (h2 k hk' c hc8).mpr h9
          rw [← hjc, hc j hj] at h8
          exact absurd h8.symm (m1_nI (by omega))
      · rw [setL_out hi]; exact h2 k hk' c hc8
theorem own_same {np k : Nat} {P : Nat → Pd} {cover : Nat → Int32} {p : Pd} (h : Own np P cover) (h1 : qo p = qo (P k)) (h2 : ql p = ql (P k)) (h3 : pcl p = pcl (P k)) : Own np (pup P k p) cover := by
  refine ⟨h.1, fun j hj c hc => ?_⟩
  by_cases e : j = k
  · subst e; rw [pup_s, h1, h2, h3]; exact h.2 j hj c hc
  · rw [pup_n e]; exact h.2 j hj c hc
theorem own_turn {np k : Nat} {P : Nat → Pd} {cover : Nat → Int32} (hn : np ≤ 100) (hk : k < np) (h : Own np P cover) (ho : qo (P k) = false) (hc : ∀ j, j < ql (P k) → cover (pcl (trn (P k)) j) = -1 ∨ cover (pcl (trn (P k)) j) = nI k) : Own np (pup P k (trn (P k))) (setL (setL cover (pcl (P k)) (-1) (ql (P k))) (pcl (trn (P k))) (nI k) (ql (P k))) := by
  obtain ⟨h1, h2⟩ := h
  have hout : ∀ c, (∀ j, j < ql (P k) → pcl (trn (P k)) j ≠ c) → setL (setL cover (pcl (P k)) (-1) (ql (P k))) (pcl (trn (P k))) (nI k) (ql (P k)) c = setL cover (pcl (P k)) (-1) (ql (P k)) c := fun c h => setL_out h
  have hinn : ∀ c, (∃ j, j < ql (P k) ∧ pcl (trn (P k)) j = c) → setL (setL cover (pcl (P k)) (-1) (ql (P k))) (pcl (trn (P k))) (nI k) (ql (P k)) c = nI k := fun c h => setL_in h
  refine ⟨fun c hc8 => ?_, fun j9 hj9 c hc8 => ?_⟩
  · rcases inout (trn (P k)) c with hi | hi
    · rw [hinn c hi]; exact Or.inr ⟨k, hk, rfl⟩
    · rw [hout c hi]
      rcases inout (P k) c with h9 | h9
      · rw [setL_in h9]; exact Or.inl rfl
      · rw [setL_out h9]; exact h1 c hc8
  · by_cases e : j9 = k
    · rw [e, pup_s]
      rcases inout (trn (P k)) c with hi | hi
      · rw [hinn c hi]; exact ⟨fun _ => ⟨ho, hi⟩, fun _ => rfl⟩
      · rw [hout c hi]
        constructor
        · intro h8
          rcases inout (P k) c with h9 | h9
          · rw [setL_in h9] at h8; exact absurd h8.symm (m1_nI (by omega))
          · rw [setL_out h9] at h8
            obtain ⟨-, j, hj, hjc⟩ := (h2 k hk c hc8).mp h8
            exact absurd hjc (h9 j hj)
        · rintro ⟨-, j, hj, hjc⟩; exact absurd hjc (hi j hj)
    · rw [pup_n e]
      rcases inout (trn (P k)) c with ⟨j, hj, hjc⟩ | hi
      · rw [hinn c ⟨j, hj, hjc⟩]
        constructor
        · intro h9; rw [nI_eq (by omega) (by omega)] at h9; omega
        · intro h9
          have h8 := (h2 j9 hj9 c hc8).mpr h9
          have h7 := hc j hj
          rw [hjc, h8] at h7
          rcases h7 with h7 | h7
          · exact absurd h7 (m1_nI (by omega))
          · rw [nI_eq (by omega) (by omega)] at h7; omega
      · rw [hout c hi]
        rcases inout (P k) c with h9 | h9
        · rw [setL_in h9]
          have h7 := (h2 k hk c hc8).mpr ⟨ho, h9⟩
          constructor
          · intro h6; exact absurd h6.symm (m1_nI (by omega))
          · intro h6
            have h8 := (h2 j9 hj9 c hc8).mpr h6
            rw [h7, nI_eq (by omega) (by omega)] at h8; omega
        · rw [setL_out h9]; exact h2 j9 hj9 c hc8
theorem own_take {np k : Nat} {P : Nat → Pd} {cover : Nat → Int32} (hn : np ≤ 100) (hk : k < np) (h : Own np P cover) (ho : qo (P k) = false) : Own np (pup P k (tko (P k))) (setL cover (pcl (P k)) (-1) (ql (P k))) := by
  obtain ⟨h1, h2⟩ := h
  refine ⟨fun c hc8 => ?_, fun j9 hj9 c hc8 => ?_⟩
  · rcases inout (P k) c with h9 | h9
    · rw [setL_in h9]; exact Or.inl rfl
    · rw [setL_out h9]; exact h1 c hc8
  · by_cases e : j9 = k
    · rw [e, pup_s]
      constructor
      · intro h8
        rcases inout (P k) c with h9 | h9
        · rw [setL_in h9] at h8; exact absurd h8.symm (m1_nI (by omega))
        · rw [setL_out h9] at h8
          obtain ⟨-, j, hj, hjc⟩ := (h2 k hk c hc8).mp h8
          exact absurd hjc (h9 j hj)
      · rintro ⟨h9, -⟩; cases h9
    · rw [pup_n e]
      rcases inout (P k) c with h9 | h9
      · rw [setL_in h9]
        have h7 := (h2 k hk c hc8).mpr ⟨ho, h9⟩
        constructor
        · intro h6; exact absurd h6.symm (m1_nI (by omega))
        · intro h6
          have h8 := (h2 j9 hj9 c hc8).mpr h6
          rw [h7, nI_eq (by omega) (by omega)] at h8; omega
      · rw [setL_out h9]; exact h2 j9 hj9 c hc8
theorem trn2 (p : Pd) : trn (trn p) = p := by
  obtain ⟨a, b, c, d, e, f, g, h⟩ := p
  simp [trn]
/-- turned there and back: the cells as before -/
theorem turn2 {np k : Nat} {P : Nat → Pd} {cover : Nat → Int32} (hn : np ≤ 100) (hk : k < np) (hg : Pok np P) (h : Own np P cover) (ho : qo (P k) = false) (hgt : ∀ j, j < ql (P k) → pcl (trn (P k)) j < 80) (hc : ∀ j, j < ql (P k) → cover (pcl (trn (P k)) j) = -1 ∨ cover (pcl (trn (P k)) j) = nI k) : setL (setL (setL (setL cover (pcl (P k)) (-1) (ql (P k))) (pcl (trn (P k))) (nI k) (ql (P k))) (pcl (trn (P k))) (-1) (ql (P k))) (pcl (P k)) (nI k) (ql (P k)) = cover := by
  funext c
  rcases inout (P k) c with hi | hi
  · rw [setL_in hi]
    obtain ⟨j, hj, hjc⟩ := hi
    have h8 : c < 80 := by rw [← hjc]; exact (hg k hk).2.2.2.2 j hj
    exact ((h.2 k hk c h8).mpr ⟨ho, j, hj, hjc⟩).symm
  · rw [setL_out hi]
    rcases inout (trn (P k)) c with ht | ht
    · have e1 : setL (setL (setL cover (pcl (P k)) (-1) (ql (P k))) (pcl (trn (P k))) (nI k) (ql (P k))) (pcl (trn (P k))) (-1) (ql (P k)) c = -1 := setL_in ht
      rw [e1]
      obtain ⟨j, hj, hjc⟩ := ht
      rcases hc j hj with h9 | h9
      · rw [hjc] at h9; exact h9.symm
      · rw [hjc] at h9
        have h8 : c < 80 := by rw [← hjc]; exact hgt j hj
        obtain ⟨-, j2, hj2, h2⟩ := (h.2 k hk c h8).mp h9
        exact absurd h2 (hi j2 hj2)
    · have e1 : setL (setL (setL cover (pcl (P k)) (-1) (ql (P k))) (pcl (trn (P k))) (nI k) (ql (P k))) (pcl (trn (P k))) (-1) (ql (P k)) c = setL (setL cover (pcl (P k)) (-1) (ql (P k))) (pcl (trn (P k))) (nI k) (ql (P k)) c := setL_out ht
      have e2 : setL (setL cover (pcl (P k)) (-1) (ql (P k))) (pcl (trn (P k))) (nI k) (ql (P k)) c = setL cover (pcl (P k)) (-1) (ql (P k)) c := setL_out ht
      rw [e1, e2, setL_out hi]
section JVs
variable {np : Nat} {wet cover sun : Nat → Int32} {P : Nat → Pd} {pcs : Nat → Option Nat} {pa : Nat → Nat}
theorem jv_0 : JV 0 (fun _ => -1) (fun _ => -1) (fun _ => 1) P (fun _ => none) pa :=
  ⟨Nat.zero_le _, fun k hk => absurd hk (Nat.not_lt_zero k), fun k hk => absurd hk (Nat.not_lt_zero k), ⟨fun _ _ => Or.inl rfl, fun k hk => absurd hk (Nat.not_lt_zero k)⟩, fun _ _ => Or.inl rfl, fun _ _ => ⟨1, by omega, rfl⟩, fun k hk => absurd hk (Nat.not_lt_zero k)⟩
theorem jv_spread (h : JV np wet cover sun P pcs pa) (x y w n : Nat) : JV np (sprW wet cover x y w n) cover sun P pcs pa := by
  obtain ⟨h1, h2, h3, h4, h5, h6, h7⟩ := h
  exact ⟨h1, h2, h3, h4, spr_q h5 n, h6, h7⟩
theorem jv_sun (h : JV np wet cover sun P pcs pa) {v s9 : Int32} (hc : cdSu v s9 = 0) : JV np wet cover (putv 8 sun v s9) P pcs pa := by
  obtain ⟨h1, h2, h3, h4, h5, h6, h7⟩ := h
  obtain ⟨-, c2⟩ := cd0_2 hc
  obtain ⟨j, hj, rfl⟩ := inR_nI (n := 4) rfl c2
  refine ⟨h1, h2, h3, h4, h5, ?_, h7⟩
  rw [putv]
  split
  · exact upd_q (Q := fun x => ∃ k : Nat, k ≤ 4 ∧ x = nI k) h6 ⟨j, hj, rfl⟩
  · exact h6
theorem jv_press (h : JV np wet cover sun P pcs pa) {x y ln f b : Int32} {a9 : Bool} (hc : cdPr np wet cover x y ln a9 f b = 0) (q : Nat) : JV (np + 1) wet (setL cover (pcl (vn x, vn y, vn ln, f, b, a9, false, false)) (nI np) (vn ln)) sun (pup P np (vn x, vn y, vn ln, f, b, a9, false, false)) (va_up pcs np (some q)) (va_up pa np q) ∧ lsp (vn x, vn y, vn ln, f, b, a9, false, false) wet = true := by
  obtain ⟨h1, h2, h3, h4, h5, h6, h7⟩ := h
  obtain ⟨c1, c2, c3⟩ := cd0_3 hc
  rw [Bool.and_eq_true] at c2 c3
  rw [Bool.and_eq_true] at c2
  have hn := inR99 h1 c3.1
  obtain ⟨n, hn1, hn2, rfl⟩ := inR1_of (N := 3) rfl (by decide) c2.1
  obtain ⟨x9, y9, hx, hy, rfl, rfl⟩ := onW_nat c1
  obtain ⟨f9, hf, rfl⟩ := inR_nI (n := 6) rfl c2.2.1
  obtain ⟨b9, hb, rfl⟩ := inR_nI (n := 6) rfl c2.2.2
  have hcx : vn (nI x9) = x9 := nI_clamp (by omega)
  have hcy : vn (nI y9) = y9 := nI_clamp (by omega)
  have hcn : vn (nI n) = n := nI_clamp (by omega)
  rw [hcx, hcy, hcn] at c3 ⊢
  obtain ⟨hb1, hb2⟩ := hrm_at hx hy hn1 hn2 c3.2
  refine ⟨⟨by omega, fun k hk => ?_, fun k hk => ?_, own_press (p := (x9, y9, n, nI f9, nI b9, a9, false, false)) (by omega) h4 rfl (fun j hj => (hb2 j hj).2.elim id id), h5, h6, fun k hk => ?_⟩, ?_⟩
  · by_cases e : k = np
    · subst e; rw [pup_s]
      exact ⟨hn1, hn2, hx, hy, hrm_cel hx hy hn2 c3.2⟩
    · rw [pup_n e]; exact h2 k (by omega)
  · by_cases e : k = np
    · subst e; rw [pup_s]
      exact ⟨hb1, ⟨f9, hf, rfl⟩, ⟨b9, hb, rfl⟩⟩
    · rw [pup_n e]; exact h3 k (by omega)
  · by_cases e : k = np
    · subst e; rw [va_up_self, va_up_self]
    · rw [va_up_ne _ _ e, va_up_ne _ _ e]; exact h7 k (by omega)
  · rw [lsp, lse, Bool.and_eq_true]
    exact ⟨rfl, allB_iff.mpr (fun j hj => decide_eq_true (hb2 j hj).1)⟩
theorem jv_flip (h : JV np wet cover sun P pcs pa) {k : Nat} (hk : k < np) (hc : cdFl np P wet (nI k) = 0) : lsp (P k) wet = true ∧ JV np (decL wet (pcl (P k)) (ql (P k))) cover sun (pup P k (flp (P k))) pcs pa := by
  obtain ⟨h1, h2, h3, h4, h5, h6, h7⟩ := h
  obtain ⟨c1, c2⟩ := cd0_2 hc
  have hck : vn (nI k) = k := nI_clamp (by omega)
  rw [hck] at c2
  have hg := h2 k hk
  refine ⟨c2, h1, fun j hj => ?_, fun j hj => ?_, own_same h4 rfl rfl rfl, (decL_q (fun i j e => cel_inj e) (lsp_1 c2) hg.2.2.2.2 h5 _ (Nat.le_refl _)).1, h6, h7⟩
  · by_cases e : j = k
    · subst e; rw [pup_s]; exact hg
    · rw [pup_n e]; exact h2 j hj
  · by_cases e : j = k
    · subst e; rw [pup_s]; exact h3 j hj
    · rw [pup_n e]; exact h3 j hj
theorem lsp_o {p : Pd} {f : Nat → Int32} (h : lsp p f = true) : qo p = false := by
  rw [lsp, lse, Bool.and_eq_true] at h
  cases e : qo p
  · rfl
  · rw [e] at h; cases h.1
theorem jv_turn (h : JV np wet cover sun P pcs pa) {k : Nat} (hk : k < np) (hc : cdTu np P wet cover (nI k) = 0) : (lsp (P k) wet = true ∧ JV np wet (setL (setL cover (pcl (P k)) (-1) (ql (P k))) (pcl (trn (P k))) (nI k) (ql (P k))) sun (pup P k (trn (P k))) pcs pa) ∧ (∀ j, j < ql (P k) → pcl (trn (P k)) j < 80) ∧ ∀ j, j < ql (P k) → 1 ≤ wet (pcl (trn (P k)) j) ∧ (cover (pcl (trn (P k)) j) = -1 ∨ cover (pcl (trn (P k)) j) = nI k) := by
  obtain ⟨h1, h2, h3, h4, h5, h6, h7⟩ := h
  obtain ⟨c1, c2⟩ := cd0_2 hc
  rw [Bool.and_eq_true] at c2
  have hck : vn (nI k) = k := nI_clamp (by omega)
  rw [hck] at c2
  obtain ⟨g1, g2, g3, g4, g5⟩ := h2 k hk
  obtain ⟨hb1, hb2⟩ := hrm_at g3 g4 g1 g2 c2.2
  have hcl := hrm_cel g3 g4 g2 c2.2
  refine ⟨⟨c2.1, h1, fun j hj => ?_, fun j hj => ?_, own_turn h1 hk h4 (lsp_o c2.1) (fun j hj => (hb2 j hj).2), h5, h6, h7⟩, hcl, hb2⟩
  · by_cases e : j = k
    · subst e; rw [pup_s]
      exact ⟨g1, g2, g3, g4, hcl⟩
    · rw [pup_n e]; exact h2 j hj
  · by_cases e : j = k
    · subst e; rw [pup_s]
      exact ⟨hb1, (h3 j hj).2⟩
    · rw [pup_n e]; exact h3 j hj
/-- a piece that was turned can be turned back -/
theorem turn_back (h : JV np wet cover sun P pcs pa) {k : Nat} (hk : k < np) (hc : cdTu np P wet cover (nI k) = 0) : cdTu np (pup P k (trn (P k))) wet (setL (setL cover (pcl (P k)) (-1) (ql (P k))) (pcl (trn (P k))) (nI k) (ql (P k))) (nI k) = 0 := by
  obtain ⟨⟨l1, -⟩, hcl, hb⟩ := jv_turn h hk hc
  obtain ⟨h1, h2, h3, h4, h5, h6, h7⟩ := h
  have hck : vn (nI k) = k := nI_clamp (by omega)
  obtain ⟨c1, -⟩ := cd0_2 hc
  obtain ⟨g1, g2, g3, g4, g5⟩ := h2 k hk
  rw [cdTu, if_pos c1, hck, pup_s, if_pos]
  rw [Bool.and_eq_true]
  constructor
  · rw [lsp, lse, Bool.and_eq_true]
    exact ⟨by show (!qo (P k)) = true; rw [lsp_o l1]; rfl, allB_iff.mpr (fun j hj => decide_eq_true (hb j hj).1)⟩
  · have e : (!qc (trn (P k))) = qc (P k) := by show (!!qc (P k)) = _; cases qc (P k) <;> rfl
    rw [e]
    refine hrm_mk g3 g4 g1 g2 (h3 k hk).1 (fun j hj => ⟨lsp_1 l1 j hj, ?_⟩)
    have hj2 : pcl (P k) j < 80 := g5 j hj
    show setL (setL cover (pcl (P k)) (-1) (ql (P k))) (pcl (trn (P k))) (nI k) (ql (P k)) (pcl (P k) j) = -1 ∨ _
    rcases inout (trn (P k)) (pcl (P k) j) with hi | hi
    · exact Or.inr (setL_in hi)
    · have e1 : setL (setL cover (pcl (P k)) (-1) (ql (P k))) (pcl (trn (P k))) (nI k) (ql (P k)) (pcl (P k) j) = setL cover (pcl (P k)) (-1) (ql (P k)) (pcl (P k) j) := setL_out hi
      exact Or.inl (e1.trans (setL_in ⟨j, hj, rfl⟩))
theorem jv_take (h : JV np wet cover sun P pcs pa) {k : Nat} (hk : k < np) (hc : cdTa np P (nI k) = 0) : qo (P k) = false ∧ JV np (if lsp (P k) wet = true then wet else setL wet (pcl (P k)) (-1) (ql (P k))) (setL cover (pcl (P k)) (-1) (ql (P k))) sun (pup P k (tko (P k))) pcs pa := by
  obtain ⟨h1, h2, h3, h4, h5, h6, h7⟩ := h
  have hck : vn (nI k) = k := nI_clamp (by omega)
  have ho : qo (P k) = false := by
    rw [cdTa, hck] at hc
    cases e : qo (P k)
    · rfl
    · rw [e] at hc
      cases e2 : pIn np (nI k) <;> rw [e2] at hc <;> simp at hc
  have hg := h2 k hk
  refine ⟨ho, h1, fun j hj => ?_, fun j hj => ?_, own_take h1 hk h4 ho, ?_, h6, h7⟩
  · by_cases e : j = k
    · subst e; rw [pup_s]; exact hg
    · rw [pup_n e]; exact h2 j hj
  · by_cases e : j = k
    · subst e; rw [pup_s]; exact h3 j hj
    · rw [pup_n e]; exact h3 j hj
  · split
    · exact h5
    · exact setL_q (Q := WQ) h5 (Or.inl rfl) _
theorem jv_pass (h : JV np wet cover sun P pcs pa) (hr n : Nat) : JV np (wetN wet cover sun hr n) cover sun P pcs pa := by
  obtain ⟨h1, h2, h3, h4, h5, h6, h7⟩ := h
  exact ⟨h1, h2, h3, h4, wetN_q h5 h6 _, h6, h7⟩
end JVs
