/-! rows of whole that serve here: marks, the search of a gap, what holds between two calls -/
theorem onW_nat {x y : Int32} (h : onW x y = true) : ∃ a b : Nat, a ≤ 9 ∧ b ≤ 7 ∧ x = nI a ∧ y = nI b := by
  simp only [onW, Bool.and_eq_true] at h
  obtain ⟨a, ha, rfl⟩ := inR_nI (n := 9) rfl h.1
  obtain ⟨b, hb, rfl⟩ := inR_nI (n := 7) rfl h.2
  exact ⟨a, b, ha, hb, rfl, rfl⟩
/-- how many are marked -/
def mkc (f : Nat → Int32) : Nat := cnt (fun c => decide (¬ f c = 0)) 80
theorem cnt_up {P : Nat → Bool} {n k : Nat} (R : Nat → Bool) (hR : ∀ i, i ≠ k → R i = P i) (hk : k < n) (h0 : P k = false) (h1 : R k = true) : cnt R n = cnt P n + 1 := by
  induction n with
  | zero => omega
  | succ n ih =>
    by_cases e : k = n
    · subst e
      rw [cnt_t h1, cnt_f h0, cnt_congr (fun i hi => hR i (by omega))]
    · rw [cnt, cnt, ih (by omega), hR n (by omega)]
      omega
theorem mkc_up {f : Nat → Int32} {k : Nat} (hk : k < 80) (h0 : f k = 0) : mkc (upd f k 1) = mkc f + 1 := by
  refine cnt_up _ (fun i hi => by rw [pk_un hi]) hk ?_ ?_
  · rw [h0]; decide
  · rw [pk_us]; decide
theorem mkc_le (f : Nat → Int32) : mkc f ≤ 80 := cnt_le _ _
theorem mkc_lt {f : Nat → Int32} {k : Nat} (hk : k < 80) (h0 : f k = 0) : mkc f < 80 := by
  have := mkc_up hk h0
  have := mkc_le (upd f k 1)
  omega
theorem sub1N (n : Nat) (h : 1 ≤ n) : nI n - 1 = nI (n - 1) := by rw [show (1 : Int32) = nI 1 from rfl, pk_sub h]
theorem oth_flp (p : Pd) : shw (flp p) = oth p := by
  obtain ⟨a, b, c, d, e, f, g, h⟩ := p
  cases g <;> rfl
theorem shw_flp (p : Pd) : oth (flp p) = shw p := by
  obtain ⟨a, b, c, d, e, f, g, h⟩ := p
  cases g <;> rfl
def nb (c sd : Nat) : Option Nat := if sd = 0 then (if c % 10 < 9 then some (c + 1) else none) else if sd = 1 then (if 0 < c % 10 then some (c - 1) else none) else if sd = 2 then (if c / 10 < 7 then some (c + 10) else none) else (if 0 < c / 10 then some (c - 10) else none)
theorem nb_lt {c sd d : Nat} (hc : c < 80) (h : nb c sd = some d) : d < 80 := by
  unfold nb at h
  (repeat' split at h) <;> first | (simp at h; done) | (simp only [Option.some.injEq] at h; omega)
def tryM (cover : Nat → Int32) (d : Option Nat) (S : Sg) : Sg := match d with
  | none => S
  | some d => if cover d = -1 ∧ S.1 d = 0 then (upd S.1 d 1, upd S.2.1 S.2.2 (nI d), S.2.2 + 1) else S
theorem m1_nI2 : ∀ c, c < 80 → ¬ nI c = -1 := fun c hc => m1_nI (by omega)
theorem rch_try {cover : Nat → Int32} {x y : Int32} {d : Nat} {S : Sg} (ho : onW x y = true) (hd : 10 * y + x = nI d) (h8 : d < 80) (hm : S.2.2 ≤ mkc S.1) : rch cover x y S = tryM cover (some d) S := by
  rw [rch, rchT, ho, hd, atv_nI h8 (by omega), atv_nI h8 (by omega), Bool.true_and]
  show _ = (if cover d = -1 ∧ S.1 d = 0 then (upd S.1 d 1, upd S.2.1 S.2.2 (nI d), S.2.2 + 1) else S)
  by_cases hq : cover d = -1 ∧ S.1 d = 0
  · have hlt := mkc_lt h8 hq.2
    rw [if_pos hq, if_pos (by rw [hq.1, hq.2]; rfl), putv_nI h8 (by omega), putv_nI (by omega) (by omega)]
  · rw [if_neg hq, if_neg (by
      intro h9
      rw [Bool.and_eq_true, decide_eq_true_eq, decide_eq_true_eq] at h9
      exact hq h9)]
theorem rch_off {cover : Nat → Int32} {x y : Int32} {S : Sg} (ho : onW x y = false) : rch cover x y S = S := by
  rw [rch, rchT, ho, Bool.false_and]; rfl
theorem nb_l : ∀ c, c < 80 → onW (nI c - nI c / 10 * 10 - 1) (nI c / 10) = (nb c 1).isSome ∧ (nb c 1 = none ∨ 10 * (nI c / 10) + (nI c - nI c / 10 * 10 - 1) = nI ((nb c 1).getD 0)) := by decide +kernel
theorem nb_r : ∀ c, c < 80 → onW (nI c - nI c / 10 * 10 + 1) (nI c / 10) = (nb c 0).isSome ∧ (nb c 0 = none ∨ 10 * (nI c / 10) + (nI c - nI c / 10 * 10 + 1) = nI ((nb c 0).getD 0)) := by decide +kernel
theorem nb_u : ∀ c, c < 80 → onW (nI c - nI c / 10 * 10) (nI c / 10 - 1) = (nb c 3).isSome ∧ (nb c 3 = none ∨ 10 * (nI c / 10 - 1) + (nI c - nI c / 10 * 10) = nI ((nb c 3).getD 0)) := by decide +kernel
theorem nb_d : ∀ c, c < 80 → onW (nI c - nI c / 10 * 10) (nI c / 10 + 1) = (nb c 2).isSome ∧ (nb c 2 = none ∨ 10 * (nI c / 10 + 1) + (nI c - nI c / 10 * 10) = nI ((nb c 2).getD 0)) := by decide +kernel
theorem rch_nb {cover : Nat → Int32} {x y : Int32} {c sd : Nat} {S : Sg} (hc : c < 80) (h : onW x y = (nb c sd).isSome ∧ (nb c sd = none ∨ 10 * y + x = nI ((nb c sd).getD 0))) (hm : S.2.2 ≤ mkc S.1) : rch cover x y S = tryM cover (nb c sd) S := by
  cases hd : nb c sd with
  | none => rw [hd] at h; exact rch_off h.1
  | some d =>
    rw [hd] at h
    rcases h.2 with h2 | h2
    · cases h2
    · exact rch_try h.1 h2 (nb_lt hc hd) hm
def QI (mk0 : Nat → Int32) (S : Sg) : Prop := (∀ j, j < S.2.2 → ∃ c, c < 80 ∧ S.2.1 j = nI c ∧ S.1 c ≠ 0 ∧ mk0 c = 0) ∧ (∀ c, c < 80 → S.1 c ≠ 0 → mk0 c ≠ 0 ∨ ∃ j, j < S.2.2 ∧ S.2.1 j = nI c) ∧ (∀ c, c < 80 → mk0 c ≠ 0 → S.1 c ≠ 0) ∧ mkc S.1 = mkc mk0 + S.2.2
def Ext (S T : Sg) : Prop := S.2.2 ≤ T.2.2 ∧ (∀ j, j < S.2.2 → T.2.1 j = S.2.1 j) ∧ (∀ c, S.1 c ≠ 0 → T.1 c ≠ 0)
theorem Ext.rf {S : Sg} : Ext S S := ⟨Nat.le_refl _, fun _ _ => rfl, fun _ h => h⟩
theorem Ext.tr {S T U : Sg} (h1 : Ext S T) (h2 : Ext T U) : Ext S U := ⟨Nat.le_trans h1.1 h2.1, fun j hj => (h2.2.1 j (Nat.lt_of_lt_of_le hj h1.1)).trans (h1.2.1 j hj), fun c h => h2.2.2 c (h1.2.2 c h)⟩
theorem i10 : (1 : Int32) ≠ 0 := by decide
theorem tryM_QI {cover mk0 : Nat → Int32} {d : Option Nat} {S : Sg} (h : QI mk0 S) (hd : ∀ e, d = some e → e < 80) : QI mk0 (tryM cover d S) := by
  cases d with
  | none => exact h
  | some d =>
    have h8 := hd d rfl
    show QI mk0 (if cover d = -1 ∧ S.1 d = 0 then (upd S.1 d 1, upd S.2.1 S.2.2 (nI d), S.2.2 + 1) else S)
    by_cases hq : cover d = -1 ∧ S.1 d = 0
    · rw [if_pos hq]
      obtain ⟨h1, h2, h3, h4⟩ := h
      refine ⟨fun j hj => ?_, fun c hc hm => ?_, fun c hc hm => ?_, ?_⟩
      · show ∃ c, c < 80 ∧ upd S.2.1 S.2.2 (nI d) j = nI c ∧ upd S.1 d 1 c ≠ 0 ∧ mk0 c = 0
        by_cases e : j = S.2.2
        · subst e
          refine ⟨d, h8, pk_us, by rw [pk_us]; exact i10, ?_⟩
          by_cases h0 : mk0 d = 0
          · exact h0
          · exact absurd hq.2 (h3 d h8 h0)
        · obtain ⟨c, c1, c2, c3, c4⟩ := h1 j (by have : j < S.2.2 + 1 := hj; omega)
          refine ⟨c, c1, by rw [pk_un e]; exact c2, ?_, c4⟩
          by_cases e2 : c = d
          · subst e2; rw [pk_us]; exact i10
          · rw [pk_un e2]; exact c3
      · show mk0 c ≠ 0 ∨ ∃ j, j < S.2.2 + 1 ∧ upd S.2.1 S.2.2 (nI d) j = nI c
        by_cases e2 : c = d
        · subst e2; exact Or.inr ⟨S.2.2, Nat.lt_succ_self _, pk_us⟩
        · have hm : upd S.1 d 1 c ≠ 0 := hm
          rw [pk_un e2] at hm
          rcases h2 c hc hm with h | ⟨j, j1, j2⟩
          · exact Or.inl h
          · exact Or.inr ⟨j, by omega, by rw [pk_un (by omega)]; exact j2⟩
      · show upd S.1 d 1 c ≠ 0
        by_cases e2 : c = d
        · subst e2; rw [pk_us]; exact i10
        · rw [pk_un e2]; exact h3 c hc hm
      · show mkc (upd S.1 d 1) = mkc mk0 + (S.2.2 + 1)
        rw [mkc_up h8 hq.2, h4]; omega
    · rw [if_neg hq]; exact h
theorem tryM_ext {cover : Nat → Int32} {d : Option Nat} {S : Sg} : Ext S (tryM cover d S) := by
  cases d with
  | none => exact Ext.rf
  | some d =>
    show Ext S (if cover d = -1 ∧ S.1 d = 0 then (upd S.1 d 1, upd S.2.1 S.2.2 (nI d), S.2.2 + 1) else S)
    split
    · refine ⟨Nat.le_succ _, fun j hj => ?_, fun c hc => ?_⟩
      · exact pk_un (by omega)
      · show upd S.1 d 1 c ≠ 0
        by_cases e2 : c = d
        · subst e2; rw [pk_us]; exact i10
        · rw [pk_un e2]; exact hc
    · exact Ext.rf
theorem tryM_done {cover : Nat → Int32} {e : Nat} {S : Sg} (hc : cover e = -1) : (tryM cover (some e) S).1 e ≠ 0 := by
  show (if cover e = -1 ∧ S.1 e = 0 then ((upd S.1 e 1, upd S.2.1 S.2.2 (nI e), S.2.2 + 1) : Sg) else S).1 e ≠ 0
  by_cases hq : S.1 e = 0
  · rw [if_pos ⟨hc, hq⟩]; show upd S.1 e 1 e ≠ 0; rw [pk_us]; exact i10
  · rw [if_neg (fun h => hq h.2)]; exact hq
theorem tryM_sub {cover : Nat → Int32} {d : Option Nat} {S : Sg} {K : Nat → Prop} (h : ∀ c, c < 80 → S.1 c ≠ 0 → K c) (hd : ∀ e, d = some e → cover e = -1 → K e) : ∀ c, c < 80 → (tryM cover d S).1 c ≠ 0 → K c := by
  cases d with
  | none => exact h
  | some d =>
    intro c hc hm
    have hm : (if cover d = -1 ∧ S.1 d = 0 then ((upd S.1 d 1, upd S.2.1 S.2.2 (nI d), S.2.2 + 1) : Sg) else S).1 c ≠ 0 := hm
    by_cases hq : cover d = -1 ∧ S.1 d = 0
    · rw [if_pos hq] at hm
      have hm : upd S.1 d 1 c ≠ 0 := hm
      by_cases e2 : c = d
      · subst e2; exact hd c rfl hq.1
      · rw [pk_un e2] at hm; exact h c hc hm
    · rw [if_neg hq] at hm; exact h c hc hm
def Dn (cover : Nat → Int32) (S : Sg) (j sd : Nat) : Prop := ∀ c, c < 80 → S.2.1 j = nI c → ∀ d, nb c sd = some d → cover d = -1 → S.1 d ≠ 0
theorem Dn.ext {cover : Nat → Int32} {S T : Sg} {j sd : Nat} (h : Dn cover S j sd) (hj : j < S.2.2) (e : Ext S T) : Dn cover T j sd := fun c hc hf d hd hv => e.2.2 d (h c hc ((e.2.1 j hj).symm.trans hf) d hd hv)
def Cl (cover mk0 : Nat → Int32) (K : Nat → Prop) : Prop := ∀ c, c < 80 → K c → mk0 c = 0 → ∀ sd, sd < 4 → ∀ d, nb c sd = some d → cover d = -1 → K d
def Res (cover mk0 : Nat → Int32) (S T : Sg) : Prop := QI mk0 T ∧ (∀ j sd, sd < 4 → j < T.2.2 → Dn cover T j sd) ∧ Ext S T ∧ ∀ K : Nat → Prop, Cl cover mk0 K → (∀ c, c < 80 → S.1 c ≠ 0 → K c) → ∀ c, c < 80 → T.1 c ≠ 0 → K c
theorem QI.n {mk0 : Nat → Int32} {S : Sg} (h : QI mk0 S) : S.2.2 ≤ mkc S.1 ∧ S.2.2 ≤ 80 := by
  have h4 := h.2.2.2
  have := mkc_le S.1
  omega
theorem dn_try {cover : Nat → Int32} {S T : Sg} {j sd c : Nat} (hc : c < 80) (hj : j < S.2.2) (hf : S.2.1 j = nI c) (e1 : Ext S T) (e2 : Ext T (tryM cover (nb c sd) T)) : Dn cover (tryM cover (nb c sd) T) j sd := by
  intro c2 hc2 hf2 d hd hv
  have hf3 : nI c2 = nI c := by rw [← hf2, (e1.tr e2).2.1 j hj, hf]
  rw [nI_eq (by omega) (by omega)] at hf3
  subst hf3
  rw [hd]
  exact tryM_done hv
theorem mg1_try {cover mk0 : Nat → Int32} {c : Nat} {S : Sg} (hc : c < 80) (h : QI mk0 S) : mg1 cover (nI c) S = tryM cover (nb c 2) (tryM cover (nb c 3) (tryM cover (nb c 0) (tryM cover (nb c 1) S))) := by
  have q1 := tryM_QI (cover := cover) (d := nb c 1) h (fun e he => nb_lt hc he)
  have q2 := tryM_QI (cover := cover) (d := nb c 0) q1 (fun e he => nb_lt hc he)
  have q3 := tryM_QI (cover := cover) (d := nb c 3) q2 (fun e he => nb_lt hc he)
  rw [mg1, rch_nb hc (nb_l c hc) h.n.1, rch_nb hc (nb_r c hc) q1.n.1, rch_nb hc (nb_u c hc) q2.n.1, rch_nb hc (nb_d c hc) q3.n.1]
theorem mgL_run {cover mk0 : Nat → Int32} : ∀ (f i : Nat) (S : Sg), f + i = 81 → QI mk0 S → (∀ j sd, sd < 4 → j < i → j < S.2.2 → Dn cover S j sd) → Res cover mk0 S (mgL cover f i S) := by
  intro f
  induction f with
  | zero =>
    intro i S hf hQ hD
    have := hQ.n.2
    exact ⟨hQ, fun j sd h1 h2 => hD j sd h1 (by have : j < S.2.2 := h2; omega) h2, Ext.rf, fun K _ h => h⟩
  | succ f ih =>
    intro i S hf hQ hD
    rw [mgL]
    by_cases hq : i < S.2.2 ∧ i < 80
    · rw [if_pos hq]
      obtain ⟨c, hc, hfi, hm, h0⟩ := hQ.1 i hq.1
      rw [hfi, mg1_try hc hQ]
      have q1 := tryM_QI (cover := cover) (d := nb c 1) hQ (fun e he => nb_lt hc he)
      have q2 := tryM_QI (cover := cover) (d := nb c 0) q1 (fun e he => nb_lt hc he)
      have q3 := tryM_QI (cover := cover) (d := nb c 3) q2 (fun e he => nb_lt hc he)
      have q4 := tryM_QI (cover := cover) (d := nb c 2) q3 (fun e he => nb_lt hc he)
      have e1 : Ext S (tryM cover (nb c 1) S) := tryM_ext
      have e2 : Ext (tryM cover (nb c 1) S) (tryM cover (nb c 0) (tryM cover (nb c 1) S)) := tryM_ext
      have e3 : Ext (tryM cover (nb c 0) (tryM cover (nb c 1) S)) (tryM cover (nb c 3) (tryM cover (nb c 0) (tryM cover (nb c 1) S))) := tryM_ext
      have e4 : Ext (tryM cover (nb c 3) (tryM cover (nb c 0) (tryM cover (nb c 1) S))) (tryM cover (nb c 2) (tryM cover (nb c 3) (tryM cover (nb c 0) (tryM cover (nb c 1) S)))) := tryM_ext
      have d1 := dn_try (cover := cover) (sd := 1) hc hq.1 hfi Ext.rf e1
      have d0 := dn_try (cover := cover) (sd := 0) hc hq.1 hfi e1 e2
      have d3 := dn_try (cover := cover) (sd := 3) hc hq.1 hfi (e1.tr e2) e3
      have d2 := dn_try (cover := cover) (sd := 2) hc hq.1 hfi ((e1.tr e2).tr e3) e4
      have n1 : i < (tryM cover (nb c 1) S).2.2 := Nat.lt_of_lt_of_le hq.1 e1.1
      have n2 : i < (tryM cover (nb c 0) (tryM cover (nb c 1) S)).2.2 := Nat.lt_of_lt_of_le n1 e2.1
      have n3 : i < (tryM cover (nb c 3) (tryM cover (nb c 0) (tryM cover (nb c 1) S))).2.2 := Nat.lt_of_lt_of_le n2 e3.1
      have d1 := d1.ext n1 (e2.tr (e3.tr e4))
      have d0 := d0.ext n2 (e3.tr e4)
      have d3 := d3.ext n3 e4
      have eA := e1.tr (e2.tr (e3.tr e4))
      obtain ⟨r1, r2, r3, r4⟩ := ih (i + 1) _ (by omega) q4 (fun j sd hsd hj hn => by
        by_cases e : j = i
        · subst e
          rcases (show sd = 0 ∨ sd = 1 ∨ sd = 2 ∨ sd = 3 by omega) with rfl | rfl | rfl | rfl
          · exact d0
          · exact d1
          · exact d2
          · exact d3
        · exact (hD j sd hsd (by omega) (by omega)).ext (by omega) eA)
      refine ⟨r1, r2, eA.tr r3, fun K hK hs => r4 K hK ?_⟩
      have hKc : ∀ sd, sd < 4 → ∀ e, nb c sd = some e → cover e = -1 → K e := fun sd hsd e he hv => hK c hc (hs c hc hm) h0 sd hsd e he hv
      exact tryM_sub (tryM_sub (tryM_sub (tryM_sub hs (hKc 1 (by omega))) (hKc 0 (by omega))) (hKc 3 (by omega))) (hKc 2 (by omega))
    · rw [if_neg hq]
      have := hQ.n.2
      exact ⟨hQ, fun j sd h1 h2 => hD j sd h1 (by have : j < S.2.2 := h2; omega) h2, Ext.rf, fun K _ h => h⟩
theorem res_cl {cover mk0 : Nat → Int32} {S T : Sg} (h : Res cover mk0 S T) : Cl cover mk0 (fun c => T.1 c ≠ 0) := by
  intro c hc hm h0 sd hsd d hd hv
  rcases h.1.2.1 c hc hm with h9 | ⟨j, hj, hf⟩
  · exact absurd h0 h9
  · exact h.2.1 j sd hsd hj c hc hf d hd hv
theorem QI0 {mk0 fd : Nat → Int32} : QI mk0 (mk0, fd, 0) := ⟨fun j hj => absurd hj (Nat.not_lt_zero j), fun c _ h => Or.inl h, fun c _ h => h, by show mkc mk0 = mkc mk0 + 0; rw [Nat.add_zero]⟩
theorem gap_eq {cover mk0 fo0 fd rw0 : Nat → Int32} {a : Nat} (ha : a < 80) (hB : ∀ c, c < 80 → (mk0 c ≠ 0 ↔ fo0 c ≠ 0)) (hv : cover a = -1) (h0 : mk0 a = 0) {S T : Sg} (hS : Res cover mk0 (tryM cover (some a) (mk0, fd, 0)) S) (hT : Res cover fo0 (tryM cover (some a) (fo0, rw0, 0)) T) : (∀ c, c < 80 → (S.1 c ≠ 0 ↔ T.1 c ≠ 0)) ∧ S.2.2 = T.2.2 := by
  have aS : S.1 a ≠ 0 := hS.2.2.1.2.2 a (tryM_done hv)
  have aT : T.1 a ≠ 0 := hT.2.2.1.2.2 a (tryM_done hv)
  have z : ∀ c, c < 80 → (mk0 c = 0 ↔ fo0 c = 0) := fun c hc => by
    have := hB c hc
    constructor
    · intro h; apply Classical.byContradiction; intro h2; exact this.mpr h2 h
    · intro h; apply Classical.byContradiction; intro h2; exact this.mp h2 h
  have hm : ∀ c, c < 80 → (S.1 c ≠ 0 ↔ T.1 c ≠ 0) := fun c hc => by
    constructor
    · refine hS.2.2.2 (fun c => T.1 c ≠ 0) (fun c hc hm h0 => res_cl hT c hc hm ((z c hc).mp h0)) ?_ c hc
      exact tryM_sub (fun c hc h => hT.1.2.2.1 c hc ((hB c hc).mp h)) (fun e he _ => by cases he; exact aT)
    · refine hT.2.2.2 (fun c => S.1 c ≠ 0) (fun c hc hm h0 => res_cl hS c hc hm ((z c hc).mpr h0)) ?_ c hc
      exact tryM_sub (fun c hc h => hS.1.2.2.1 c hc ((hB c hc).mpr h)) (fun e he _ => by cases he; exact aS)
  refine ⟨hm, ?_⟩
  have c1 : mkc S.1 = mkc T.1 := cnt_congr (fun c hc => by
    have := hm c hc
    by_cases h : S.1 c = 0
    · by_cases h2 : T.1 c = 0
      · rw [h, h2]
      · exact absurd h (this.mpr h2)
    · rw [decide_eq_true h, decide_eq_true (this.mp h)])
  have c2 : mkc mk0 = mkc fo0 := cnt_congr (fun c hc => by
    have := z c hc
    by_cases h : mk0 c = 0
    · rw [h, this.mp h]
    · rw [decide_eq_true h, decide_eq_true (show ¬ fo0 c = 0 from fun h2 => h (this.mpr h2))])
  have h1 := hS.1.2.2.2
  have h2 := hT.1.2.2.2
  omega
/-- the class's marks from a cell that none covers, none marked -/
theorem mgp_res {cover mk0 fd : Nat → Int32} {x y a : Nat} (hx : x ≤ 9) (hy : y ≤ 7) (ha : 10 * y + x = a) : Res cover mk0 (tryM cover (some a) (mk0, fd, 0)) (mgp cover (nI x) (nI y) mk0 fd) := by
  have ha8 : a < 80 := by omega
  have e : rch cover (nI x) (nI y) (mk0, fd, 0) = tryM cover (some a) (mk0, fd, 0) := rch_try (by rw [onW_nI (by omega) (by omega), decide_eq_true hx, decide_eq_true hy]; rfl) (by rw [cel_nI, ha]) ha8 (Nat.zero_le _)
  rw [mgp, e]
  exact mgL_run 81 0 _ rfl (tryM_QI QI0 (fun e he => by cases he; exact ha8)) (fun j sd _ h => absurd h (Nat.not_lt_zero j))
/-- .. and from another: nothing -/
theorem mgp_none {cover mk0 fd : Nat → Int32} {x y : Nat} (hx : x ≤ 9) (hy : y ≤ 7) (h : ¬ (cover (10 * y + x) = -1 ∧ mk0 (10 * y + x) = 0)) : mgp cover (nI x) (nI y) mk0 fd = (mk0, fd, 0) := by
  have e : rch cover (nI x) (nI y) (mk0, fd, 0) = tryM cover (some (10 * y + x)) (mk0, fd, 0) := rch_try (by rw [onW_nI (by omega) (by omega), decide_eq_true hx, decide_eq_true hy]; rfl) (cel_nI _ _) (by omega) (Nat.zero_le _)
  have e2 : tryM cover (some (10 * y + x)) (mk0, fd, 0) = (mk0, fd, 0) := by
    show (if cover (10 * y + x) = -1 ∧ mk0 (10 * y + x) = 0 then _ else _) = _
    rw [if_neg h]
  rw [mgp, e, e2, mgL, if_neg (fun h => absurd h.1 (Nat.not_lt_zero 0))]
theorem ndI_congr {g h : Nat → Bool} {t : Nat} (e : ∀ i, i < t → g i = h i) : ndI g t = ndI h t := by
  induction t with
  | zero => rfl
  | succ t ih => rw [ndI, ndI, ih (fun i hi => e i (by omega)), e t (by omega)]
theorem ndL_congr {g h : Nat → Nat → Bool} {st n : Nat} (e : ∀ i t, i < n → t < st → g i t = h i t) : ndL g st n = ndL h st n := by
  induction n with
  | zero => rfl
  | succ n ih => rw [ndL, ndL, ih (fun i t hi ht => e i t (by omega) ht), ndI_congr (fun t ht => e n t (by omega) ht)]
theorem ndI_z {t : Nat} {g : Nat → Bool} (h : ∀ i, i < t → g i = false) : ndI g t = (0, 0) := by
  induction t with
  | zero => rfl
  | succ t ih => rw [ndI, ih (fun i hi => h i (by omega)), h t (by omega)]; rfl
theorem ndL_z {g : Nat → Nat → Bool} {st n : Nat} (e : ∀ i t, i < n → t < st → g i t = false) : ndL g st n = 0 := by
  induction n with
  | zero => rfl
  | succ n ih => rw [ndL, ih (fun i t hi ht => e i t (by omega) ht), ndI_z (fun t ht => e n t (by omega) ht)]; rfl
def SunOk (sun : Nat → Int32) : Prop := ∀ i, i < 8 → ∃ k : Nat, k ≤ 4 ∧ sun i = nI k
def WQ (x : Int32) : Prop := x = -1 ∨ ∃ w : Nat, w ≤ 12 ∧ x = nI w
def CQ (np : Nat) (x : Int32) : Prop := x = -1 ∨ ∃ k, k < np ∧ x = nI k
theorem upd_q {Q : Int32 → Prop} {N : Nat} {f : Nat → Int32} {k : Nat} {v : Int32} (h : ∀ c, c < N → Q (f c)) (hv : Q v) : ∀ c, c < N → Q (upd f k v c) := by
  intro c hc
  by_cases e : c = k
  · subst e; rw [pk_us]; exact hv
  · rw [pk_un e]; exact h c hc
theorem setL_q {Q : Int32 → Prop} {N : Nat} {f : Nat → Int32} {cl : Nat → Nat} {v : Int32} (h : ∀ c, c < N → Q (f c)) (hv : Q v) : ∀ n, ∀ c, c < N → Q (setL f cl v n c) := by
  intro n
  induction n with
  | zero => exact h
  | succ n ih => exact upd_q ih hv
theorem spr_q {wet cover : Nat → Int32} {x y w : Nat} (h : WetOk wet) : ∀ n, WetOk (sprW wet cover x y w n) := by
  intro n
  induction n with
  | zero => exact h
  | succ n ih =>
    rw [sprW]
    split
    · exact upd_q (Q := WQ) ih (Or.inr ⟨12, Nat.le_refl _, rfl⟩)
    · exact ih
theorem cel_inj {x y : Nat} {ac : Bool} {i j : Nat} (h : cel x y ac i = cel x y ac j) : i = j := by
  cases ac
  · simp only [cel, Bool.false_eq_true, if_false] at h; omega
  · simp only [cel, if_true] at h; omega
theorem decL_q {f : Nat → Int32} {cl : Nat → Nat} {N : Nat} (hc : ∀ i j, cl i = cl j → i = j) (h1 : ∀ j, j < N → 1 ≤ f (cl j)) (h8 : ∀ j, j < N → cl j < 80) (hf : WetOk f) : ∀ n, n ≤ N → WetOk (decL f cl n) ∧ ∀ j, n ≤ j → decL f cl n (cl j) = f (cl j) := by
  intro n
  induction n with
  | zero => intro _; exact ⟨hf, fun _ _ => rfl⟩
  | succ n ih =>
    intro hn
    obtain ⟨a, b⟩ := ih (by omega)
    refine ⟨?_, fun j hj => ?_⟩
    · rw [decL, b n (Nat.le_refl n)]
      refine upd_q (Q := WQ) a ?_
      have h9 := h1 n (by omega)
      rcases hf (cl n) (h8 n (by omega)) with e | ⟨w, hw, e⟩
      · rw [e] at h9; exact absurd h9 (by decide)
      · rw [e] at h9 ⊢
        rw [fa_le, nI_toInt (by omega)] at h9
        have e1 : (1 : Int32).toInt = 1 := rfl
        exact Or.inr ⟨w - 1, by omega, sub1N w (by omega)⟩
    · rw [decL, pk_un (fun e => by have := hc _ _ e; omega)]
      exact b j (by omega)
theorem dry_v : ∀ w, w < 13 → ∀ k, k < 5 → (if 0 < nI w - nI k then nI w - nI k else 0) = nI (w - k) := by decide +kernel
theorem dry_q {f cover : Nat → Int32} {less : Int32} {ev : Bool} {k : Nat} (hk : k ≤ 4) (hl : less = nI k) (h : WetOk f) : WetOk (dry1 f cover less ev) := by
  intro c hc
  rw [dry1]
  split
  · rename_i h9
    rcases h c hc with e | ⟨w, hw, e⟩
    · rw [e] at h9; exact absurd h9.1 (by decide)
    · rw [e, hl, dry_v w (by omega) k (by omega)]
      exact Or.inr ⟨w - k, by omega, rfl⟩
  · exact h c hc
theorem wetN_q {wet cover sun : Nat → Int32} {hr : Nat} (h : WetOk wet) (hs : SunOk sun) : ∀ n, WetOk (wetN wet cover sun hr n) := by
  intro n
  induction n with
  | zero => exact h
  | succ n ih =>
    obtain ⟨k, hk, e⟩ := hs ((hr + n) % 8) (Nat.mod_lt _ (by omega))
    exact dry_q hk e ih
theorem cd0_2 {a b : Bool} (h : (if a then (if b then 0 else 2) else 1) = 0) : a = true ∧ b = true := by cases a <;> cases b <;> simp at h ⊢
theorem cd0_3 {a b c : Bool} (h : (if a then (if b then (if c then 0 else 3) else 2) else 1) = 0) : a = true ∧ b = true ∧ c = true := by cases a <;> cases b <;> cases c <;> simp at h ⊢
theorem cd0_1 {a : Bool} (h : (if a then 0 else 1) = 0) : a = true := by cases a <;> simp at h ⊢
theorem lsp_1 {p : Pd} {f : Nat → Int32} (h : lsp p f = true) : ∀ j, j < ql p → 1 ≤ f (pcl p j) := by
  rw [lsp, lse, Bool.and_eq_true] at h
  intro j hj
  exact of_decide_eq_true (allB_iff.mp h.2 j hj)
theorem lcmp0 {a b : Int64} (h : a = b) : lg_cmp a b = 0 := by
  subst h
  unfold lg_cmp
  rw [if_neg (Int64.lt_irrefl), if_pos rfl]
theorem nI_z {k : Nat} (h : k < 2 ^ 31) (e : nI k = 0) : k = 0 := by
  rw [← nI_0, nI_eq h (by omega)] at e
  exact e
theorem shareEq : ∀ n, n ≤ 80 → Op.cmpValue (FP.dcmp (shareD n) (shareD n)) .l = 0 := by
  have h : (List.range 81).all (fun n => decide (Op.cmpValue (FP.dcmp (shareD n) (shareD n)) .l = 0)) = true := by decide +kernel
  intro n hn
  exact of_decide_eq_true (List.all_eq_true.mp h n (List.mem_range.mpr (by omega)))
