/-! the class's search and the reference's mark the same cells -/
def nb (c sd : Nat) : Option Nat := if sd = 0 then (if c % 10 < 9 then some (c + 1) else none) else if sd = 1 then (if 0 < c % 10 then some (c - 1) else none) else if sd = 2 then (if c / 10 < 7 then some (c + 10) else none) else (if 0 < c / 10 then some (c - 10) else none)
theorem nb_lt {c sd d : Nat} (hc : c < 80) (h : nb c sd = some d) : d < 80 := by
  unfold nb at h
  (repeat' split at h) <;> first | (simp at h; done) | (simp only [Option.some.injEq] at h; omega)
def tryM (cover : Nat → Int32) (d : Option Nat) (S : Sg) : Sg := match d with
  | none => S
  | some d => if cover d = -1 ∧ S.1 d = 0 then (upd S.1 d 1, upd S.2.1 S.2.2 (nI d), S.2.2 + 1) else S
theorem bes_nb : ∀ c, c < 80 → ∀ sd, sd < 4 → bes (nI c) sd = (match nb c sd with | some d => nI d | none => -1) := by decide +kernel
theorem m1_nI2 : ∀ c, c < 80 → ¬ nI c = -1 := fun c hc => m1_nI (by omega)
theorem fl1_try {cover : Nat → Int32} {c sd : Nat} {S : Sg} (hc : c < 80) (hsd : sd < 4) : fl1 cover (nI c) sd S = tryM cover (nb c sd) S := by
  have h := bes_nb c hc sd hsd
  rw [fl1, h]
  cases hd : nb c sd with
  | none => rw [if_neg (by simp)]; rfl
  | some d =>
    have hd8 := nb_lt hc hd
    have hv : vn (nI d) = d := nI_clamp (by omega)
    show (if ¬ nI d = -1 ∧ cover (vn (nI d)) = -1 ∧ S.1 (vn (nI d)) = 0 then (upd S.1 (vn (nI d)) 1, upd S.2.1 S.2.2 (nI d), S.2.2 + 1) else S) = (if cover d = -1 ∧ S.1 d = 0 then (upd S.1 d 1, upd S.2.1 S.2.2 (nI d), S.2.2 + 1) else S)
    rw [hv]
    by_cases hq : cover d = -1 ∧ S.1 d = 0
    · rw [if_pos hq, if_pos ⟨m1_nI2 d hd8, hq⟩]
    · rw [if_neg hq, if_neg (fun h9 => hq h9.2)]
theorem rch_try {cover : Nat → Int32} {x y : Int32} {d : Nat} {S : Sg} (ho : onW x y = true) (hd : 10 * y + x = nI d) (h8 : d < 80) (hm : S.2.2 ≤ mkc S.1) : rch cover x y S = tryM cover (some d) S := by
  rw [rch, rchT, ho, hd, atv_nI h8 (by omega), atv_nI h8 (by omega), Bool.true_and]
  show _ = (if cover d = -1 ∧ S.1 d = 0 then (upd S.1 d 1, upd S.2.1 S.2.2 (nI d), S.2.2 + 1) else S)
  by_cases hq : cover d = -1 ∧ S.1 d = 0
  · have hlt := mkc_lt h8 hq.2
    rw [if_pos hq, if_pos (by rw [hq.1, hq.2]; rfl), putv_nI h8 (by omega), putv_nI (by omega) (by omega)]
  · rw [if_neg hq, if_neg (by
      intro h9
      rw [Bool.and_eq_true, decide_eq_true_eq, decide_eq_true_eq] at h9
      exact hq h9)]
theorem rch_off {cover : Nat → Int32} {x y : Int32} {S : Sg} (ho : onW x y = false) : rch cover x y S = S := by
  rw [rch, rchT, ho, Bool.false_and]; rfl
theorem nb_l : ∀ c, c < 80 → onW (nI c - nI c / 10 * 10 - 1) (nI c / 10) = (nb c 1).isSome ∧ (nb c 1 = none ∨ 10 * (nI c / 10) + (nI c - nI c / 10 * 10 - 1) = nI ((nb c 1).getD 0)) := by decide +kernel
theorem nb_r : ∀ c, c < 80 → onW (nI c - nI c / 10 * 10 + 1) (nI c / 10) = (nb c 0).isSome ∧ (nb c 0 = none ∨ 10 * (nI c / 10) + (nI c - nI c / 10 * 10 + 1) = nI ((nb c 0).getD 0)) := by decide +kernel
theorem nb_u : ∀ c, c < 80 → onW (nI c - nI c / 10 * 10) (nI c / 10 - 1) = (nb c 3).isSome ∧ (nb c 3 = none ∨ 10 * (nI c / 10 - 1) + (nI c - nI c / 10 * 10) = nI ((nb c 3).getD 0)) := by decide +kernel
theorem nb_d : ∀ c, c < 80 → onW (nI c - nI c / 10 * 10) (nI c / 10 + 1) = (nb c 2).isSome ∧ (nb c 2 = none ∨ 10 * (nI c / 10 + 1) + (nI c - nI c / 10 * 10) = nI ((nb c 2).getD 0)) := by decide +kernel
theorem rch_nb {cover : Nat → Int32} {x y : Int32} {c sd : Nat} {S : Sg} (hc : c < 80) (h : onW x y = (nb c sd).isSome ∧ (nb c sd = none ∨ 10 * y + x = nI ((nb c sd).getD 0))) (hm : S.2.2 ≤ mkc S.1) : rch cover x y S = tryM cover (nb c sd) S := by
  cases hd : nb c sd with
  | none => rw [hd] at h; exact rch_off h.1
  | some d =>
    rw [hd] at h
    rcases h.2 with h2 | h2
    · cases h2
    · exact rch_try h.1 h2 (nb_lt hc hd) hm
def QI (mk0 : Nat → Int32) (S : Sg) : Prop := (∀ j, j < S.2.2 → ∃ c, c < 80 ∧ S.2.1 j = nI c ∧ S.1 c ≠ 0 ∧ mk0 c = 0) ∧ (∀ c, c < 80 → S.1 c ≠ 0 → mk0 c ≠ 0 ∨ ∃ j, j < S.2.2 ∧ S.2.1 j = nI c) ∧ (∀ c, c < 80 → mk0 c ≠ 0 → S.1 c ≠ 0) ∧ mkc S.1 = mkc mk0 + S.2.2
def Ext (S T : Sg) : Prop := S.2.2 ≤ T.2.2 ∧ (∀ j, j < S.2.2 → T.2.1 j = S.2.1 j) ∧ (∀ c, S.1 c ≠ 0 → T.1 c ≠ 0)
theorem Ext.rf {S : Sg} : Ext S S := ⟨Nat.le_refl _, fun _ _ => rfl, fun _ h => h⟩
theorem Ext.tr {S T U : Sg} (h1 : Ext S T) (h2 : Ext T U) : Ext S U := ⟨Nat.le_trans h1.1 h2.1, fun j hj => (h2.2.1 j (Nat.lt_of_lt_of_le hj h1.1)).trans (h1.2.1 j hj), fun c h => h2.2.2 c (h1.2.2 c h)⟩
theorem i10 : (1 : Int32) ≠ 0 := by decide
theorem tryM_QI {cover mk0 : Nat → Int32} {d : Option Nat} {S : Sg} (h : QI mk0 S) (hd : ∀ e, d = some e → e < 80) : QI mk0 (tryM cover d S) := by
  cases d with
  | none => exact h
  | some d =>
    have h8 := hd d rfl
    show QI mk0 (if cover d = -1 ∧ S.1 d = 0 then (upd S.1 d 1, upd S.2.1 S.2.2 (nI d), S.2.2 + 1) else S)
    by_cases hq : cover d = -1 ∧ S.1 d = 0
    · rw [if_pos hq]
      obtain ⟨h1, h2, h3, h4⟩ := h
      refine ⟨fun j hj => ?_, fun c hc hm => ?_, fun c hc hm => ?_, ?_⟩
      · show ∃ c, c < 80 ∧ upd S.2.1 S.2.2 (nI d) j = nI c ∧ upd S.1 d 1 c ≠ 0 ∧ mk0 c = 0
        by_cases e : j = S.2.2
        · subst e
          refine ⟨d, h8, pk_us, by rw [pk_us]; exact i10, ?_⟩
          by_cases h0 : mk0 d = 0
          · exact h0
          · exact absurd hq.2 (h3 d h8 h0)
        · obtain ⟨c, c1, c2, c3, c4⟩ := h1 j (by have : j < S.2.2 + 1 := hj; omega)
          refine ⟨c, c1, by rw [pk_un e]; exact c2, ?_, c4⟩
          by_cases e2 : c = d
          · subst e2; rw [pk_us]; exact i10
          · rw [pk_un e2]; exact c3
      · show mk0 c ≠ 0 ∨ ∃ j, j < S.2.2 + 1 ∧ upd S.2.1 S.2.2 (nI d) j = nI c
        by_cases e2 : c = d
        · subst e2; exact Or.inr ⟨S.2.2, Nat.lt_succ_self _, pk_us⟩
        · have hm : upd S.1 d 1 c ≠ 0 := hm
          rw [pk_un e2] at hm
          rcases h2 c hc hm with h | ⟨j, j1, j2⟩
          · exact Or.inl h
          · exact Or.inr ⟨j, by omega, by rw [pk_un (by omega)]; exact j2⟩
      · show upd S.1 d 1 c ≠ 0
        by_cases e2 : c = d
        · subst e2; rw [pk_us]; exact i10
        · rw [pk_un e2]; exact h3 c hc hm
      · show mkc (upd S.1 d 1) = mkc mk0 + (S.2.2 + 1)
        rw [mkc_up h8 hq.2, h4]; omega
    · rw [if_neg hq]; exact h
theorem tryM_ext {cover : Nat → Int32} {d : Option Nat} {S : Sg} : Ext S (tryM cover d S) := by
  cases d with
  | none => exact Ext.rf
  | some d =>
    show Ext S (if cover d = -1 ∧ S.1 d = 0 then (upd S.1 d 1, upd S.2.1 S.2.2 (nI d), S.2.2 + 1) else S)
    split
    · refine ⟨Nat.le_succ _, fun j hj => ?_, fun c hc => ?_⟩
      · exact pk_un (by omega)
      · show upd S.1 d 1 c ≠ 0
        by_cases e2 : c = d
        · subst e2; rw [pk_us]; exact i10
        · rw [pk_un e2]; exact hc
    · exact Ext.rf
theorem tryM_done {cover : Nat → Int32} {e : Nat} {S : Sg} (hc : cover e = -1) : (tryM cover (some e) S).1 e ≠ 0 := by
  show (if cover e = -1 ∧ S.1 e = 0 then ((upd S.1 e 1, upd S.2.1 S.2.2 (nI e), S.2.2 + 1) : Sg) else S).1 e ≠ 0
  by_cases hq : S.1 e = 0
  · rw [if_pos ⟨hc, hq⟩]; show upd S.1 e 1 e ≠ 0; rw [pk_us]; exact i10
  · rw [if_neg (fun h => hq h.2)]; exact hq
theorem tryM_sub {cover : Nat → Int32} {d : Option Nat} {S : Sg} {K : Nat → Prop} (h : ∀ c, c < 80 → S.1 c ≠ 0 → K c) (hd : ∀ e, d = some e → cover e = -1 → K e) : ∀ c, c < 80 → (tryM cover d S).1 c ≠ 0 → K c := by
  cases d with
  | none => exact h
  | some d =>
    intro c hc hm
    have hm : (if cover d = -1 ∧ S.1 d = 0 then ((upd S.1 d 1, upd S.2.1 S.2.2 (nI d), S.2.2 + 1) : Sg) else S).1 c ≠ 0 := hm
    by_cases hq : cover d = -1 ∧ S.1 d = 0
    · rw [if_pos hq] at hm
      have hm : upd S.1 d 1 c ≠ 0 := hm
      by_cases e2 : c = d
      · subst e2; exact hd c rfl hq.1
      · rw [pk_un e2] at hm; exact h c hc hm
    · rw [if_neg hq] at hm; exact h c hc hm
def Dn (cover : Nat → Int32) (S : Sg) (j sd : Nat) : Prop := ∀ c, c < 80 → S.2.1 j = nI c → ∀ d, nb c sd = some d → cover d = -1 → S.1 d ≠ 0
theorem Dn.ext {cover : Nat → Int32} {S T : Sg} {j sd : Nat} (h : Dn cover S j sd) (hj : j < S.2.2) (e : Ext S T) : Dn cover T j sd := fun c hc hf d hd hv => e.2.2 d (h c hc ((e.2.1 j hj).symm.trans hf) d hd hv)
def Cl (cover mk0 : Nat → Int32) (K : Nat → Prop) : Prop := ∀ c, c < 80 → K c → mk0 c = 0 → ∀ sd, sd < 4 → ∀ d, nb c sd = some d → cover d = -1 → K d
def Res (cover mk0 : Nat → Int32) (S T : Sg) : Prop := QI mk0 T ∧ (∀ j sd, sd < 4 → j < T.2.2 → Dn cover T j sd) ∧ Ext S T ∧ ∀ K : Nat → Prop, Cl cover mk0 K → (∀ c, c < 80 → S.1 c ≠ 0 → K c) → ∀ c, c < 80 → T.1 c ≠ 0 → K c
theorem QI.n {mk0 : Nat → Int32} {S : Sg} (h : QI mk0 S) : S.2.2 ≤ mkc S.1 ∧ S.2.2 ≤ 80 := by
  have h4 := h.2.2.2
  have := mkc_le S.1
  omega
theorem dn_try {cover : Nat → Int32} {S T : Sg} {j sd c : Nat} (hc : c < 80) (hj : j < S.2.2) (hf : S.2.1 j = nI c) (e1 : Ext S T) (e2 : Ext T (tryM cover (nb c sd) T)) : Dn cover (tryM cover (nb c sd) T) j sd := by
  intro c2 hc2 hf2 d hd hv
  have hf3 : nI c2 = nI c := by rw [← hf2, (e1.tr e2).2.1 j hj, hf]
  rw [nI_eq (by omega) (by omega)] at hf3
  subst hf3
  rw [hd]
  exact tryM_done hv
theorem mg1_try {cover mk0 : Nat → Int32} {c : Nat} {S : Sg} (hc : c < 80) (h : QI mk0 S) : mg1 cover (nI c) S = tryM cover (nb c 2) (tryM cover (nb c 3) (tryM cover (nb c 0) (tryM cover (nb c 1) S))) := by
  have q1 := tryM_QI (cover := cover) (d := nb c 1) h (fun e he => nb_lt hc he)
  have q2 := tryM_QI (cover := cover) (d := nb c 0) q1 (fun e he => nb_lt hc he)
  have q3 := tryM_QI (cover := cover) (d := nb c 3) q2 (fun e he => nb_lt hc he)
  rw [mg1, rch_nb hc (nb_l c hc) h.n.1, rch_nb hc (nb_r c hc) q1.n.1, rch_nb hc (nb_u c hc) q2.n.1, rch_nb hc (nb_d c hc) q3.n.1]
theorem mgL_run {cover mk0 : Nat → Int32} : ∀ (f i : Nat) (S : Sg), f + i = 81 → QI mk0 S → (∀ j sd, sd < 4 → j < i → j < S.2.2 → Dn cover S j sd) → Res cover mk0 S (mgL cover f i S) := by
  intro f
  induction f with
  | zero =>
    intro i S hf hQ hD
    have := hQ.n.2
    exact ⟨hQ, fun j sd h1 h2 => hD j sd h1 (by have : j < S.2.2 := h2; omega) h2, Ext.rf, fun K _ h => h⟩
  | succ f ih =>
    intro i S hf hQ hD
    rw [mgL]
    by_cases hq : i < S.2.2 ∧ i < 80
    · rw [if_pos hq]
      obtain ⟨c, hc, hfi, hm, h0⟩ := hQ.1 i hq.1
      rw [hfi, mg1_try hc hQ]
      have q1 := tryM_QI (cover := cover) (d := nb c 1) hQ (fun e he => nb_lt hc he)
      have q2 := tryM_QI (cover := cover) (d := nb c 0) q1 (fun e he => nb_lt hc he)
      have q3 := tryM_QI (cover := cover) (d := nb c 3) q2 (fun e he => nb_lt hc he)
      have q4 := tryM_QI (cover := cover) (d := nb c 2) q3 (fun e he => nb_lt hc he)
      have e1 : Ext S (tryM cover (nb c 1) S) := tryM_ext
      have e2 : Ext (tryM cover (nb c 1) S) (tryM cover (nb c 0) (tryM cover (nb c 1) S)) := tryM_ext
      have e3 : Ext (tryM cover (nb c 0) (tryM cover (nb c 1) S)) (tryM cover (nb c 3) (tryM cover (nb c 0) (tryM cover (nb c 1) S))) := tryM_ext
      have e4 : Ext (tryM cover (nb c 3) (tryM cover (nb c 0) (tryM cover (nb c 1) S))) (tryM cover (nb c 2) (tryM cover (nb c 3) (tryM cover (nb c 0) (tryM cover (nb c 1) S)))) := tryM_ext
      have d1 := dn_try (cover := cover) (sd := 1) hc hq.1 hfi Ext.rf e1
      have d0 := dn_try (cover := cover) (sd := 0) hc hq.1 hfi e1 e2
      have d3 := dn_try (cover := cover) (sd := 3) hc hq.1 hfi (e1.tr e2) e3
      have d2 := dn_try (cover := cover) (sd := 2) hc hq.1 hfi ((e1.tr e2).tr e3) e4
      have n1 : i < (tryM cover (nb c 1) S).2.2 := Nat.lt_of_lt_of_le hq.1 e1.1
      have n2 : i < (tryM cover (nb c 0) (tryM cover (nb c 1) S)).2.2 := Nat.lt_of_lt_of_le n1 e2.1
      have n3 : i < (tryM cover (nb c 3) (tryM cover (nb c 0) (tryM cover (nb c 1) S))).2.2 := Nat.lt_of_lt_of_le n2 e3.1
      have d1 := d1.ext n1 (e2.tr (e3.tr e4))
      have d0 := d0.ext n2 (e3.tr e4)
      have d3 := d3.ext n3 e4
      have eA := e1.tr (e2.tr (e3.tr e4))
      obtain ⟨r1, r2, r3, r4⟩ := ih (i + 1) _ (by omega) q4 (fun j sd hsd hj hn => by
        by_cases e : j = i
        · subst e
          rcases (show sd = 0 ∨ sd = 1 ∨ sd = 2 ∨ sd = 3 by omega) with rfl | rfl | rfl | rfl
          · exact d0
          · exact d1
          · exact d2
          · exact d3
        · exact (hD j sd hsd (by omega) (by omega)).ext (by omega) eA)
      refine ⟨r1, r2, eA.tr r3, fun K hK hs => r4 K hK ?_⟩
      have hKc : ∀ sd, sd < 4 → ∀ e, nb c sd = some e → cover e = -1 → K e := fun sd hsd e he hv => hK c hc (hs c hc hm) h0 sd hsd e he hv
      exact tryM_sub (tryM_sub (tryM_sub (tryM_sub hs (hKc 1 (by omega))) (hKc 0 (by omega))) (hKc 3 (by omega))) (hKc 2 (by omega))
    · rw [if_neg hq]
      have := hQ.n.2
      exact ⟨hQ, fun j sd h1 h2 => hD j sd h1 (by have : j < S.2.2 := h2; omega) h2, Ext.rf, fun K _ h => h⟩
theorem flL_run {cover mk0 : Nat → Int32} : ∀ (f k : Nat) (S : Sg), f + k = 321 → QI mk0 S → (∀ j sd, sd < 4 → 4 * j + sd < k → j < S.2.2 → Dn cover S j sd) → Res cover mk0 S (flL cover f k S) := by
  intro f
  induction f with
  | zero =>
    intro k S hf hQ hD
    have := hQ.n.2
    exact ⟨hQ, fun j sd h1 h2 => hD j sd h1 (by have : j < S.2.2 := h2; omega) h2, Ext.rf, fun K _ h => h⟩
  | succ f ih =>
    intro k S hf hQ hD
    rw [flL]
    by_cases hq : k < 4 * S.2.2
    · rw [if_pos hq]
      have hi : k / 4 < S.2.2 := by omega
      have hsd : k % 4 < 4 := Nat.mod_lt _ (by omega)
      obtain ⟨c, hc, hfi, hm, h0⟩ := hQ.1 (k / 4) hi
      rw [hfi, fl1_try hc hsd]
      have q1 := tryM_QI (cover := cover) (d := nb c (k % 4)) hQ (fun e he => nb_lt hc he)
      have e1 : Ext S (tryM cover (nb c (k % 4)) S) := tryM_ext
      have d1 := dn_try (cover := cover) (sd := k % 4) hc hi hfi Ext.rf e1
      obtain ⟨r1, r2, r3, r4⟩ := ih (k + 1) _ (by omega) q1 (fun j sd hsd2 hj hn => by
        by_cases e : 4 * j + sd = k
        · have ej : k / 4 = j := by omega
          have es : k % 4 = sd := by omega
          rw [ej] at d1
          rw [es] at d1 ⊢
          exact d1
        · exact (hD j sd hsd2 (by omega) (by omega)).ext (by omega) e1)
      refine ⟨r1, r2, e1.tr r3, fun K hK hs => r4 K hK ?_⟩
      exact tryM_sub hs (fun e he hv => hK c hc (hs c hc hm) h0 _ hsd e he hv)
    · rw [if_neg hq]
      exact ⟨hQ, fun j sd h1 h2 => hD j sd h1 (by have : j < S.2.2 := h2; omega) h2, Ext.rf, fun K _ h => h⟩
theorem res_cl {cover mk0 : Nat → Int32} {S T : Sg} (h : Res cover mk0 S T) : Cl cover mk0 (fun c => T.1 c ≠ 0) := by
  intro c hc hm h0 sd hsd d hd hv
  rcases h.1.2.1 c hc hm with h9 | ⟨j, hj, hf⟩
  · exact absurd h0 h9
  · exact h.2.1 j sd hsd hj c hc hf d hd hv
theorem QI0 {mk0 fd : Nat → Int32} : QI mk0 (mk0, fd, 0) := ⟨fun j hj => absurd hj (Nat.not_lt_zero j), fun c _ h => Or.inl h, fun c _ h => h, by show mkc mk0 = mkc mk0 + 0; rw [Nat.add_zero]⟩
theorem gap_eq {cover mk0 fo0 fd rw0 : Nat → Int32} {a : Nat} (ha : a < 80) (hB : ∀ c, c < 80 → (mk0 c ≠ 0 ↔ fo0 c ≠ 0)) (hv : cover a = -1) (h0 : mk0 a = 0) {S T : Sg} (hS : Res cover mk0 (tryM cover (some a) (mk0, fd, 0)) S) (hT : Res cover fo0 (tryM cover (some a) (fo0, rw0, 0)) T) : (∀ c, c < 80 → (S.1 c ≠ 0 ↔ T.1 c ≠ 0)) ∧ S.2.2 = T.2.2 := by
  have aS : S.1 a ≠ 0 := hS.2.2.1.2.2 a (tryM_done hv)
  have aT : T.1 a ≠ 0 := hT.2.2.1.2.2 a (tryM_done hv)
  have z : ∀ c, c < 80 → (mk0 c = 0 ↔ fo0 c = 0) := fun c hc => by
    have := hB c hc
    constructor
    · intro h; apply Classical.byContradiction; intro h2; exact this.mpr h2 h
    · intro h; apply Classical.byContradiction; intro h2; exact this.mp h2 h
  have hm : ∀ c, c < 80 → (S.1 c ≠ 0 ↔ T.1 c ≠ 0) := fun c hc => by
    constructor
    · refine hS.2.2.2 (fun c => T.1 c ≠ 0) (fun c hc hm h0 => res_cl hT c hc hm ((z c hc).mp h0)) ?_ c hc
      exact tryM_sub (fun c hc h => hT.1.2.2.1 c hc ((hB c hc).mp h)) (fun e he _ => by cases he; exact aT)
    · refine hT.2.2.2 (fun c => S.1 c ≠ 0) (fun c hc hm h0 => res_cl hS c hc hm ((z c hc).mpr h0)) ?_ c hc
      exact tryM_sub (fun c hc h => hS.1.2.2.1 c hc ((hB c hc).mpr h)) (fun e he _ => by cases he; exact aS)
  refine ⟨hm, ?_⟩
  have c1 : mkc S.1 = mkc T.1 := cnt_congr (fun c hc => by
    have := hm c hc
    by_cases h : S.1 c = 0
    · by_cases h2 : T.1 c = 0
      · rw [h, h2]
      · exact absurd h (this.mpr h2)
    · rw [decide_eq_true h, decide_eq_true (this.mp h)])
  have c2 : mkc mk0 = mkc fo0 := cnt_congr (fun c hc => by
    have := z c hc
    by_cases h : mk0 c = 0
    · rw [h, this.mp h]
    · rw [decide_eq_true h, decide_eq_true (show ¬ fo0 c = 0 from fun h2 => h (this.mpr h2))])
  have h1 := hS.1.2.2.2
  have h2 := hT.1.2.2.2
  omega
/-- the class's marks from a cell that none covers, none marked -/
theorem mgp_res {cover mk0 fd : Nat → Int32} {x y a : Nat} (hx : x ≤ 9) (hy : y ≤ 7) (ha : 10 * y + x = a) : Res cover mk0 (tryM cover (some a) (mk0, fd, 0)) (mgp cover (nI x) (nI y) mk0 fd) := by
  have ha8 : a < 80 := by omega
  have e : rch cover (nI x) (nI y) (mk0, fd, 0) = tryM cover (some a) (mk0, fd, 0) := rch_try (by rw [onW_nI (by omega) (by omega), decide_eq_true hx, decide_eq_true hy]; rfl) (by rw [cel_nI, ha]) ha8 (Nat.zero_le _)
  rw [mgp, e]
  exact mgL_run 81 0 _ rfl (tryM_QI QI0 (fun e he => by cases he; exact ha8)) (fun j sd _ h => absurd h (Nat.not_lt_zero j))
theorem flP_res {cover fo rw0 : Nat → Int32} {a : Nat} (ha : a < 80) (hv : cover a = -1) (h0 : fo a = 0) : Res cover fo (tryM cover (some a) (fo, rw0, 0)) (flP cover a fo rw0) := by
  have e : tryM cover (some a) (fo, rw0, 0) = flS fo rw0 a := by
    show (if cover a = -1 ∧ fo a = 0 then _ else _) = _
    rw [if_pos ⟨hv, h0⟩]; rfl
  rw [e, flP, ← e]
  exact flL_run 321 0 _ rfl (tryM_QI QI0 (fun e he => by cases he; exact ha)) (fun j sd _ h => absurd h (Nat.not_lt_zero _))
/-- .. and from another: nothing -/
theorem mgp_none {cover mk0 fd : Nat → Int32} {x y : Nat} (hx : x ≤ 9) (hy : y ≤ 7) (h : ¬ (cover (10 * y + x) = -1 ∧ mk0 (10 * y + x) = 0)) : mgp cover (nI x) (nI y) mk0 fd = (mk0, fd, 0) := by
  have e : rch cover (nI x) (nI y) (mk0, fd, 0) = tryM cover (some (10 * y + x)) (mk0, fd, 0) := rch_try (by rw [onW_nI (by omega) (by omega), decide_eq_true hx, decide_eq_true hy]; rfl) (cel_nI _ _) (by omega) (Nat.zero_le _)
  have e2 : tryM cover (some (10 * y + x)) (mk0, fd, 0) = (mk0, fd, 0) := by
    show (if cover (10 * y + x) = -1 ∧ mk0 (10 * y + x) = 0 then _ else _) = _
    rw [if_neg h]
  rw [mgp, e, e2, mgL, if_neg (fun h => absurd h.1 (Nat.not_lt_zero 0))]
theorem mark01 {cover : Nat → Int32} {d : Option Nat} {S : Sg} (h : ∀ c, S.1 c = 0 ∨ S.1 c = 1) : ∀ c, (tryM cover d S).1 c = 0 ∨ (tryM cover d S).1 c = 1 := by
  cases d with
  | none => exact h
  | some d =>
    show ∀ c, (if cover d = -1 ∧ S.1 d = 0 then ((upd S.1 d 1, upd S.2.1 S.2.2 (nI d), S.2.2 + 1) : Sg) else S).1 c = 0 ∨ (if cover d = -1 ∧ S.1 d = 0 then ((upd S.1 d 1, upd S.2.1 S.2.2 (nI d), S.2.2 + 1) : Sg) else S).1 c = 1
    split
    · intro c
      show upd S.1 d 1 c = 0 ∨ upd S.1 d 1 c = 1
      by_cases e : c = d
      · subst e; exact Or.inr pk_us
      · rw [pk_un e]; exact h c
    · exact h
theorem fl01 {cover : Nat → Int32} : ∀ (f k : Nat) (S : Sg), (∀ c, S.1 c = 0 ∨ S.1 c = 1) → ∀ c, (flL cover f k S).1 c = 0 ∨ (flL cover f k S).1 c = 1 := by
  intro f
  induction f with
  | zero => intro k S h; exact h
  | succ f ih =>
    intro k S h
    rw [flL]
    split
    · refine ih (k + 1) _ ?_
      intro c
      rw [fl1]
      split
      · show upd S.1 _ 1 c = 0 ∨ upd S.1 _ 1 c = 1
        by_cases e : c = vn (bes (S.2.1 (k / 4)) (k % 4))
        · rw [← e]; exact Or.inr pk_us
        · rw [pk_un e]; exact h c
      · exact h c
    · exact h
theorem flP01 {cover rw0 : Nat → Int32} {a : Nat} (c : Nat) : (flP cover a (fun _ => 0) rw0).1 c = 0 ∨ (flP cover a (fun _ => 0) rw0).1 c = 1 := by
  refine fl01 321 0 _ (fun c => ?_) c
  show upd (fun _ => (0 : Int32)) a 1 c = 0 ∨ upd (fun _ => (0 : Int32)) a 1 c = 1
  by_cases e : c = a
  · subst e; exact Or.inr pk_us
  · rw [pk_un e]; exact Or.inl rfl
theorem gap_ans {cover fd rw0 : Nat → Int32} {x y : Nat} (hx : x ≤ 9) (hy : y ≤ 7) : nI (mgp cover (nI x) (nI y) (fun _ => 0) fd).2.2 = gapM cover rw0 (10 * y + x) := by
  rw [gapM]
  by_cases hv : cover (10 * y + x) = -1
  · rw [if_pos hv, (gap_eq (cover := cover) (mk0 := fun _ => 0) (fo0 := fun _ => 0) (fd := fd) (rw0 := rw0) (a := 10 * y + x) (by omega) (fun c hc => Iff.rfl) hv rfl (mgp_res hx hy rfl) (flP_res (by omega) hv rfl)).2]
  · rw [if_neg hv, mgp_none hx hy (fun h => hv h.1)]
    exact nI_0
theorem ndI_congr {g h : Nat → Bool} {t : Nat} (e : ∀ i, i < t → g i = h i) : ndI g t = ndI h t := by
  induction t with
  | zero => rfl
  | succ t ih => rw [ndI, ndI, ih (fun i hi => e i (by omega)), e t (by omega)]
theorem ndL_congr {g h : Nat → Nat → Bool} {st n : Nat} (e : ∀ i t, i < n → t < st → g i t = h i t) : ndL g st n = ndL h st n := by
  induction n with
  | zero => rfl
  | succ n ih => rw [ndL, ndL, ih (fun i t hi ht => e i t (by omega) ht), ndI_congr (fun t ht => e n t (by omega) ht)]
theorem ndI_z {t : Nat} {g : Nat → Bool} (h : ∀ i, i < t → g i = false) : ndI g t = (0, 0) := by
  induction t with
  | zero => rfl
  | succ t ih => rw [ndI, ih (fun i hi => h i (by omega)), h t (by omega)]; rfl
theorem ndL_z {g : Nat → Nat → Bool} {st n : Nat} (e : ∀ i t, i < n → t < st → g i t = false) : ndL g st n = 0 := by
  induction n with
  | zero => rfl
  | succ n ih => rw [ndL, ih (fun i t hi ht => e i t (by omega) ht), ndI_z (fun t ht => e n t (by omega) ht)]; rfl
theorem mend_ans {cover fd rw0 : Nat → Int32} {x y : Nat} {ac : Bool} (hx : x ≤ 9) (hy : y ≤ 7) : nI (pfm (mgp cover (nI x) (nI y) (fun _ => 0) fd).1 ac) = menM cover rw0 (10 * y + x) ac := by
  rw [menM, pfm]
  by_cases hv : cover (10 * y + x) = -1
  · have hm := (gap_eq (cover := cover) (mk0 := fun _ => 0) (fo0 := fun _ => 0) (fd := fd) (rw0 := rw0) (a := 10 * y + x) (by omega) (fun c hc => Iff.rfl) hv rfl (mgp_res hx hy rfl) (flP_res (by omega) hv rfl)).1
    rw [if_pos hv]
    congr 1
    refine ndL_congr (fun i t hi ht => ?_)
    have key : ∀ q, q < 80 → decide ((mgp cover (nI x) (nI y) (fun _ => 0) fd).1 q ≠ 0) = decide ((flP cover (10 * y + x) (fun _ => 0) rw0).1 q = 1) := fun q hq => by
      have h1 := hm q hq
      rcases flP01 (cover := cover) (rw0 := rw0) (a := 10 * y + x) q with h2 | h2
      · rw [h2]
        rw [decide_eq_false (fun h => absurd h2 (h1.mp h))]; decide
      · rw [decide_eq_true (h1.mpr (by rw [h2]; exact i10)), h2]; decide
    rw [pfg, pfM]
    cases ac
    · simp only [Bool.false_eq_true, if_false] at hi ht ⊢
      exact key _ (by omega)
    · simp only [if_true] at hi ht ⊢
      exact key _ (by omega)
  · rw [if_neg hv, mgp_none hx hy (fun h => hv h.1)]
    rw [ndL_z (fun i t _ _ => by rw [pfg]; split <;> rfl)]
    exact nI_0
theorem flP_n {cover fo rw0 : Nat → Int32} {a : Nat} (ha : a < 80) (hv : cover a = -1) (h0 : fo a = 0) : 0 < (flP cover a fo rw0).2.2 := by
  have h := (flP_res (rw0 := rw0) ha hv h0).2.2.1.1
  have e : tryM cover (some a) (fo, rw0, 0) = flS fo rw0 a := by
    show (if cover a = -1 ∧ fo a = 0 then _ else _) = _
    rw [if_pos ⟨hv, h0⟩]; rfl
  rw [e] at h
  exact h
/-- all gaps: counts and marks -/
theorem gaps_eq {cover fd0 rw0 : Nat → Int32} : ∀ n, n ≤ 80 → (gpS cover fd0 n).1 = (gmS cover rw0 n).1 ∧ ∀ c, c < 80 → ((gpS cover fd0 n).2.1 c ≠ 0 ↔ (gmS cover rw0 n).2.1 c ≠ 0) := by
  intro n
  induction n with
  | zero => intro _; exact ⟨rfl, fun c _ => Iff.rfl⟩
  | succ n ih =>
    intro hn
    obtain ⟨h1, h2⟩ := ih (by omega)
    have hx : n % 10 ≤ 9 := by omega
    have hy : n / 10 ≤ 7 := by omega
    have hna : 10 * (n / 10) + n % 10 = n := by omega
    have hz : (gpS cover fd0 n).2.1 n = 0 ↔ (gmS cover rw0 n).2.1 n = 0 := by
      have := h2 n (by omega)
      constructor
      · intro h; apply Classical.byContradiction; intro q; exact this.mpr q h
      · intro h; apply Classical.byContradiction; intro q; exact this.mp q h
    rw [gpS, gmS]
    by_cases hq : cover n = -1 ∧ (gmS cover rw0 n).2.1 n = 0
    · rw [if_pos hq]
      have hg := gap_eq (fd := (gpS cover fd0 n).2.2) (rw0 := (gmS cover rw0 n).2.2) (show n < 80 by omega) h2 hq.1 (hz.mpr hq.2) (mgp_res hx hy hna) (flP_res (by omega) hq.1 hq.2)
      have hp := flP_n (rw0 := (gmS cover rw0 n).2.2) (show n < 80 by omega) hq.1 hq.2
      rw [← hg.2] at hp
      dsimp only
      rw [if_pos hp, h1]
      exact ⟨rfl, hg.1⟩
    · rw [if_neg hq, mgp_none hx hy (by rw [hna]; exact fun h => hq ⟨h.1, hz.mp h.2⟩)]
      exact ⟨h1, h2⟩
theorem cnt_ans {np hr : Nat} {P : Nat → Pd} {wet cover fd rw0 : Nat → Int32} {w : Nat} : cntf np hr P wet cover fd w = cntm np hr P wet cover rw0 w := by
  rw [cntf, cntm, (gaps_eq (cover := cover) (fd0 := fd) (rw0 := rw0) 80 (Nat.le_refl _)).1]
theorem dig_ans {np hr : Nat} {P : Nat → Pd} {wet cover sun fd rw0 : Nat → Int32} : dgT np hr P wet cover sun fd = dgm np hr P wet cover sun rw0 := by
  have e : dg1 np hr P wet cover fd = cntm np hr P wet cover rw0 := by
    funext w; exact cnt_ans
  rw [dgT, dgm, e]
