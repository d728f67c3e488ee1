/-! the reference: its rows, tied to the pieces -/
theorem gz1 {b : Bool} : gz b = 1 ↔ b = true := by cases b <;> decide
theorem gzn1 {b : Bool} : ¬ gz b = 1 ↔ b = false := by cases b <;> decide
def Mrel (np : Nat) (P : Nat → Pd) (fi le ac se hi ou : Nat → Int32) : Prop := (∀ k, k < np → fi k = nI (10 * qy (P k) + qx (P k)) ∧ le k = nI (ql (P k)) ∧ ac k = gz (qc (P k)) ∧ se k = shw (P k) ∧ hi k = oth (P k) ∧ ou k = gz (qo (P k))) ∧ ∀ k, np ≤ k → k < 100 → ou k = 0
theorem pclA {p : Pd} {j : Nat} (h : qc p = true) : nI (10 * qy p + qx p) + nI j * 1 = nI (pcl p j) := by
  rw [show (1 : Int32) = nI 1 from rfl, pk_mul, nI_add, pcl, cel, if_pos h]
  congr 1; omega
theorem pclB {p : Pd} {j : Nat} (h : qc p = false) : nI (10 * qy p + qx p) + nI j * 10 = nI (pcl p j) := by
  rw [show (10 : Int32) = nI 10 from rfl, pk_mul, nI_add, pcl, cel, h]
  simp only [Bool.false_eq_true, if_false]
  congr 1; omega
theorem celA {x y j : Nat} : nI (10 * y + x) + nI j * 1 = nI (cel x y true j) := by
  rw [show (1 : Int32) = nI 1 from rfl, pk_mul, nI_add, cel, if_pos rfl]
  congr 1; omega
theorem celB {x y j : Nat} : nI (10 * y + x) + nI j * 10 = nI (cel x y false j) := by
  rw [show (10 : Int32) = nI 10 from rfl, pk_mul, nI_add, cel]
  simp only [Bool.false_eq_true, if_false]
  congr 1; omega
/-- wet mortar is never below -1; a cell is covered by none, or by one of the pieces -/
def WetOk (wet : Nat → Int32) : Prop := ∀ c, c < 80 → wet c = -1 ∨ ∃ w : Nat, w ≤ 12 ∧ wet c = nI w
def CovOk (np : Nat) (cover : Nat → Int32) : Prop := ∀ c, c < 80 → cover c = -1 ∨ ∃ k, k < np ∧ cover c = nI k
theorem m1_nI {k : Nat} (h : k < 2 ^ 31) : ¬ (nI k = -1) := by
  intro e
  have h1 : (nI k).toInt = (-1 : Int32).toInt := by rw [e]
  rw [nI_toInt h] at h1
  have h2 : (-1 : Int32).toInt = -1 := by decide
  omega
theorem colv_n {np : Nat} {P : Nat → Pd} {cover : Nat → Int32} {c : Nat} (hn : np ≤ 100) (h : cover c = -1) : colv np P cover c = -1 := by
  rw [colv, if_neg]
  intro h2
  obtain ⟨k, hk, e⟩ := inR_np (by omega) h2
  rw [h] at e
  exact m1_nI (by omega) e.symm
theorem colv_k {np : Nat} {P : Nat → Pd} {cover : Nat → Int32} {c k : Nat} (hn : np ≤ 100) (hk : k < np) (h : cover c = nI k) : colv np P cover c = shw (P k) := by
  rw [colv, h, inR_of (n := np - 1) (by rw [show nI np - 1 = Int32.ofNat np - 1 from rfl, ofN1 (by omega) (by omega)]) (by omega), if_pos rfl, nI_clamp (by omega)]
theorem cov_ge {np : Nat} {cover : Nat → Int32} {c : Nat} (hn : np ≤ 100) (hc : c < 80) (h : CovOk np cover) : decide (0 ≤ cover c) = decide (¬ cover c = -1) := by
  rcases h c hc with e | ⟨k, hk, e⟩
  · rw [e]; decide
  · rw [e, decide_eq_true (nI_pos' (by omega)), decide_eq_true (m1_nI (by omega))]
theorem wet_ge {wet : Nat → Int32} {c : Nat} (hc : c < 80) (h : WetOk wet) : decide (0 ≤ wet c) = decide (¬ wet c = -1) := by
  rcases h c hc with e | ⟨k, hk, e⟩
  · rw [e]; decide
  · rw [e, decide_eq_true (nI_pos' (by omega)), decide_eq_true (m1_nI (by omega))]
theorem i_1le {a : Int32} : 1 ≤ a ↔ ¬ a ≤ 0 := by
  rw [fa_le, fa_le]
  have e1 : (1 : Int32).toInt = 1 := rfl
  have e0 : (0 : Int32).toInt = 0 := rfl
  omega
/-- where a piece of so many cells can lie, as the reference asks -/
def frm (wet cover : Nat → Int32) (own : Int32) (c : Nat) : Bool := decide (1 ≤ wet c) && (decide (cover c = -1) || decide (cover c = own))
def lieB (wet cover : Nat → Int32) (x y ln : Nat) (ac : Bool) (own : Int32) : Bool := decide ((if ac then x + ln else y + ln) ≤ (if ac then 10 else 8)) && allB (fun j => frm wet cover own (cel x y ac j)) ln
theorem onW_nI {x y : Nat} (hx : x < 2 ^ 30) (hy : y < 2 ^ 30) : onW (nI x) (nI y) = (decide (x ≤ 9) && decide (y ≤ 7)) := by
  have e9 : (9 : Int32).toInt = (9 : Nat) := rfl
  have e7 : (7 : Int32).toInt = (7 : Nat) := rfl
  rw [onW]
  congr 1
  · by_cases h : x ≤ 9
    · rw [inR_of e9 h, decide_eq_true h]
    · rw [inR_no e9 (by omega) (by omega), decide_eq_false h]
  · by_cases h : y ≤ 7
    · rw [inR_of e7 h, decide_eq_true h]
    · rw [inR_no e7 (by omega) (by omega), decide_eq_false h]
theorem fre_nI {wet cover : Nat → Int32} {own : Int32} {c : Nat} (h : c < 80) : fre wet cover own (nI c) = frm wet cover own c := by
  rw [fre, frm, atv_nI h (by omega), atv_nI h (by omega)]
/-- the class's question and the reference's are one -/
theorem lie_hrm {wet cover : Nat → Int32} {x y ln : Nat} {ac : Bool} {own : Int32} (hx : x ≤ 9) (hy : y ≤ 7) (h1 : 1 ≤ ln) (h3 : ln ≤ 3) : hrm wet cover x y ln ac own = lieB wet cover x y ln ac own := by
  by_cases hb : (if ac then x + ln else y + ln) ≤ (if ac then 10 else 8)
  · rw [lieB, decide_eq_true hb, Bool.true_and, hrm]
    refine allB_congr (fun j hj => ?_)
    rw [hr1]
    cases ac
    · simp only [Bool.false_eq_true, if_false] at hb ⊢
      rw [onW_nI (by omega) (by omega), decide_eq_true hx, decide_eq_true (show y + j ≤ 7 by omega), Bool.true_and, Bool.true_and]
      exact fre_nI (by simp only [cel, Bool.false_eq_true, if_false]; omega)
    · simp only [if_true] at hb ⊢
      rw [onW_nI (by omega) (by omega), decide_eq_true hy, decide_eq_true (show x + j ≤ 9 by omega), Bool.true_and, Bool.true_and]
      exact fre_nI (by simp only [cel, if_true]; omega)
  · rw [lieB, decide_eq_false hb, Bool.false_and, hrm]
    refine allB_false (i := ln - 1) (by omega) ?_
    rw [hr1]
    cases ac
    · simp only [Bool.false_eq_true, if_false] at hb ⊢
      rw [onW_nI (by omega) (by omega), decide_eq_false (show ¬ (y + (ln - 1) ≤ 7) by omega), Bool.and_false, Bool.false_and]
    · simp only [if_true] at hb ⊢
      rw [onW_nI (by omega) (by omega), decide_eq_false (show ¬ (x + (ln - 1) ≤ 9) by omega), Bool.false_and, Bool.false_and]
