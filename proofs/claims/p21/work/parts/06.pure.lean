/-! what the methods answer, as functions -/
theorem fa_lt (a b : Int32) : a < b ↔ a.toInt < b.toInt := Int32.lt_iff_toInt_lt
theorem fa_le (a b : Int32) : a ≤ b ↔ a.toInt ≤ b.toInt := Int32.le_iff_toInt_le
theorem fa_eq (a b : Int32) : a = b ↔ a.toInt = b.toInt := ⟨fun h => by rw [h], Int32.toInt_inj.mp⟩
def gz (b : Bool) : Int32 := if b then 1 else 0
theorem gz_t : gz true = 1 := rfl
theorem gz_f : gz false = 0 := rfl
theorem gz0 {b : Bool} : gz b = 0 ↔ b = false := by cases b <;> decide
theorem gzn {b : Bool} : ¬ gz b = 0 ↔ b = true := by cases b <;> decide
theorem gz01 (b : Bool) : gz b = 0 ∨ gz b = 1 := by cases b <;> decide
theorem gz_e1 {b : Bool} (h : b = true) : some (Value.int 1) = some (.int (gz b)) := by rw [h]; rfl
theorem gz_e0 {b : Bool} (h : b = false) : some (Value.int 0) = some (.int (gz b)) := by rw [h]; rfl
def inR (lo hi v : Int32) : Bool := decide (lo ≤ v) && decide (v ≤ hi)
theorem inR_t {lo hi v : Int32} (h1 : ¬ v < lo) (h2 : ¬ hi < v) : inR lo hi v = true := by
  simp only [inR, Bool.and_eq_true, decide_eq_true_eq, fa_le]
  rw [fa_lt] at h1 h2
  omega
theorem inR_l {lo hi v : Int32} (h1 : v < lo) : inR lo hi v = false := by
  rw [Bool.eq_false_iff]
  simp only [inR, ne_eq, Bool.and_eq_true, decide_eq_true_eq, fa_le]
  rw [fa_lt] at h1
  omega
theorem inR_h {lo hi v : Int32} (h1 : hi < v) : inR lo hi v = false := by
  rw [Bool.eq_false_iff]
  simp only [inR, ne_eq, Bool.and_eq_true, decide_eq_true_eq, fa_le]
  rw [fa_lt] at h1
  omega
/-- a test against 0 to n -/
theorem inR_nI {n : Nat} {M v : Int32} (hM : M.toInt = n) (h : inR 0 M v = true) : ∃ j : Nat, j ≤ n ∧ v = nI j := by
  simp only [inR, Bool.and_eq_true, decide_eq_true_eq] at h
  exact nI_of2 hM (fun hn => by rw [fa_lt] at hn; have := (fa_le _ _).mp h.1; omega) h.2
theorem inR_of {j : Nat} {M : Int32} {n : Nat} (hM : M.toInt = n) (h : j ≤ n) : inR 0 M (nI j) = true := by
  have hn : n < 2 ^ 31 := by have := M.toInt_lt; omega
  simp only [inR, Bool.and_eq_true, decide_eq_true_eq, fa_le, nI_toInt (show j < 2 ^ 31 by omega), hM]
  have : (0 : Int32).toInt = 0 := rfl
  omega
theorem inR_no {j : Nat} {M : Int32} {n : Nat} (hM : M.toInt = n) (hj : j < 2 ^ 31) (h : n < j) : inR 0 M (nI j) = false := by
  rw [Bool.eq_false_iff]
  simp only [inR, ne_eq, Bool.and_eq_true, decide_eq_true_eq, fa_le, nI_toInt hj, hM]
  omega
theorem inR_iff {lo hi v : Int32} : inR lo hi v = true ↔ lo.toInt ≤ v.toInt ∧ v.toInt ≤ hi.toInt := by
  simp only [inR, Bool.and_eq_true, decide_eq_true_eq, fa_le]
def onW (x y : Int32) : Bool := inR 0 9 x && inR 0 7 y
/-- a row of N places, read at any index: -1 beyond it -/
def atv (N : Nat) (f : Nat → Int32) (i : Int32) : Int32 := if inR 0 (Int32.ofNat N - 1) i then f i.toNatClampNeg else -1
def putv (N : Nat) (f : Nat → Int32) (i v : Int32) : Nat → Int32 := if inR 0 (Int32.ofNat N - 1) i then upd f i.toNatClampNeg v else f
theorem ofN1 {N : Nat} (h0 : 0 < N) (h : N < 2 ^ 31) : (Int32.ofNat N - 1).toInt = ((N - 1 : Nat) : Int) := by
  obtain ⟨M, rfl⟩ : ∃ M, N = M + 1 := ⟨N - 1, by omega⟩
  have : Int32.ofNat (M + 1) - 1 = nI M := nI_pred M
  rw [this, nI_toInt (by omega)]
  simp
theorem atv_nI {N c : Nat} {f : Nat → Int32} (h : c < N) (hN : N < 2 ^ 31) : atv N f (nI c) = f c := by
  rw [atv, inR_of (ofN1 (by omega) hN) (by omega), if_pos rfl, nI_clamp (by omega)]
theorem putv_nI {N c : Nat} {f : Nat → Int32} {v : Int32} (h : c < N) (hN : N < 2 ^ 31) : putv N f (nI c) v = upd f c v := by
  rw [putv, inR_of (ofN1 (by omega) hN) (by omega), if_pos rfl, nI_clamp (by omega)]
/-- how many of the first n -/
def cnt (P : Nat → Bool) : Nat → Nat
  | 0 => 0
  | n + 1 => cnt P n + (if P n then 1 else 0)
theorem cnt_le (P : Nat → Bool) (n : Nat) : cnt P n ≤ n := by
  induction n with
  | zero => exact Nat.le_refl 0
  | succ n ih => rw [cnt]; split <;> omega
theorem cnt_congr {P R : Nat → Bool} {n : Nat} (h : ∀ i, i < n → P i = R i) : cnt P n = cnt R n := by
  induction n with
  | zero => rfl
  | succ n ih => rw [cnt, cnt, ih (fun i hi => h i (by omega)), h n (by omega)]
/-- all of the first n -/
def allB (P : Nat → Bool) : Nat → Bool
  | 0 => true
  | n + 1 => allB P n && P n
theorem allB_congr {P R : Nat → Bool} {n : Nat} (h : ∀ i, i < n → P i = R i) : allB P n = allB R n := by
  induction n with
  | zero => rfl
  | succ n ih => rw [allB, allB, ih (fun i hi => h i (by omega)), h n (by omega)]
theorem allB_iff {P : Nat → Bool} {n : Nat} : allB P n = true ↔ ∀ i, i < n → P i = true := by
  induction n with
  | zero => simp [allB]
  | succ n ih =>
    rw [allB, Bool.and_eq_true, ih]
    constructor
    · rintro ⟨h1, h2⟩ i hi
      rcases Nat.lt_succ_iff_lt_or_eq.mp hi with h | h
      · exact h1 i h
      · rw [h]; exact h2
    · intro h
      exact ⟨fun i hi => h i (by omega), h n (by omega)⟩
theorem allB_false {P : Nat → Bool} {n i : Nat} (hi : i < n) (h : P i = false) : allB P n = false := by
  rw [Bool.eq_false_iff]
  intro q
  rw [allB_iff] at q
  rw [q i hi] at h
  cases h
theorem dec_lt {a b : Int32} (h : a < b) : decide (b ≤ a) = false := by rw [decide_eq_false_iff_not]; intro h2; rw [fa_lt] at h; rw [fa_le] at h2; omega
theorem dec_nlt {a b : Int32} (h : ¬ a < b) : decide (b ≤ a) = true := by rw [decide_eq_true_eq, fa_le]; rw [fa_lt] at h; omega
theorem dec_le {a b : Int32} (h : a ≤ b) : decide (a ≤ b) = true := decide_eq_true h
theorem dec_nle {a b : Int32} (h : ¬ a ≤ b) : decide (a ≤ b) = false := decide_eq_false h
theorem inR_in {N : Nat} {i : Int32} (h0 : 0 < N) (hN : N < 2 ^ 31) (h : inR 0 (Int32.ofNat N - 1) i = true) : vp_in i N := by
  obtain ⟨j, hj, rfl⟩ := inR_nI (ofN1 h0 hN) h
  exact vp_in_nI (by omega) hN
theorem set_self {W : va_W} {q : Nat} {x : Nat × va_E} (h : W[q]? = some x) : W.set q x = W := by
  apply List.ext_getElem?
  intro i
  by_cases hi : q = i
  · subst hi
    rw [List.getElem?_set_self (List.getElem?_eq_some_iff.mp h).1, h]
  · rw [List.getElem?_set_ne hi]
def cel (x y : Nat) (ac : Bool) (j : Nat) : Nat := if ac then 10 * y + (x + j) else 10 * (y + j) + x
theorem cel_nI (x y : Nat) : (10 : Int32) * nI y + nI x = nI (10 * y + x) := by
  rw [show (10 : Int32) = nI 10 from rfl, pk_mul, nI_add]
theorem inR_np {np : Nat} {v : Int32} (hn : np < 2 ^ 31) (h : inR 0 (nI np - 1) v = true) : ∃ k, k < np ∧ v = nI k := by
  rcases Nat.eq_zero_or_pos np with h0 | h0
  · subst h0
    rw [inR_iff] at h
    have e1 : (nI 0 - 1).toInt = -1 := by decide
    have e2 : (0 : Int32).toInt = 0 := rfl
    omega
  · obtain ⟨j, hj, rfl⟩ := inR_nI (ofN1 h0 hn) h
    exact ⟨j, by omega, rfl⟩
def fnd (np : Nat) (pcs : Nat → Option Nat) (v : Int32) : Option Nat := if inR 0 (nI np - 1) v then pcs v.toNatClampNeg else none
def lse (x y ln : Nat) (ac ot : Bool) (f : Nat → Int32) : Bool := !ot && allB (fun j => decide (1 ≤ f (cel x y ac j))) ln
def fre (wet cover : Nat → Int32) (own i : Int32) : Bool := decide (1 ≤ atv 80 wet i) && (decide (atv 80 cover i = -1) || decide (atv 80 cover i = own))
def hr1 (wet cover : Nat → Int32) (x y : Nat) (ac : Bool) (own : Int32) (j : Nat) : Bool := onW (nI (if ac then x + j else x)) (nI (if ac then y else y + j)) && fre wet cover own (nI (cel x y ac j))
def hrm (wet cover : Nat → Int32) (x y ln : Nat) (ac : Bool) (own : Int32) : Bool := allB (hr1 wet cover x y ac own) ln
theorem cnt_t {P : Nat → Bool} {n : Nat} (h : P n = true) : cnt P (n + 1) = cnt P n + 1 := by simp [cnt, h]
theorem cnt_f {P : Nat → Bool} {n : Nat} (h : P n = false) : cnt P (n + 1) = cnt P n := by simp [cnt, h]
section GL3
variable {p : Program} {l : Launch} {e : Env} {R : Room} {s : State} {m : MethodId} {args : Array Value} {below : List Frame} {meth : Method} {c : Code} {Q : State → Prop} {D : va_G} {A : Nat → Prop} {H0 : Heap} {nL k n : Nat} {pc : Nat} {lv : List (Nat × Value)} {ws ws' : va_W}
theorem g_eqi {x y : Int32} {rest : List Value} (h : x = y) (kk : G p l e R s m args below meth c D A H0 nL k n Q pc lv (.int y :: rest) ws) : G p l e R s m args below meth c D A H0 nL k n Q pc lv (.int x :: rest) ws := by rw [h]; exact kk
theorem g_eql {x y : Int64} {rest : List Value} (h : x = y) (kk : G p l e R s m args below meth c D A H0 nL k n Q pc lv (.long y :: rest) ws) : G p l e R s m args below meth c D A H0 nL k n Q pc lv (.long x :: rest) ws := by rw [h]; exact kk
theorem g_eqd {x y : UInt64} {rest : List Value} (h : x = y) (kk : G p l e R s m args below meth c D A H0 nL k n Q pc lv (.double y :: rest) ws) : G p l e R s m args below meth c D A H0 nL k n Q pc lv (.double x :: rest) ws := by rw [h]; exact kk
theorem g_eqv {x y : Value} {rest : List Value} (h : x = y) (kk : G p l e R s m args below meth c D A H0 nL k n Q pc lv (y :: rest) ws) : G p l e R s m args below meth c D A H0 nL k n Q pc lv (x :: rest) ws := by rw [h]; exact kk
theorem g_eqw {st : List Value} (h : ws = ws') (kk : G p l e R s m args below meth c D A H0 nL k n Q pc lv st ws') : G p l e R s m args below meth c D A H0 nL k n Q pc lv st ws := by rw [h]; exact kk
end GL3
