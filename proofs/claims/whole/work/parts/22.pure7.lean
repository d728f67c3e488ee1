/-! the reference's gaps, and single rows -/
def bes (c : Int32) (sd : Nat) : Int32 := if onW (c - c / 10 * 10 + (if sd = 0 then 1 else if sd = 1 then -1 else 0)) (c / 10 + (if sd = 2 then 1 else if sd = 3 then -1 else 0)) then 10 * (c / 10 + (if sd = 2 then 1 else if sd = 3 then -1 else 0)) + (c - c / 10 * 10 + (if sd = 0 then 1 else if sd = 1 then -1 else 0)) else -1
theorem onW_nat {x y : Int32} (h : onW x y = true) : ∃ a b : Nat, a ≤ 9 ∧ b ≤ 7 ∧ x = nI a ∧ y = nI b := by
  simp only [onW, Bool.and_eq_true] at h
  obtain ⟨a, ha, rfl⟩ := inR_nI (n := 9) rfl h.1
  obtain ⟨b, hb, rfl⟩ := inR_nI (n := 7) rfl h.2
  exact ⟨a, b, ha, hb, rfl, rfl⟩
theorem bes_in {c : Int32} {sd : Nat} (h : ¬ bes c sd = -1) : ∃ j, j < 80 ∧ bes c sd = nI j := by
  rw [bes] at h ⊢
  by_cases hw : onW (c - c / 10 * 10 + (if sd = 0 then 1 else if sd = 1 then -1 else 0)) (c / 10 + (if sd = 2 then 1 else if sd = 3 then -1 else 0)) = true
  · rw [if_pos hw]
    obtain ⟨a, b, ha, hb, e1, e2⟩ := onW_nat hw
    rw [e1, e2, cel_nI]
    exact ⟨10 * b + a, by omega, rfl⟩
  · rw [if_neg hw] at h
    exact absurd rfl h
def fl1 (cover : Nat → Int32) (c : Int32) (sd : Nat) (S : Sg) : Sg := if ¬ bes c sd = -1 ∧ cover (vn (bes c sd)) = -1 ∧ S.1 (vn (bes c sd)) = 0 then (upd S.1 (vn (bes c sd)) 1, upd S.2.1 S.2.2 (bes c sd), S.2.2 + 1) else S
def flL (cover : Nat → Int32) : Nat → Nat → Sg → Sg
  | 0, _, S => S
  | f + 1, k, S => if k < 4 * S.2.2 then flL cover f (k + 1) (fl1 cover (S.2.1 (k / 4)) (k % 4) S) else S
theorem flL_end {cover : Nat → Int32} {k : Nat} {S : Sg} (hk : k ≤ 320) (h : ¬ k < 4 * S.2.2) : flL cover (321 - k) k S = S := by
  rw [show 321 - k = (320 - k) + 1 by omega, flL, if_neg h]
theorem flL_step {cover : Nat → Int32} {k : Nat} {S : Sg} (hk : k < 320) (h : k < 4 * S.2.2) : flL cover (321 - k) k S = flL cover (321 - (k + 1)) (k + 1) (fl1 cover (S.2.1 (k / 4)) (k % 4) S) := by
  rw [show 321 - k = (321 - (k + 1)) + 1 by omega, flL, if_pos h]
def flS (fo rw : Nat → Int32) (a : Nat) : Sg := (upd fo a 1, upd rw 0 (nI a), 1)
def flP (cover : Nat → Int32) (a : Nat) (fo rw : Nat → Int32) : Sg := flL cover 321 0 (flS fo rw a)
/-- how many are marked -/
def mkc (f : Nat → Int32) : Nat := cnt (fun c => decide (¬ f c = 0)) 80
theorem cnt_up {P : Nat → Bool} {n k : Nat} (R : Nat → Bool) (hR : ∀ i, i ≠ k → R i = P i) (hk : k < n) (h0 : P k = false) (h1 : R k = true) : cnt R n = cnt P n + 1 := by
  induction n with
  | zero => omega
  | succ n ih =>
    by_cases e : k = n
    · subst e
      rw [cnt_t h1, cnt_f h0, cnt_congr (fun i hi => hR i (by omega))]
    · rw [cnt, cnt, ih (by omega), hR n (by omega)]
      omega
theorem mkc_up {f : Nat → Int32} {k : Nat} (hk : k < 80) (h0 : f k = 0) : mkc (upd f k 1) = mkc f + 1 := by
  refine cnt_up _ (fun i hi => by rw [pk_un hi]) hk ?_ ?_
  · rw [h0]; decide
  · rw [pk_us]; decide
theorem mkc_le (f : Nat → Int32) : mkc f ≤ 80 := cnt_le _ _
theorem mkc_lt {f : Nat → Int32} {k : Nat} (hk : k < 80) (h0 : f k = 0) : mkc f < 80 := by
  have := mkc_up hk h0
  have := mkc_le (upd f k 1)
  omega
/-- all gaps, as the reference counts them -/
def gmS (cover rw0 : Nat → Int32) : Nat → Nat × (Nat → Int32) × (Nat → Int32)
  | 0 => (0, fun _ => 0, rw0)
  | c + 1 => if cover c = -1 ∧ (gmS cover rw0 c).2.1 c = 0 then ((gmS cover rw0 c).1 + 1, (flP cover c (gmS cover rw0 c).2.1 (gmS cover rw0 c).2.2).1, (flP cover c (gmS cover rw0 c).2.1 (gmS cover rw0 c).2.2).2.1) else gmS cover rw0 c
theorem gmS_n (cover rw0 : Nat → Int32) (n : Nat) : (gmS cover rw0 n).1 ≤ n := by
  induction n with
  | zero => exact Nat.le_refl 0
  | succ n ih =>
    rw [gmS]
    split
    · show (gmS cover rw0 n).1 + 1 ≤ n + 1
      omega
    · omega
def cntm (np hr : Nat) (P : Nat → Pd) (wet cover rw0 : Nat → Int32) (w : Nat) : Int32 :=
  if w = 0 then nI hr else if w = 1 then nI np else if w = 2 then nI (cnt (fun k => !qo (P k)) np) else if w = 3 then nI (cnt (fun k => lsp (P k) wet) np) else if w = 4 then nI (cnt (fun c => decide (0 ≤ wet c)) 80)
  else if w = 5 then nI (cnt (fun c => decide (1 ≤ wet c)) 80) else if w = 6 then nI (cnt (fun c => decide (0 ≤ cover c)) 80) else nI (gmS cover rw0 80).1
def cnmW (cover rw0 fo : Nat → Int32) (w : Nat) : (Nat → Int32) × (Nat → Int32) := if w = 7 then (gmS cover rw0 80).2 else (fo, rw0)
theorem sub1N (n : Nat) (h : 1 ≤ n) : nI n - 1 = nI (n - 1) := by rw [show (1 : Int32) = nI 1 from rfl, pk_sub h]
theorem mul2N (n : Nat) : (2 : Int32) * nI n = nI (2 * n) := by rw [show (2 : Int32) = nI 2 from rfl, pk_mul]
theorem mul4N (n : Nat) : (4 : Int32) * nI n = nI (4 * n) := by rw [show (4 : Int32) = nI 4 from rfl, pk_mul]
