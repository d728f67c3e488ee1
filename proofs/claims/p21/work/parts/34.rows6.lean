/-! pressing; numbers below 0 -/
theorem jv_press2 {np : Nat} {wet cover sun : Nat → Int32} {P : Nat → Pd} {pcs : Nat → Option Nat} {pa : Nat → Nat} (J : JV np wet cover sun P pcs pa) {x y ln f b : Nat} {ac : Bool} (hx : x ≤ 9) (hy : y ≤ 7) (hl : ln ≤ 3) (hc : cdPr np wet cover (nI x) (nI y) (nI ln) ac (nI f) (nI b) = 0) (q : Nat) : JV (np + 1) wet (setL cover (pcl (pPV x y ln f b ac)) (nI np) ln) sun (pup P np (pPV x y ln f b ac)) (va_up pcs np (some q)) (va_up pa np q) ∧ lsp (pPV x y ln f b ac) wet = true := by
  have h := jv_press J hc q
  rw [show vn (nI x) = x from nI_clamp (by omega), show vn (nI y) = y from nI_clamp (by omega), show vn (nI ln) = ln from nI_clamp (by omega)] at h
  exact h
theorem m1_le {n : Nat} (h : n < 2 ^ 31) : -1 ≤ nI n := by
  rw [fa_le, nI_toInt h]
  have : (-1 : Int32).toInt = -1 := by decide
  omega
theorem cnt_nlt {P R : Nat → Bool} {n : Nat} (hn : n ≤ 100) (h : cnt P n ≤ cnt R n) : ¬ nI (cnt R n) < nI (cnt P n) := by
  have h1 := cnt_le P n
  have h2 := cnt_le R n
  rw [nI_ltI (by omega) (by omega)]
  omega
