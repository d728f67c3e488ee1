abbrev vn (v : Int32) : Nat := v.toNatClampNeg
def cdE (cd : Nat) (names : List String) (E : String) : Prop := 0 < cd ∧ names[cd - 1]? = some E
def gIy (P9 : Prop) (x : Option Value) (W1 : va_W) : Option Value → va_W → Prop := fun u w => P9 ∧ u = x ∧ w = W1
abbrev nmO : List String := ["java/lang/IndexOutOfBoundsException"]
abbrev nmA : List String := ["java/lang/IllegalArgumentException"]
abbrev nmOA : List String := ["java/lang/IndexOutOfBoundsException", "java/lang/IllegalArgumentException"]
abbrev nmOS : List String := ["java/lang/IndexOutOfBoundsException", "java/lang/IllegalStateException"]
abbrev nmOAS : List String := ["java/lang/IndexOutOfBoundsException", "java/lang/IllegalArgumentException", "java/lang/IllegalStateException"]
section GY
variable {p : Program} {l : Launch} {e : Env} {R : Room} {s : State} {m : MethodId} {args : Array Value} {below : List Frame} {meth : Method} {c : Code} {Q : State → Prop} {D : va_G} {A : Nat → Prop} {H0 : Heap} {nL k n : Nat} {pc : Nat} {lv : List (Nat × Value)} {rest : List Value} {W1 : va_W} {P9 : Prop}
theorem g_isY {x : Value} (kk : P9 → G p l e R s m args below meth c D A H0 nL k n Q pc lv (x :: rest) W1) : ∀ (v : Option Value) (w : va_W), gIy P9 (some x) W1 v w → G p l e R s m args below meth c D A H0 nL k n Q pc lv (v.toList ++ rest) w := by
  rintro v w ⟨h, rfl, rfl⟩
  exact kk h
theorem g_isYV (kk : P9 → G p l e R s m args below meth c D A H0 nL k n Q pc lv rest W1) : ∀ (v : Option Value) (w : va_W), gIy P9 none W1 v w → G p l e R s m args below meth c D A H0 nL k n Q pc lv (v.toList ++ rest) w := by
  rintro v w ⟨h, rfl, rfl⟩
  exact kk h
end GY
abbrev pIn (np : Nat) (v : Int32) : Bool := inR 0 (nI np - 1) v
def patB (k a b : Int32) : Bool := inR 0 3 k && (inR 0 6 a && inR 0 6 b)
def cdO (x y : Int32) : Nat := if onW x y then 0 else 1
def cdP (k a b : Int32) : Nat := if patB k a b then 0 else 1
def cdSp (x y w h : Int32) : Nat := if onW x y then (if inR 1 (10 - x) w && inR 1 (8 - y) h then 0 else 2) else 1
def cdSu (h s : Int32) : Nat := if inR 0 7 h then (if inR 0 4 s then 0 else 2) else 1
def cdPr (np : Nat) (wet cover : Nat → Int32) (x y ln : Int32) (ac : Bool) (f b : Int32) : Nat := if onW x y then (if inR 1 3 ln && (inR 0 6 f && inR 0 6 b) then (if inR 0 99 (nI np) && hrm wet cover (vn x) (vn y) (vn ln) ac (-1) then 0 else 3) else 2) else 1
def cdFl (np : Nat) (P : Nat → Pd) (wet : Nat → Int32) (v : Int32) : Nat := if pIn np v then (if lsp (P (vn v)) wet then 0 else 2) else 1
def cdTu (np : Nat) (P : Nat → Pd) (wet cover : Nat → Int32) (v : Int32) : Nat := if pIn np v then (if lsp (P (vn v)) wet && hrm wet cover (qx (P (vn v))) (qy (P (vn v))) (ql (P (vn v))) (!qc (P (vn v))) v then 0 else 2) else 1
def cdTa (np : Nat) (P : Nat → Pd) (v : Int32) : Nat := if pIn np v then (if qo (P (vn v)) then 2 else 0) else 1
def cdCe (x y w : Int32) : Nat := if onW x y && inR 0 2 w then 0 else 1
def cdPi (np : Nat) (v w : Int32) : Nat := if pIn np v && inR 0 7 w then 0 else 1
def cdCo (w : Int32) : Nat := if inR 0 7 w then 0 else 1
def cdPa (h : Int32) : Nat := if inR 1 100 h then 0 else 1
def cdLo (np : Nat) (v : Int32) : Nat := if pIn np v then 0 else 1
/-- spreading, cell by cell -/
def rcl (x y w k : Nat) : Nat := 10 * (y + k / w) + (x + k % w)
def sprF (cover : Nat → Int32) (x y w k : Nat) : Bool := decide (cover (rcl x y w k) = -1)
def sprW (wet cover : Nat → Int32) (x y w : Nat) : Nat → Nat → Int32
  | 0 => wet
  | k + 1 => if sprF cover x y w k then upd (sprW wet cover x y w k) (rcl x y w k) 12 else sprW wet cover x y w k
theorem rcl_dr {x y w d r : Nat} (h : r < w) : rcl x y w (w * d + r) = 10 * (y + d) + (x + r) := by
  have h0 : 0 < w := by omega
  rw [rcl, Nat.mul_add_div h0, Nat.mul_add_mod, Nat.div_eq_of_lt h, Nat.mod_eq_of_lt h, Nat.add_zero]
/-- a row some places of which get less by one, one after the other -/
def decL (f : Nat → Int32) (cl : Nat → Nat) : Nat → Nat → Int32
  | 0 => f
  | n + 1 => upd (decL f cl n) (cl n) (decL f cl n (cl n) - 1)
/-- the mortar behind n hours -/
def wetN (wet cover sun : Nat → Int32) (hr : Nat) : Nat → Nat → Int32
  | 0 => wet
  | n + 1 => dry1 (wetN wet cover sun hr n) cover (sun ((hr + n) % 8)) (decide ((hr + n) % 2 = 0))
theorem wetN_1 (wet cover sun : Nat → Int32) (hr n : Nat) : dry1 (wetN wet cover sun hr n) cover (sun ((hr + n) % 8)) (decide ((hr + n) % 2 = 0)) = wetN wet cover sun hr (n + 1) := rfl
/-- the first number from i on that B takes; -1 if none in so many -/
def fstI (B : Nat → Bool) : Nat → Nat → Int32
  | 0, _ => -1
  | f + 1, i => if B i then nI i else fstI B f (i + 1)
theorem fstI_t {B : Nat → Bool} {i : Nat} (hi : i ≤ 200) (h : B i = true) : fstI B (201 - i) i = nI i := by
  rw [show 201 - i = (200 - i) + 1 by omega, fstI, h]; rfl
theorem fstI_f {B : Nat → Bool} {i : Nat} (hi : i ≤ 200) (h : B i = false) : fstI B (201 - i) i = fstI B (201 - (i + 1)) (i + 1) := by
  rw [show 201 - i = (201 - (i + 1)) + 1 by omega, fstI, h]; rfl
/-- the best flip -/
def advS (np : Nat) (P : Nat → Pd) (wet cover : Nat → Int32) (k : Nat) (a b : Int32) : Nat → Int32 × Nat
  | 0 => (-1, cnt (offB np P cover k a b) 80)
  | n + 1 => if lsp (P n) wet && decide (cnt (offB np (pup P n (flp (P n))) cover k a b) 80 < (advS np P wet cover k a b n).2) then (nI n, cnt (offB np (pup P n (flp (P n))) cover k a b) 80) else advS np P wet cover k a b n
theorem advS_n (np : Nat) (P : Nat → Pd) (wet cover : Nat → Int32) (k : Nat) (a b : Int32) (n : Nat) : (advS np P wet cover k a b n).2 ≤ 80 := by
  induction n with
  | zero => exact cnt_le _ _
  | succ n ih => rw [advS]; split
                 · exact cnt_le _ _
                 · exact ih
/-- what count tells, and the marks behind it -/
def cntf (np hr : Nat) (P : Nat → Pd) (wet cover fd : Nat → Int32) (w : Nat) : Int32 :=
  if w = 0 then nI hr else if w = 1 then nI np else if w = 2 then nI (cnt (fun k => !qo (P k)) np) else if w = 3 then nI (cnt (fun k => lsp (P k) wet) np) else if w = 4 then nI (cnt (fun c => decide (0 ≤ wet c)) 80)
  else if w = 5 then nI (cnt (fun c => decide (1 ≤ wet c)) 80) else if w = 6 then nI (cnt (fun c => decide (0 ≤ cover c)) 80) else nI (gpS cover fd 80).1
def cntW (cover mk fd : Nat → Int32) (w : Nat) : (Nat → Int32) × (Nat → Int32) := if w = 7 then (gpS cover fd 80).2 else (mk, fd)
/-- the checksum's steps -/
def dgN (f : Nat → Int32) : Nat → Int64 → Int64
  | 0, d => d
  | n + 1, d => dgN f n d * 31 + (f n).toInt64
def shareD (n : Nat) : UInt64 := FP.ddiv (FP.i2d (nI n)) 4635329916471083008
theorem shareOk : ∀ n, n ≤ 80 → vf_n64 (shareD n) := by
  have h : (List.range 81).all (fun n => decide (shareD n &&& 0x7fffffffffffffff ≤ 0x7ff0000000000000)) = true := by decide +kernel
  intro n hn
  have := List.all_eq_true.mp h n (List.mem_range.mpr (by omega))
  have h2 : (shareD n &&& 0x7fffffffffffffff) ≤ 0x7ff0000000000000 := of_decide_eq_true this
  exact h2
