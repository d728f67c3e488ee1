/-! a piece as a tuple: x, y, cells, front, back, across, shows its back, out -/
abbrev Pd : Type := Nat × Nat × Nat × Int32 × Int32 × Bool × Bool × Bool
abbrev qx (p : Pd) : Nat := p.1
abbrev qy (p : Pd) : Nat := p.2.1
abbrev ql (p : Pd) : Nat := p.2.2.1
abbrev qf (p : Pd) : Int32 := p.2.2.2.1
abbrev qb (p : Pd) : Int32 := p.2.2.2.2.1
abbrev qc (p : Pd) : Bool := p.2.2.2.2.2.1
abbrev qs (p : Pd) : Bool := p.2.2.2.2.2.2.1
abbrev qo (p : Pd) : Bool := p.2.2.2.2.2.2.2
abbrev pcE (p : Pd) : va_E := .inr (0, [.int (nI (qx p)), .int (nI (qy p)), .int (nI (ql p)), .int (qf p), .int (qb p), .int (gz (qc p)), .int (gz (qs p)), .int (gz (qo p))])
/-- the cells of a piece, and its being loose -/
def pcl (p : Pd) (j : Nat) : Nat := cel (qx p) (qy p) (qc p) j
def lsp (p : Pd) (f : Nat → Int32) : Bool := lse (qx p) (qy p) (ql p) (qc p) (qo p) f
def shw (p : Pd) : Int32 := if qs p then qb p else qf p
def oth (p : Pd) : Int32 := if qs p then qf p else qb p
def Pin (W : va_W) (np : Nat) (pcs : Nat → Option Nat) (pa : Nat → Nat) (P : Nat → Pd) : Prop := ∀ k, k < np → pcs k = some (pa k) ∧ (pa k, pcE (P k)) ∈ W
def Pg (p : Pd) : Prop := 1 ≤ ql p ∧ ql p ≤ 3 ∧ qx p ≤ 9 ∧ qy p ≤ 7 ∧ ∀ j, j < ql p → cel (qx p) (qy p) (qc p) j < 80
def Pok (np : Nat) (P : Nat → Pd) : Prop := ∀ k, k < np → Pg (P k)
theorem fnd_nI {np k : Nat} {pcs : Nat → Option Nat} {a : Nat} (h : k < np) (hn : np ≤ 100) (hp : pcs k = some a) : va_rf (fnd np pcs (nI k)) = .ref a := by
  rw [fnd, inR_of (n := np - 1) (by rw [show nI np - 1 = Int32.ofNat np - 1 from rfl, ofN1 (by omega) (by omega)]) (by omega), if_pos rfl, nI_clamp (by omega), hp]
  rfl
/-- the colour that a cell shows -/
def colv (np : Nat) (P : Nat → Pd) (cover : Nat → Int32) (c : Nat) : Int32 := if inR 0 (nI np - 1) (cover c) then shw (P (cover c).toNatClampNeg) else -1
def cfact (np : Nat) (P : Nat → Pd) (wet cover : Nat → Int32) (c w : Nat) : Int32 := if w = 0 then wet c else if w = 1 then cover c else colv np P cover c
def pfact (p : Pd) (wet : Nat → Int32) (w : Nat) : Int32 :=
  if w = 0 then nI (qx p) else if w = 1 then nI (qy p) else if w = 2 then nI (ql p) else if w = 3 then gz (qc p) else if w = 4 then shw p else if w = 5 then oth p else if w = 6 then gz (lsp p wet) else gz (qo p)
def fitB (np : Nat) (P : Nat → Pd) (cover : Nat → Int32) (x y k : Nat) (a b : Int32) : Bool :=
  if k = 0 then decide (colv np P cover (10 * y + x) = a) else if k = 1 then decide (colv np P cover (10 * y + x) = if y % 2 = 0 then a else b)
  else if k = 2 then decide (colv np P cover (10 * y + x) = if (x + y) % 2 = 0 then a else b) else decide (colv np P cover (10 * y + x) = colv np P cover (10 * y + (9 - x)))
def offB (np : Nat) (P : Nat → Pd) (cover : Nat → Int32) (k : Nat) (a b : Int32) (c : Nat) : Bool := !fitB np P cover (c % 10) (c / 10) k a b
theorem remI (a d : Nat) (ha : a < 2 ^ 31) (h0 : 0 < d) (hd : d < 2 ^ 31) {D : Int32} (hD : D = nI d) : nI a - nI a / D * D = nI (a % d) := by rw [hD]; exact pk_rem ha h0 hd
theorem divI (a d : Nat) (ha : a < 2 ^ 31) (h0 : 0 < d) (hd : d < 2 ^ 31) {D : Int32} (hD : D = nI d) : nI a / D = nI (a / d) := by rw [hD]; exact pk_div ha h0 hd
theorem sub9 {x : Nat} (h : x ≤ 9) : (9 : Int32) - nI x = nI (9 - x) := by rw [show (9 : Int32) = nI 9 from rfl, pk_sub h]
section GL2
variable {p : Program} {l : Launch} {e : Env} {R : Room} {s : State} {m : MethodId} {args : Array Value} {below : List Frame} {meth : Method} {c : Code} {Q : State → Prop} {D : va_G} {A : Nat → Prop} {H0 : Heap} {nL k n : Nat} {pc : Nat} {lv : List (Nat × Value)} {ws ws' : va_W}
/-- a row of ints as another function that agrees with it as far as it goes -/
theorem g_cong {st : List Value} {cA : ClassId} {a N : Nat} {f g : Nat → Int32} (q0 : Nat) (hq : ws[q0]? = some (a, .inl (cA, N, .inl f))) (h : ∀ j, j < N → f j = g j) (hw : ws.set q0 (a, .inl (cA, N, .inl g)) = ws') (kk : G p l e R s m args below meth c D A H0 nL k n Q pc lv st ws') : G p l e R s m args below meth c D A H0 nL k n Q pc lv st ws := by
  intro H locs ls hP hD hS hl
  have hc : vp_cell cA (N, .inl f) = vp_cell cA (N, .inl g) := by
    rw [vp_cell_i, vp_cell_i, arrV, arrV]
    congr 1
    apply Array.ext
    · simp
    · intro i h1 h2
      simp only [Array.size_ofFn] at h1
      simp only [Array.getElem_ofFn]
      rw [h i h1]
  have hat := hP q0 _ hq
  have hP1 : va_P D vwCl (ws.set q0 (a, .inl (cA, N, .inl g))) H := hP.set hD hq (by
    show H[a]? = some (vp_cell cA (N, .inl g))
    rw [← hc]; exact hat) (fun _ _ => rfl)
  have hD1 : va_D A (ws.set q0 (a, .inl (cA, N, .inl g))) := hD.set hq
  rw [hw] at hP1 hD1
  exact kk H locs ls hP1 hD1 hS hl
end GL2
