/-! methods that catch: their contracts, the calls that may throw, handlers; the law's own rows -/
def gH (s : State) (args : Array Value) (c : Code) (own E : String) (pc : Nat) (K : Nat → Prop) : Prop :=
  ∃ (pre : List ExceptionTableEntry) (x : ExceptionTableEntry) (suf : List ExceptionTableEntry), c.exceptionTable.toList = pre ++ x :: suf ∧ (∀ z ∈ pre, covers z pc = false ∨ (z.catchType ≠ 0 ∧ ∃ nm : String, (Cond.classLink own z.catchType nm).before args s = true ∧ va_Nc E nm s)) ∧ covers x pc = true ∧ x.catchType ≠ 0 ∧ (Cond.classLink own x.catchType E).before args s = true ∧ (Cond.castable E E).before args s = true ∧ K x.handlerPc
def gHo (cd : Nat) (W1 : va_W → Prop) (W0 : va_W) : Option Value → va_W → Prop := fun u w => (cd = 0 ∧ u = some (.int 0) ∧ W1 w) ∨ (¬ cd = 0 ∧ u = some (.int (nI cd)) ∧ w = W0)
theorem cdE1 {cd : Nat} {E e1 : String} (h : cdE cd [e1] E) : cd = 1 ∧ E = e1 := by
  obtain ⟨h0, h⟩ := h
  rcases cd with _ | _ | cd
  · omega
  · simp at h; exact ⟨rfl, h.symm⟩
  · simp at h
theorem cdE2 {cd : Nat} {E e1 e2 : String} (h : cdE cd [e1, e2] E) : (cd = 1 ∧ E = e1) ∨ (cd = 2 ∧ E = e2) := by
  obtain ⟨h0, h⟩ := h
  rcases cd with _ | _ | _ | cd
  · omega
  · simp at h; exact Or.inl ⟨rfl, h.symm⟩
  · simp at h; exact Or.inr ⟨rfl, h.symm⟩
  · simp at h
theorem cdE3 {cd : Nat} {E e1 e2 e3 : String} (h : cdE cd [e1, e2, e3] E) : (cd = 1 ∧ E = e1) ∨ (cd = 2 ∧ E = e2) ∨ (cd = 3 ∧ E = e3) := by
  obtain ⟨h0, h⟩ := h
  rcases cd with _ | _ | _ | _ | cd
  · omega
  · simp at h; exact Or.inl ⟨rfl, h.symm⟩
  · simp at h; exact Or.inr (Or.inl ⟨rfl, h.symm⟩)
  · simp at h; exact Or.inr (Or.inr ⟨rfl, h.symm⟩)
  · simp at h
theorem og {pa : Nat → Nat} {P : Nat → Pd} {n : Nat} {Z : va_W} {a b c d e f g h x : Nat × va_E} : (a :: b :: c :: d :: e :: f :: g :: h :: (plist pa P n ++ (x :: Z)))[n + 8]? = some x := by
  show (plist pa P n ++ (x :: Z))[n]? = some x
  rw [List.getElem?_append_right (by rw [plist_len]; exact Nat.le_refl _), plist_len, Nat.sub_self]; rfl
theorem os {pa : Nat → Nat} {P : Nat → Pd} {n : Nat} {Z : va_W} {a b c d e f g h x y : Nat × va_E} : (a :: b :: c :: d :: e :: f :: g :: h :: (plist pa P n ++ (x :: Z))).set (n + 8) y = a :: b :: c :: d :: e :: f :: g :: h :: (plist pa P n ++ (y :: Z)) := by
  show a :: b :: c :: d :: e :: f :: g :: h :: ((plist pa P n ++ (x :: Z)).set n y) = _
  rw [List.set_append_right _ _ (by rw [plist_len]; exact Nat.le_refl _), plist_len, Nat.sub_self]; rfl
def gzL (b : Bool) : Int64 := if b then 1 else 0
theorem gM_ofW {l : Launch} {y : MethodName} {words words' : List Cond} {rm : Room} {D : va_G} {tys : List (ClassId × FieldType)} {As : List Value} {W0 : va_W} {post : Option Value → va_W → Prop} {mc ms : Nat} {cc : ByteArray} {maxL : Nat} {ret : Option FieldType} {hh : List (Nat × Nat × Nat × Nat)}
    (hy : plainName y.cls = true) (hw : words = Cond.codeWith y cc maxL ret hh :: words') (hlen : (lg_sl As).length ≤ maxL)
    (body : ∀ (p : Program) (e : Env) (s : State) (m : MethodId) (args : Array Value) (below : List Frame) (meth : Method) (c : Code) (A : Nat → Prop) (Q : State → Prop), gC p s m args meth c D A s.heap tys cc maxL words y.cls ret → c.exceptionTable.toList = tableOf hh → (∀ t, MQ below (gQ post D A) args s mc ms A t → Q t) →
      G p l e rm s m args below meth c D A s.heap maxL 0 0 Q 0 (lv_args 0 As) [] W0) : gM l y words rm D tys As W0 post mc ms := by
  intro sz
  refine va_MetW hy hw ?_
  intro p e s m args below meth c s₁ B hml hv
  obtain ⟨rfl, hsz, hP, hK, hD0, hE⟩ := hv
  subst hsz
  have hl := lv_entry As (n := maxL) hlen
  have hpre := atoms_spec (ws := words) B.pre
  have hT : c.exceptionTable.toList = tableOf hh := vx_table (x := y) B (hpre _ (by rw [hw]; exact List.mem_cons_self))
  rw [lg_entry_eq]
  exact body p e s m _ below meth c (va_A W0 s.heap.size) _ ⟨B.exec, B.bytes, hml, findClass_of_methodNamed B.named, hpre, hK, fun q h => Or.inr h, B.returns, B.notSynchronized, hE, rfl⟩ hT (fun t h => h) s.heap [] _ hP hD0.self va_S.rf hl
section GW
variable {p : Program} {l : Launch} {e : Env} {R : Room} {s : State} {m : MethodId} {args : Array Value} {below : List Frame} {meth : Method} {c : Code} {Q : State → Prop} {D : va_G} {A : Nat → Prop} {H0 : Heap} {tys : List (ClassId × FieldType)} {cc : ByteArray} {nL k n mc ms : Nat} {Ts : List Cond} {own : String} {ret : Option FieldType} {pc : Nat} {lv lv' : List (Nat × Value)} {rest : List Value} {ws ws' W0 : va_W} {post : Option Value → va_W → Prop} {K : Nat → Prop}
theorem gC.cast (C : gC p s m args meth c D A s.heap tys cc nL Ts own ret) {w : Cond} (hw : w ∈ gN2) : w.before args s = true := va_Nw.use (gDC_tab (gN2_ok w hw)) (C.E.2.2.2.2.1 w hw)
theorem gH_0 (C : gC p s m args meth c D A s.heap tys cc nL Ts own ret) {a b h t : Nat} {hh : List (Nat × Nat × Nat × Nat)} {E : String} (hT : c.exceptionTable.toList = tableOf ((a, b, h, t) :: hh)) (hcov : covers ⟨a, b, h, t⟩ pc = true) (ht : t ≠ 0) (hl : Cond.classLink own t E ∈ Ts) (hc : Cond.castable E E ∈ gN2) (kk : K h) : gH s args c own E pc K :=
  ⟨[], ⟨a, b, h, t⟩, tableOf hh, hT, fun z hz => absurd hz List.not_mem_nil, hcov, ht, C.w _ hl, C.cast hc, kk⟩
theorem gH_1 (C : gC p s m args meth c D A s.heap tys cc nL Ts own ret) {a b h t a0 b0 h0 t0 : Nat} {hh : List (Nat × Nat × Nat × Nat)} {E E0 : String} (hT : c.exceptionTable.toList = tableOf ((a0, b0, h0, t0) :: (a, b, h, t) :: hh)) (ht0 : t0 ≠ 0) (hl0 : Cond.classLink own t0 E0 ∈ Ts) (hn0 : (E, E0) ∈ gNc) (hcov : covers ⟨a, b, h, t⟩ pc = true) (ht : t ≠ 0) (hl : Cond.classLink own t E ∈ Ts) (hc : Cond.castable E E ∈ gN2) (kk : K h) : gH s args c own E pc K :=
  ⟨[⟨a0, b0, h0, t0⟩], ⟨a, b, h, t⟩, tableOf hh, hT, fun z hz => by
    rw [List.mem_singleton] at hz
    subst hz
    exact Or.inr ⟨ht0, E0, C.w _ hl0, C.E.2.2.2.2.2.1 _ hn0⟩, hcov, ht, C.w _ hl, C.cast hc, kk⟩
theorem gH_2 (C : gC p s m args meth c D A s.heap tys cc nL Ts own ret) {a b h t a0 b0 h0 t0 a1 b1 h1 t1 : Nat} {hh : List (Nat × Nat × Nat × Nat)} {E E0 E1 : String} (hT : c.exceptionTable.toList = tableOf ((a0, b0, h0, t0) :: (a1, b1, h1, t1) :: (a, b, h, t) :: hh)) (ht0 : t0 ≠ 0) (hl0 : Cond.classLink own t0 E0 ∈ Ts) (hn0 : (E, E0) ∈ gNc) (ht1 : t1 ≠ 0) (hl1 : Cond.classLink own t1 E1 ∈ Ts) (hn1 : (E, E1) ∈ gNc) (hcov : covers ⟨a, b, h, t⟩ pc = true) (ht : t ≠ 0) (hl : Cond.classLink own t E ∈ Ts) (hc : Cond.castable E E ∈ gN2) (kk : K h) : gH s args c own E pc K :=
  ⟨[⟨a0, b0, h0, t0⟩, ⟨a1, b1, h1, t1⟩], ⟨a, b, h, t⟩, tableOf hh, hT, fun z hz => by
    rcases List.mem_cons.mp hz with hz | hz
    · subst hz; exact Or.inr ⟨ht0, E0, C.w _ hl0, C.E.2.2.2.2.2.1 _ hn0⟩
    · rw [List.mem_singleton] at hz
      subst hz; exact Or.inr ⟨ht1, E1, C.w _ hl1, C.E.2.2.2.2.2.1 _ hn1⟩, hcov, ht, C.w _ hl, C.cast hc, kk⟩
/-- a virtual call of a method that may throw, in a method that catches it -/
theorem g_callVx {y : MethodName} {bytes : ByteArray} {maxL index na mc1 ms1 ci b : Nat} {rt : Option FieldType} {words : List Cond} {rm : Room} {As st fs : List Value} {r : vw_C} {Cn : String} {post1 : Option Value → va_W → Prop} {px1 : String → Prop}
    (C : gC p s m args meth c D A s.heap tys cc nL Ts own ret) (he : (b, .inr (ci, fs)) ∈ ws) (hc : vwCl[ci]? = some r) (hr : r.1 = Cn) (hM : gMx l y words rm D tys (.ref b :: As) ws post1 px1 mc1 ms1) (cw : CallW R s args own Cn index y bytes maxL rt words rm mc1 ms1 na) (hn : As.length = na) (hst : st = As.reverse ++ .ref b :: rest) (hcat : (rest.map fun v => v.category).sum ≤ 8) (hdg : decode cc pc = .ok (.invokevirtual index, 3)) (hk : k + mc1 ≤ R.cells) (hs : n + ms1 ≤ R.slots)
    (kx : ∀ E, px1 E → gH s args c own E pc (fun hp => ∀ q, G p l e R s m args below meth c D A s.heap nL (k + mc1) (n + ms1) Q hp lv [.ref q] ws))
    (kk : ∀ (v : Option Value) (w : va_W), post1 v w → G p l e R s m args below meth c D A s.heap nL (k + mc1) (n + ms1) Q (pc + 3) lv (v.toList ++ rest) w) :
    G p l e R s m args below meth c D A s.heap nL k n Q pc lv st ws := by
  intro H locs ls hP hD hS hl T hT9 X
  have hin := C.in hD hS
  obtain ⟨q0, he⟩ := List.getElem?_of_mem he
  rcases vx_runV C.fix (hM H.size) cw ⟨gP_blind, by rw [← hr]; exact va_recv C.K hP hc he, fun U hU hW => C.pre hP hD hS hU hW⟩ rfl hn hl.1 hst (lv_room (pc := pc) (m := m) (ls := ls) (rest := st) hcat) hdg ⟨hk, hs⟩ T hT9 X with ⟨v, st₀, t, T', L, h0, X', hL, e1, e2, ⟨⟨r, w, hv, hp, hPw, hDw⟩, hF⟩, st9⟩ | ⟨q, st₀, t, T', L, E, ce, h0, X', hL, e1, e2, ⟨hp, ⟨hPw, hDw⟩, hF⟩, hce, hcv, hcl, st9⟩
  · cases hv
    obtain ⟨k1, k2, k3⟩ := vx_keep h0 e1 hS (fun q _ h => hin q h) hin hL hF
    obtain ⟨t2, a1, b1⟩ := kk _ w hp T'.heap (locs ++ L) ls (by rw [e1]; exact hPw) (hDw.weaken (fun _ q _ h => hin _ h)) k3 hl T' rfl X'
    exact ⟨t2, st9 t2 a1, b1⟩
  · obtain ⟨k1, k2, k3⟩ := vx_keep h0 e1 hS (fun q _ h => hin q h) hin hL hF
    obtain ⟨pre, x, suf, h1, h2, h3, h4, h5, h6, h7⟩ := kx E hp
    obtain ⟨t2, a1, b1⟩ := vx_catch (rest := rest) C.ow pre x suf h1 h2 h3 h4 h5 h6 (H := T'.heap) (by rw [e1]; exact hce) hcv hcl (h7 q T'.heap (locs ++ L) ls (by rw [e1]; exact hPw) (hDw.weaken (fun _ q _ h => hin _ h)) k3 hl) T' rfl X'
    exact ⟨t2, st9.trans a1, b1⟩
/-- a static call of a method that catches -/
theorem g_callSW {y : MethodName} {bytes : ByteArray} {maxL index na : Nat} {rt : Option FieldType} {words : List Cond} {rm : Room} {As st : List Value} {hh : List (Nat × Nat × Nat × Nat)} (C : gC p s m args meth c D A H0 tys cc nL Ts own ret) (hM : gM l y words rm D tys As ws post mc ms) (cw : vx_CSW R s args own index y bytes maxL rt hh words rm mc ms na) (hn : As.length = na) (hst : st = As.reverse ++ rest) (hcat : (rest.map fun v => v.category).sum ≤ 8) (hdg : decode cc pc = .ok (.invokestatic index, 3)) (hk : k + mc ≤ R.cells) (hs : n + ms ≤ R.slots)
    (kk : ∀ (v : Option Value) (w : va_W), post v w → G p l e R s m args below meth c D A H0 nL (k + mc) (n + ms) Q (pc + 3) lv (v.toList ++ rest) w) : G p l e R s m args below meth c D A H0 nL k n Q pc lv st ws := fun H locs ls hP hD hS hl =>
  g_after C (vx_runSW C.fix (hM H.size) cw ⟨gP_blind, fun U hU hW => C.pre hP hD hS hU hW⟩ rfl hn hl.1 hst (lv_room hcat) hdg ⟨hk, hs⟩) hS hl (C.in hD hS) (C.in hD hS) kk
/-- the script -/
theorem g_sld (C : gC p s m args meth c D A s.heap tys cc nL Ts own ret) {b L : Nat} {xs : Nat → Int32} (hX : va_X b L xs s s.heap) (hbl : b < s.heap.size) (hbA : ¬ A b) {i : Int32} (hin : vp_in i L) (hdg : decode cc pc = .ok (.iaload, 1)) (kk : G p l e R s m args below meth c D A s.heap nL k n Q (pc + 1) lv (.int (xs i.toNatClampNeg) :: rest) ws) : G p l e R s m args below meth c D A s.heap nL k n Q pc lv (.int i :: .ref b :: rest) ws := fun H locs ls hP hD hS hl => va_sld C.x C.b hX hbl hbA hS hin hdg (kk H locs ls hP hD hS hl)
theorem g_slen (C : gC p s m args meth c D A s.heap tys cc nL Ts own ret) {b L : Nat} {xs : Nat → Int32} (hX : va_X b L xs s s.heap) (hbl : b < s.heap.size) (hbA : ¬ A b) (hdg : decode cc pc = .ok (.arraylength, 1)) (kk : G p l e R s m args below meth c D A s.heap nL k n Q (pc + 1) lv (.int (Int32.ofNat L) :: rest) ws) : G p l e R s m args below meth c D A s.heap nL k n Q pc lv (.ref b :: rest) ws := fun H locs ls hP hD hS hl => va_slen C.x C.b hX hbl hbA hS hdg (kk H locs ls hP hD hS hl)
end GW
