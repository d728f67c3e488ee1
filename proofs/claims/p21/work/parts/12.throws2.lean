def tIO : String := "java/lang/IndexOutOfBoundsException"
def tIA : String := "java/lang/IllegalArgumentException"
def tIS : String := "java/lang/IllegalStateException"
abbrev tNs : List String := ["java/lang/RuntimeException", "java/lang/Exception"]
abbrev aIA : List Cond := vx_atS RX1 46 "java/lang/IllegalArgumentException" ["java/lang/RuntimeException", "java/lang/Exception"]
abbrev aIO : List Cond := vx_atS RX1 65 "java/lang/IndexOutOfBoundsException" ["java/lang/RuntimeException", "java/lang/Exception"]
abbrev aIS : List Cond := vx_atS RX1 86 "java/lang/IllegalStateException" ["java/lang/RuntimeException", "java/lang/Exception"]
theorem bad_IA : ∀ w ∈ aIA.filter (fun w => !goodWord w), w ∈ gN2 := fun w h => List.mem_append_left _ (List.mem_append_left _ h)
theorem bad_IO : ∀ w ∈ aIO.filter (fun w => !goodWord w), w ∈ gN2 := fun w h => List.mem_append_left _ (List.mem_append_right _ h)
theorem bad_IS : ∀ w ∈ aIS.filter (fun w => !goodWord w), w ∈ gN2 := fun w h => List.mem_append_right _ h
theorem ot_IA : ∀ w ∈ Cond.classLink RX1 42 tIA :: Cond.initialized tIA :: aIA, vx_ot w = true := by decide +kernel
theorem ot_IO : ∀ w ∈ Cond.classLink RX1 61 tIO :: Cond.initialized tIO :: aIO, vx_ot w = true := by decide +kernel
theorem ot_IS : ∀ w ∈ Cond.classLink RX1 82 tIS :: Cond.initialized tIS :: aIS, vx_ot w = true := by decide +kernel
section GX
variable {p : Program} {l : Launch} {e : Env} {R : Room} {s : State} {m : MethodId} {args : Array Value} {below : List Frame} {meth : Method} {c : Code} {Q : State → Prop} {D : va_G} {A : Nat → Prop} {H0 : Heap} {tys : List (ClassId × FieldType)} {cc : ByteArray} {nL k n mc ms : Nat} {Ts : List Cond} {own : String} {ret : Option FieldType} {pc : Nat} {lv lv' : List (Nat × Value)} {rest : List Value} {ws ws' W0 : va_W} {post : Option Value → va_W → Prop} {px : String → Prop}
theorem W_mono {Q1 : State → Prop} {H : Heap} {locs : List Loc} {g : JFrame} (h : ∀ t, Q1 t → Q t) (kk : W p l e R s m args below meth c H locs k n Q1 g) : W p l e R s m args below meth c H locs k n Q g := by
  intro T hT X
  obtain ⟨t, a, b⟩ := kk T hT X
  exact ⟨t, a, h t b⟩
/-- 'throw new E("..")', with nothing changed before -/
theorem g_throwS (C : gC p s m args meth c D A s.heap tys cc nL Ts own ret) (hQX : ∀ t, vx_MQ below (gQ post D A) (gX px D A W0) args s mc ms A t → Q t) (hT : ∀ x ∈ c.exceptionTable.toList, False) (hl9 : l.stackTraces = false) {cls text : String} {names : List String} {ik is ic : Nat} (hcls : Bundle.fit cls = true) (hnames : ∀ n ∈ names, Bundle.fit n = true)
    (hk9 : Cond.classLink own ik cls ∈ Ts) (hini : Cond.initialized cls ∈ Ts) (hstr : (own, is, text) ∈ gStr) (hbad : ∀ w ∈ (vx_atS own ic cls names).filter (fun w => !goodWord w), w ∈ gN2) (hat : ∀ w ∈ (vx_atS own ic cls names).filter goodWord, w ∈ Ts)
    (hgood : ∀ w ∈ Cond.classLink own ik cls :: Cond.initialized cls :: vx_atS own ic cls names, vx_ot w = true)
    (d0 : decode cc pc = .ok (.new ik, 3)) (d3 : decode cc (pc + 3) = .ok (.dup, 1)) (d4 : decode cc (pc + 4) = .ok (.ldc is, 2)) (d6 : decode cc (pc + 6) = .ok (.invokespecial ic, 3)) (d9 : decode cc (pc + 9) = .ok (.athrow, 1))
    (hRf : names.length + 3 < R.frames) (hRl : (rest.map fun v => v.category).sum + (13 * (names.length + 1) + 43) ≤ R.locals) (hRc : k + 1 ≤ R.cells) (hRs : n + 6 ≤ R.slots) (hkc : k + 1 ≤ mc) (hks : n + 6 ≤ ms) (hpx : px cls) :
    G p l e R s m args below meth c D A s.heap nL k n Q pc lv rest W0 := by
  intro H locs ls hP hD hS hl
  refine W_mono hQX ?_
  obtain ⟨sa, hsa⟩ := C.E.2.2.2.1 _ hstr
  refine vx_throwS (names := names) C.x C.b hl9 C.ow hcls hnames (C.w _ hk9) (C.w _ hini) hsa (vx_hat (B := gN2) (fun w hw => C.w w (hat w hw)) hbad (fun w hw => va_Nw.use (gDC_tab (gN2_ok w hw)) (C.E.2.2.2.2.1 w hw))) hgood C.E.1 C.E.2.1 hS (hl.1.trans C.ml.symm) d0 d3 d4 d6 d9 (fun x hx => (hT x hx).elim) hRf hRl hRc hRs C.lk (fun t ht hz hk2 => ⟨hpx, ⟨hP.kept (fun i x hx => hk2 x.1 (hP i x hx).lt), hD⟩, ?_⟩) hS.2.2 hkc hks
  exact ⟨Nat.le_trans hS.1 hz, fun q h1 h2 => (hk2 q (Nat.lt_of_lt_of_le h1 hS.1)).trans (hS.2.1 q h1 h2)⟩
/-- a static call of a method that may throw: what it throws goes on -/
theorem g_callSx {y : MethodName} {bytes : ByteArray} {maxL index na mc1 ms1 : Nat} {rt : Option FieldType} {words : List Cond} {rm : Room} {As : List Value} {st : List Value} {post1 : Option Value → va_W → Prop} {px1 : String → Prop}
    (C : gC p s m args meth c D A s.heap tys cc nL Ts own ret) (hQX : ∀ t, vx_MQ below (gQ post D A) (gX px D A W0) args s mc ms A t → Q t) (hT : ∀ x ∈ c.exceptionTable.toList, False) (hM : gMx l y words rm D tys As W0 post1 px1 mc1 ms1) (cw : CallB R s args own index y bytes maxL rt words rm mc1 ms1 na ∧ (Cond.static y).before args s = true) (hn : As.length = na) (hst : st = As.reverse ++ rest) (hcat : (rest.map fun v => v.category).sum ≤ 8) (hdg : decode cc pc = .ok (.invokestatic index, 3)) (hk : k + mc1 ≤ R.cells) (hs : n + ms1 ≤ R.slots) (hk2 : k + mc1 ≤ mc) (hs2 : n + ms1 ≤ ms) (hpx : ∀ E, px1 E → px E)
    (kk : ∀ (v : Option Value) (w : va_W), post1 v w → G p l e R s m args below meth c D A s.heap nL (k + mc1) (n + ms1) Q (pc + 3) lv (v.toList ++ rest) w) :
    G p l e R s m args below meth c D A s.heap nL k n Q pc lv st W0 := by
  intro H locs ls hP hD hS hl T hT9 X
  have hin := C.in hD hS
  rcases vx_runS C.fix (hM H.size) cw ⟨gP_blind, fun U hU hW => C.pre hP hD hS hU hW⟩ rfl hn hl.1 hst (lv_room (pc := pc) (m := m) (ls := ls) (rest := st) hcat) hdg ⟨hk, hs⟩ T hT9 X with ⟨v, st₀, t, T', L, h0, X', hL, e1, e2, ⟨⟨r, w, hv, hp, hPw, hDw⟩, hF⟩, st9⟩ | ⟨q, st₀, t, T', L, E, ce, h0, X', hL, e1, e2, ⟨hp, ⟨hPw, hDw⟩, hF⟩, hce, hcv, hcl, st9⟩
  · cases hv
    obtain ⟨k1, k2, k3⟩ := vx_keep h0 e1 hS (fun q _ h => hin q h) hin hL hF
    obtain ⟨t2, a1, b1⟩ := kk _ w hp T'.heap (locs ++ L) ls (by rw [e1]; exact hPw) (hDw.weaken (fun _ q _ h => hin _ h)) k3 hl T' rfl X'
    exact ⟨t2, st9 t2 a1, b1⟩
  · obtain ⟨k1, k2, k3⟩ := vx_keep h0 e1 hS (fun q _ h => hin q h) hin hL hF
    obtain ⟨t2, a1, b1⟩ := vx_out (Qc := gQ post D A) (XC := gX px D A W0) (rest := rest) (pc := pc) (ls := ls) (free := A) (mc := mc) (ms := ms) (fun x hx => (hT x hx).elim) C.lk (H := T'.heap) (by rw [e1]; exact hce) hcv hcl (fun t3 ht3 hal => ⟨hpx E hp, ⟨by rw [ht3, e1]; exact hPw, hDw.weaken (fun _ q _ h => hin _ h)⟩, k3.F ht3⟩) k3.2.2 hk2 hs2 T' rfl X'
    exact ⟨t2, st9.trans a1, hQX t2 b1⟩
end GX
theorem gMx_of2 {l : Launch} {y : MethodName} {words words' : List Cond} {rm : Room} {D : va_G} {tys : List (ClassId × FieldType)} {As : List Value} {W0 : va_W} {post : Option Value → va_W → Prop} {px : String → Prop} {mc ms : Nat} {cc : ByteArray} {maxL : Nat} {ret : Option FieldType}
    (hy : plainName y.cls = true) (hw : words = Cond.code y cc maxL ret :: words') (hlen : (lg_sl As).length ≤ maxL)
    (body : ∀ (p : Program) (e : Env) (s : State) (m : MethodId) (args : Array Value) (below : List Frame) (meth : Method) (c : Code) (A : Nat → Prop) (Q : State → Prop), gC p s m args meth c D A s.heap tys cc maxL words y.cls ret → (∀ x ∈ c.exceptionTable.toList, False) → (∀ t, MQ below (gQ post D A) args s mc ms A t → Q t) → (∀ t, vx_MQ below (gQ post D A) (gX px D A W0) args s mc ms A t → Q t) →
      G p l e rm s m args below meth c D A s.heap maxL 0 0 Q 0 (lv_args 0 As) [] W0) : gMx l y words rm D tys As W0 post px mc ms :=
  gMx_of hy hw hlen (fun p e s m args below meth c A C hT hQ => body p e s m args below meth c A _ C hT hQ (fun t h => h))
