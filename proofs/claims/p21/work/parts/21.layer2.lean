/-! more rows of the layer: arrays of arrays, shifts, constants, a world made smaller, methods that read the script -/
def rwl (cy : ClassId) (K9 : Nat) (r : Nat → Nat) (F : Nat → Nat → Int32) (n : Nat) : va_W := (List.range n).map (fun i => (r i, .inl (cy, K9, .inl (F i))))
theorem rwl_len (cy : ClassId) (K9 : Nat) (r : Nat → Nat) (F : Nat → Nat → Int32) (n : Nat) : (rwl cy K9 r F n).length = n := by simp [rwl]
theorem rwl_get {cy : ClassId} {K9 : Nat} {r : Nat → Nat} {F : Nat → Nat → Int32} {n i : Nat} (h : i < n) : (rwl cy K9 r F n)[i]? = some (r i, .inl (cy, K9, .inl (F i))) := by
  rw [rwl, List.getElem?_map, List.getElem?_range h]; rfl
def updF (F : Nat → Nat → Int32) (i : Nat) (g : Nat → Int32) : Nat → Nat → Int32 := fun j => if j = i then g else F j
theorem updF_s {F : Nat → Nat → Int32} {i : Nat} {g : Nat → Int32} : updF F i g i = g := if_pos rfl
theorem updF_n {F : Nat → Nat → Int32} {i j : Nat} {g : Nat → Int32} (h : j ≠ i) : updF F i g j = F j := if_neg h
theorem rwl_set {cy : ClassId} {K9 : Nat} {r : Nat → Nat} {F : Nat → Nat → Int32} {n i : Nat} {g : Nat → Int32} : (rwl cy K9 r F n).set i (r i, .inl (cy, K9, .inl g)) = rwl cy K9 r (updF F i g) n := by
  apply List.ext_getElem?
  intro j
  by_cases hj : j < n
  · rw [rwl_get hj]
    by_cases e : i = j
    · subst e
      rw [List.getElem?_set_self (by rw [rwl_len]; exact hj), updF_s]
    · rw [List.getElem?_set_ne e, rwl_get hj, updF_n (Ne.symm e)]
  · rw [List.getElem?_eq_none (by rw [List.length_set, rwl_len]; omega), List.getElem?_eq_none (by rw [rwl_len]; omega)]
theorem rwl_of {cy : ClassId} {K9 : Nat} {r : Nat → Nat} {f : Nat → va_E} {n : Nat} {g : Nat → Int32} : va_pl ([] ++ (List.range n).map r) (vr_up f ((List.range n).map r) (.inl (cy, (K9, .inl g)))) = rwl cy K9 r (fun _ => g) n := by
  unfold va_pl rwl
  rw [List.nil_append, List.map_map]
  apply List.map_congr_left
  intro i hi
  show (r i, vr_up f ((List.range n).map r) (.inl (cy, (K9, .inl g))) (r i)) = _
  rw [vr_up_in (List.mem_map.mpr ⟨i, hi, rfl⟩)]
section GN
variable {p : Program} {l : Launch} {e : Env} {R : Room} {s : State} {m : MethodId} {args : Array Value} {below : List Frame} {meth : Method} {c : Code} {Q : State → Prop} {D : va_G} {A : Nat → Prop} {H0 : Heap} {tys : List (ClassId × FieldType)} {cc : ByteArray} {nL k n : Nat} {Ts : List Cond} {own : String} {ret : Option FieldType} {pc : Nat} {lv lv' : List (Nat × Value)} {rest : List Value} {ws ws' : va_W}
theorem g_ldc (C : gC p s m args meth c D A H0 tys cc nL Ts own ret) {index : Nat} {v : Int32} (hk9 : Cond.constant own index v ∈ Ts) (hdg : decode cc pc = .ok (.ldc index, 2)) (kk : G p l e R s m args below meth c D A H0 nL k n Q (pc + 2) lv (.int v :: rest) ws) : G p l e R s m args below meth c D A H0 nL k n Q pc lv rest ws := fun H locs ls hP hD hS hl => lv_ldc C.x C.b C.ow (C.w _ hk9) hdg (kk H locs ls hP hD hS hl)
theorem g_ishr (C : gC p s m args meth c D A H0 tys cc nL Ts own ret) {x y : Int32} (hdg : decode cc pc = .ok (.ishr, 1)) (kk : G p l e R s m args below meth c D A H0 nL k n Q (pc + 1) lv (.int (x >>> (y &&& 31)) :: rest) ws) : G p l e R s m args below meth c D A H0 nL k n Q pc lv (.int y :: .int x :: rest) ws := fun H locs ls hP hD hS hl => lv_ishr C.x C.b hdg (kk H locs ls hP hD hS hl)
/-- a row of an array of rows -/
theorem g_aaldA (C : gC p s m args meth c D A H0 tys cc nL Ts own ret) {cA : ClassId} {N a : Nat} {ty : FieldType} {f : Nat → Option Nat} {i : Int32} (t0 : Nat) (ha : (a, .inl (cA, N, .inr (.inr (.inr (.inr f))))) ∈ ws) (ht : tys[t0]? = some (cA, .array ty)) (hin : vp_in i N) (hdg : decode cc pc = .ok (.aaload, 1)) (kk : G p l e R s m args below meth c D A H0 nL k n Q (pc + 1) lv (va_rf (f i.toNatClampNeg) :: rest) ws) : G p l e R s m args below meth c D A H0 nL k n Q pc lv (.int i :: .ref a :: rest) ws := fun H locs ls hP hD hS hl => (List.getElem?_of_mem ha).elim fun q0 ha => by
  have hlt : i.toNatClampNeg < N := Nat.not_le.mp fun q => hin (Or.inr q)
  exact W.aald (v := va_rf (f i.toNatClampNeg)) (ty := .array ty) C.x C.b (hP q0 _ ha) ((C.K.2 t0 _ ht).1 N (fun j => va_rf (f j))) rfl (fun q => by cases q) (by show ¬ (i < 0 ∨ (arrV _ _ _).slots.size ≤ _); rw [arrV_size]; exact hin) (by show (arrV _ _ _).slots[_]? = _; rw [arrV_read _ _ hlt]) rfl rfl hdg (kk H locs ls hP hD hS hl)
theorem g_zald (C : gC p s m args meth c D A H0 tys cc nL Ts own ret) {cA : ClassId} {N a : Nat} {f : Nat → Int32} {i : Int32} (t0 : Nat) (ha : (a, .inl (cA, N, .inl f)) ∈ ws) (ht : tys[t0]? = some (cA, .boolean)) (hin : vp_in i N) (hdg : decode cc pc = .ok (.baload, 1)) (kk : G p l e R s m args below meth c D A H0 nL k n Q (pc + 1) lv (.int (f i.toNatClampNeg) :: rest) ws) : G p l e R s m args below meth c D A H0 nL k n Q pc lv (.int i :: .ref a :: rest) ws := fun H locs ls hP hD hS hl => (List.getElem?_of_mem ha).elim fun q0 ha => va_zald C.x C.b C.K hP q0 t0 ha ht hin hdg (kk H locs ls hP hD hS hl)
theorem g_zast (C : gC p s m args meth c D A H0 tys cc nL Ts own ret) {cA : ClassId} {N a : Nat} {f : Nat → Int32} {i x : Int32} (q0 t0 : Nat) (ha : ws[q0]? = some (a, .inl (cA, N, .inl f))) (ht : tys[t0]? = some (cA, .boolean)) (hin : vp_in i N) (hdg : decode cc pc = .ok (.bastore, 1)) (hw : ws.set q0 (a, .inl (cA, N, .inl (upd f i.toNatClampNeg (vp_nar .boolean x)))) = ws') (kk : G p l e R s m args below meth c D A H0 nL k n Q (pc + 1) lv rest ws') : G p l e R s m args below meth c D A H0 nL k n Q pc lv (.int x :: .int i :: .ref a :: rest) ws := fun H locs ls hP hD hS hl => va_zast C.x C.b C.K hP hD hS q0 t0 ha ht hin hdg (fun H1 locs1 hP1 hD1 hS1 => by rw [hw] at hP1 hD1; exact kk H1 locs1 ls hP1 hD1 hS1 hl)
/-- fewer cells -/
theorem g_less {st : List Value} (hp : ws'.Sublist ws) (kk : G p l e R s m args below meth c D A H0 nL k n Q pc lv st ws') : G p l e R s m args below meth c D A H0 nL k n Q pc lv st ws := by
  intro H locs ls hP hD hS hl
  refine kk H locs ls (fun i q hq => ?_) ⟨fun i j x y hx hy e => ?_, fun i q hq => ?_⟩ hS hl
  · obtain ⟨j, hj⟩ := List.getElem?_of_mem (hp.subset (List.mem_of_getElem? hq))
    exact hP j q hj
  · have hn : (ws.map Prod.fst).Nodup := by
      rw [List.nodup_iff_pairwise_ne, List.pairwise_iff_getElem]
      intro i j hi hj hij he
      rw [List.length_map] at hi hj
      rw [List.getElem_map, List.getElem_map] at he
      have := hD.1 i j _ _ (List.getElem?_eq_getElem hi) (List.getElem?_eq_getElem hj) he
      omega
    have hn2 : (ws'.map Prod.fst).Nodup := List.Nodup.sublist (hp.map Prod.fst) hn
    obtain ⟨hi, hx2⟩ := List.getElem?_eq_some_iff.mp hx
    obtain ⟨hj, hy2⟩ := List.getElem?_eq_some_iff.mp hy
    have h1 : (ws'.map Prod.fst)[i]'(by rw [List.length_map]; exact hi) = (ws'.map Prod.fst)[j]'(by rw [List.length_map]; exact hj) := by
      rw [List.getElem_map, List.getElem_map, hx2, hy2]; exact e
    have hp2 := List.pairwise_iff_getElem.mp hn2
    rcases Nat.lt_trichotomy i j with h | h | h
    · exact absurd h1 (hp2 i j _ _ h)
    · exact h
    · exact absurd h1.symm (hp2 j i _ _ h)
  · obtain ⟨j, hj⟩ := List.getElem?_of_mem (hp.subset (List.mem_of_getElem? hq))
    exact hD.2 j q hj
theorem tl_less {a b c d e f g h : Nat × va_E} {pl Y : va_W} : List.Sublist (a :: b :: c :: d :: e :: f :: g :: h :: (pl ++ [])) (a :: b :: c :: d :: e :: f :: g :: h :: (pl ++ Y)) := by
  have h0 : List.Sublist (pl ++ []) (pl ++ Y) := List.Sublist.append_left (List.nil_sublist Y) pl
  exact (((((((h0.cons_cons h).cons_cons g).cons_cons f).cons_cons e).cons_cons d).cons_cons c).cons_cons b).cons_cons a
/-- new T[n][m] -/
theorem g_mna (C : gC p s m args meth c D A H0 tys cc nL Ts own ret) {index : Nat} {ty : FieldType} {cA cy : ClassId} {N9 K9 : Nat} {x9 y9 : Int32} (tA : Nat) (htA : tys[tA]? = some (cA, .array ty)) (hcy : s.vm.findClass (FieldType.array ty).toString = some cy) (hover : va_AOA ty s) (hlink : Cond.classLink own index ("[" ++ (FieldType.array ty).toString) ∈ Ts) (harr : Cond.arrayClass ty ∈ Ts) (hn : ¬ x9 < 0) (hk : ¬ y9 < 0) (hN : x9.toNatClampNeg = N9) (hM : y9.toNatClampNeg = K9)
    (hb1 : N9 * 4 ≤ 536870912) (hb2 : K9 * componentBytes ty ≤ 536870912) (hb3 : K9 ≤ 536870912) (hdf : fits ty (defaultValue ty) = true) (hdd : (defaultValue ty).isDefault = true) (hcells : k + (1 + N9) ≤ R.cells) (hslots : n + (N9 + N9 * K9) ≤ R.slots) (hz : ∀ c : ClassId, Jvm.Free.Multi.innerC c K9 (defaultValue ty) = vp_cell c (K9, .inl (fun _ => 0))) (hdg : decode cc pc = .ok (.multianewarray index 2, 4))
    (kk : ∀ (q : Nat) (r : Nat → Nat), G p l e R s m args below meth c D A H0 nL (k + 1 + N9) (n + N9 + N9 * K9) Q (pc + 4) lv (.ref q :: rest) (ws ++ ((q, .inl (cA, N9, .inr (.inr (.inr (.inr (fun i => if i < N9 then some (r i) else none)))))) :: rwl cy K9 r (fun _ _ => 0) N9))) : G p l e R s m args below meth c D A H0 nL k n Q pc lv (.int y9 :: .int x9 :: rest) ws := by
  intro H locs ls hP hD hS hl
  refine va_mna (X := ws) (L := []) (f := fun _ => .inr (0, [])) (z := (K9, .inl (fun _ => 0))) C.x C.b C.ow (C.w _ hlink) hover (C.w _ harr) hcy C.K (by simpa [va_pl] using hP) (by simpa [va_pl] using hD) hS C.fr hn hk hN hM hb1 hb2 hb3 hdf hdd hcells hslots hz hdg (fun q r cA2 H1 _ _ hK1 hP1 hD1 hS1 => ?_)
  have e1 : s.vm.findClass ("[" ++ (FieldType.array ty).toString) = some cA2 := (hK1.2 tys.length (cA2, .array ty) (by rw [List.getElem?_append_right (Nat.le_refl _), Nat.sub_self]; rfl)).2
  have e2 : s.vm.findClass ("[" ++ (FieldType.array ty).toString) = some cA := (C.K.2 tA _ htA).2
  have e3 : cA2 = cA := Option.some.inj (e1.symm.trans e2)
  subst e3
  rw [rwl_of, List.append_assoc] at hP1 hD1
  exact kk q r H1 locs ls hP1 hD1 hS1 hl
end GN
/-! a method that reads the script -/
def gPs (D : va_G) (tys : List (ClassId × FieldType)) (As : List Value) (W0 : va_W) (b L : Nat) (xs : Nat → Int32) (sz : Nat) : Array Value → State → Prop := va_Pc As (fun U => U.heap.size = sz ∧ va_P D vwCl W0 U.heap ∧ va_K D vwCl tys U ∧ va_D (fun _ => True) W0 ∧ gE (va_A W0 sz) U U.heap ∧ (va_X b L xs U U.heap ∧ b < sz ∧ ¬ va_A W0 sz b))
def gMs (l : Launch) (y : MethodName) (words : List Cond) (rm : Room) (D : va_G) (tys : List (ClassId × FieldType)) (As : List Value) (W0 : va_W) (b L : Nat) (xs : Nat → Int32) (post : Option Value → va_W → Prop) (mc ms : Nat) : Prop := ∀ sz, Met l y words rm (gPs D tys As W0 b L xs sz) (gQ post D (va_A W0 sz)) mc ms (va_A W0 sz)
theorem gPs_blind {D : va_G} {tys : List (ClassId × FieldType)} {As : List Value} {W0 : va_W} {b L : Nat} {xs : Nat → Int32} {sz : Nat} : FrameBlind (gPs D tys As W0 b L xs sz) := by
  intro a U g mk h
  obtain ⟨h1, h2, h3, h4, h5, h6, h7, h8, h9⟩ := h
  exact ⟨h1, h2, h3, va_K.moved (u := U) (U := U.calling g mk a) (Vm.Alike.refl U.vm) h4, h5, h6.vm rfl, va_X.moved (u := U) (U := U.calling g mk a) (Vm.Alike.refl U.vm) h7, h8, h9⟩
theorem gMs_of {l : Launch} {y : MethodName} {words words' : List Cond} {rm : Room} {D : va_G} {tys : List (ClassId × FieldType)} {As : List Value} {W0 : va_W} {b L : Nat} {xs : Nat → Int32} {post : Option Value → va_W → Prop} {mc ms : Nat} {cc : ByteArray} {maxL : Nat} {ret : Option FieldType}
    (hy : plainName y.cls = true) (hw : words = Cond.code y cc maxL ret :: words') (hlen : (lg_sl As).length ≤ maxL)
    (body : ∀ (p : Program) (e : Env) (s : State) (m : MethodId) (args : Array Value) (below : List Frame) (meth : Method) (c : Code) (A : Nat → Prop) (Q : State → Prop), meth.name = y.name → gC p s m args meth c D A s.heap tys cc maxL words y.cls ret → va_X b L xs s s.heap → b < s.heap.size → ¬ A b → (∀ t, MQ below (gQ post D A) args s mc ms A t → Q t) →
      G p l e rm s m args below meth c D A s.heap maxL 0 0 Q 0 (lv_args 0 As) [] W0) : gMs l y words rm D tys As W0 b L xs post mc ms := by
  intro sz
  refine Met.ofW hy hw ?_
  intro p e s m args below meth c s₁ B hml hv
  obtain ⟨rfl, hsz, hP, hK, hD0, hE, hX, hbs, hbA⟩ := hv
  subst hsz
  have hl := lv_entry As (n := maxL) hlen
  rw [lg_entry_eq]
  exact body p e s m _ below meth c (va_A W0 s.heap.size) _ (name_of_methodNamed B.named B.method).1 ⟨B.exec, B.bytes, hml, findClass_of_methodNamed B.named, atoms_spec (ws := words) B.pre, hK, fun q h => Or.inr h, B.returns, B.notSynchronized, hE, rfl⟩ hX hbs hbA (fun t h => h) s.heap [] _ hP hD0.self va_S.rf hl
section GS
variable {p : Program} {l : Launch} {e : Env} {R : Room} {s : State} {m : MethodId} {args : Array Value} {below : List Frame} {meth : Method} {c : Code} {Q : State → Prop} {D : va_G} {A : Nat → Prop} {tys : List (ClassId × FieldType)} {cc : ByteArray} {nL k n mc ms : Nat} {Ts : List Cond} {own : String} {ret : Option FieldType} {pc : Nat} {lv lv' : List (Nat × Value)} {rest : List Value} {ws ws' : va_W} {post : Option Value → va_W → Prop}
theorem g_callSs {y : MethodName} {bytes : ByteArray} {maxL index na : Nat} {rt : Option FieldType} {words : List Cond} {rm : Room} {As : List Value} {st : List Value} {b L : Nat} {xs : Nat → Int32} (C : gC p s m args meth c D A s.heap tys cc nL Ts own ret) (hX : va_X b L xs s s.heap) (hbl : b < s.heap.size) (hbA : ¬ A b) (hM : gMs l y words rm D tys As ws b L xs post mc ms) (cw : CallB R s args own index y bytes maxL rt words rm mc ms na ∧ (Cond.static y).before args s = true) (hn : As.length = na) (hst : st = As.reverse ++ rest) (hcat : (rest.map fun v => v.category).sum ≤ 8) (hdg : decode cc pc = .ok (.invokestatic index, 3)) (hk : k + mc ≤ R.cells) (hs : n + ms ≤ R.slots)
    (kk : ∀ (v : Option Value) (w : va_W), post v w → G p l e R s m args below meth c D A s.heap nL (k + mc) (n + ms) Q (pc + 3) lv (v.toList ++ rest) w) : G p l e R s m args below meth c D A s.heap nL k n Q pc lv st ws := fun H locs ls hP hD hS hl =>
  g_after C (va_runS C.fix (hM H.size) cw ⟨gPs_blind, fun U hU hW => by
    obtain ⟨p1, p2, p3, p4, p5, p6⟩ := C.pre hP hD hS hU hW
    exact ⟨p1, p2, p3, p4, p5, p6, (hX.moved hW.alike).kept (by rw [hU]; exact hS.2.1 b hbl hbA), Nat.lt_of_lt_of_le hbl hS.1, fun h => hbA (C.in hD hS b h)⟩⟩ rfl hn hl.1 hst (lv_room hcat) hdg ⟨hk, hs⟩) hS hl (C.in hD hS) (C.in hD hS) kk
end GS
