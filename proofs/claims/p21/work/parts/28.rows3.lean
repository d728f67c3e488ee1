/-! matrices beside the mosaic; numbers out of a branch -/
abbrev Mt (cA cE : ClassId) (q : Nat) (r : Nat → Nat) (F : Nat → Nat → Int32) : va_W := (q, .inl (cA, 10, .inr (.inr (.inr (.inr (fun i => if i < 10 then some (r i) else none)))))) :: rwl cE 8 r F 10
section MT
variable {cI cP cA cE : ClassId} {h np hr q : Nat} {ad r : Nat → Nat} {wet cover sun fs mk fd : Nat → Int32} {pcs : Nat → Option Nat} {pa : Nat → Nat} {P : Nat → Pd} {Y Z : va_W} {F : Nat → Nat → Int32}
theorem Wm_app : Wm cI cP h ad np hr wet cover sun fs mk fd pcs pa P Y ++ Z = Wm cI cP h ad np hr wet cover sun fs mk fd pcs pa P (Y ++ Z) := by
  simp only [Wm, List.cons_append, List.append_assoc]
theorem Wm_out : (Wm cI cP h ad np hr wet cover sun fs mk fd pcs pa P (Mt cA cE q r F))[np + 8]? = some (q, .inl (cA, 10, .inr (.inr (.inr (.inr (fun i => if i < 10 then some (r i) else none)))))) := og
theorem Wm_row {x : Nat} (hx : x < 10) : (Wm cI cP h ad np hr wet cover sun fs mk fd pcs pa P (Mt cA cE q r F))[np + x + 9]? = some (r x, .inl (cE, 8, .inl (F x))) := by
  show (plist pa P np ++ Mt cA cE q r F)[np + x + 1]? = _
  rw [List.getElem?_append_right (by rw [plist_len]; omega), plist_len, show np + x + 1 - np = x + 1 by omega]
  exact rwl_get hx
theorem Wm_rset {x : Nat} {g : Nat → Int32} : (Wm cI cP h ad np hr wet cover sun fs mk fd pcs pa P (Mt cA cE q r F)).set (np + x + 9) (r x, .inl (cE, 8, .inl g)) = Wm cI cP h ad np hr wet cover sun fs mk fd pcs pa P (Mt cA cE q r (updF F x g)) := by
  have e : (plist pa P np ++ Mt cA cE q r F).set (np + x + 1) (r x, .inl (cE, 8, .inl g)) = plist pa P np ++ Mt cA cE q r (updF F x g) := by
    rw [List.set_append_right _ _ (by rw [plist_len]; omega), plist_len, show np + x + 1 - np = x + 1 by omega]
    show plist pa P np ++ ((q, _) :: (rwl cE 8 r F 10).set x (r x, .inl (cE, 8, .inl g))) = _
    rw [rwl_set]
  show _ :: _ :: _ :: _ :: _ :: _ :: _ :: _ :: ((plist pa P np ++ Mt cA cE q r F).set (np + x + 1) (r x, .inl (cE, 8, .inl g))) = _
  rw [e]
end MT
theorem nar1 : vp_nar .boolean 1 = 1 := by decide
theorem inz8 (c : ClassId) (v : Value) (h : v = .int 0) : Jvm.Free.Multi.innerC c 8 v = vp_cell c (8, .inl (fun _ => 0)) := by
  subst h
  show ({ cls := c, slots := Array.replicate 8 (.int 0), vm := .none } : Cell) = _
  rw [arrV_new]
  rfl
theorem k_law_m0 : Cond.classLink RL 63 ("[" ++ (FieldType.array .int).toString) ∈ wsL_law := by decide +kernel
theorem k_law_m1 : Cond.arrayClass .int ∈ wsL_law := by decide +kernel
theorem k_law_m2 : Cond.classLink RL 84 ("[" ++ (FieldType.array .boolean).toString) ∈ wsL_law := by decide +kernel
theorem k_law_m3 : Cond.arrayClass .boolean ∈ wsL_law := by decide +kernel
theorem q_mnaI {p : Program} {l : Launch} {e : Env} {s : State} {m : MethodId} {args : Array Value} {below : List Frame} {meth : Method} {c : Code} {Q : State → Prop} {D : va_G} {A : Nat → Prop} {tys : List (ClassId × FieldType)} {rt : Option FieldType} {cI cP cZ cA cB : ClassId} {b L : Nat} {xs : Nat → Int32} {k n pc : Nat} {lv : List (Nat × Value)} {rest : List Value} {h np hr : Nat} {ad : Nat → Nat} {wet cover sun fs mk fd : Nat → Int32} {pcs : Nat → Option Nat} {pa : Nat → Nat} {P : Nat → Pd} (X : Cx p l s m args meth c D A tys rt cI cP cZ cA cB b L xs) (hdg : decode cL_law pc = .ok (.multianewarray 63 2, 4)) (hk : k + 11 ≤ 605351) (hn : n + 90 ≤ 7285716) (kk : ∀ (q : Nat) (r : Nat → Nat), G p l e room_1 s m args below meth c D A s.heap 21 (k + 11) (n + 90) Q (pc + 4) lv (.ref q :: rest) (Wm cI cP h ad np hr wet cover sun fs mk fd pcs pa P (Mt cA cI q r (fun _ _ => 0)))) : G p l e room_1 s m args below meth c D A s.heap 21 k n Q pc lv (.int 8 :: .int 10 :: rest) (Wm cI cP h ad np hr wet cover sun fs mk fd pcs pa P []) := by
  refine g_mna (ty := .int) (cy := cI) (cA := cA) (N9 := 10) (K9 := 8) X.C 3 X.t3 (X.C.K.2 0 _ X.t0).2 X.o1 k_law_m0 k_law_m1 (by decide) (by decide) (by decide) (by decide) (Nat.le_of_ble_eq_true rfl) (Nat.le_of_ble_eq_true rfl) (Nat.le_of_ble_eq_true rfl) rfl rfl (by exact hk) (by show n + (10 + 10 * 8) ≤ 7285716; omega) (fun c9 => inz8 c9 _ rfl) hdg (fun q r => ?_)
  rw [Wm_app]
  exact kk q r
theorem q_mnaZ {p : Program} {l : Launch} {e : Env} {s : State} {m : MethodId} {args : Array Value} {below : List Frame} {meth : Method} {c : Code} {Q : State → Prop} {D : va_G} {A : Nat → Prop} {tys : List (ClassId × FieldType)} {rt : Option FieldType} {cI cP cZ cA cB : ClassId} {b L : Nat} {xs : Nat → Int32} {k n pc : Nat} {lv : List (Nat × Value)} {rest : List Value} {h np hr : Nat} {ad : Nat → Nat} {wet cover sun fs mk fd : Nat → Int32} {pcs : Nat → Option Nat} {pa : Nat → Nat} {P : Nat → Pd} (X : Cx p l s m args meth c D A tys rt cI cP cZ cA cB b L xs) (hdg : decode cL_law pc = .ok (.multianewarray 84 2, 4)) (hk : k + 11 ≤ 605351) (hn : n + 90 ≤ 7285716) (kk : ∀ (q : Nat) (r : Nat → Nat), G p l e room_1 s m args below meth c D A s.heap 21 (k + 11) (n + 90) Q (pc + 4) lv (.ref q :: rest) (Wm cI cP h ad np hr wet cover sun fs mk fd pcs pa P (Mt cB cZ q r (fun _ _ => 0)))) : G p l e room_1 s m args below meth c D A s.heap 21 k n Q pc lv (.int 8 :: .int 10 :: rest) (Wm cI cP h ad np hr wet cover sun fs mk fd pcs pa P []) := by
  refine g_mna (ty := .boolean) (cy := cZ) (cA := cB) (N9 := 10) (K9 := 8) X.C 4 X.t4 (X.C.K.2 2 _ X.t2).2 X.o2 k_law_m2 k_law_m3 (by decide) (by decide) (by decide) (by decide) (Nat.le_of_ble_eq_true rfl) (Nat.le_of_ble_eq_true rfl) (Nat.le_of_ble_eq_true rfl) rfl rfl (by exact hk) (by show n + (10 + 10 * 8) ≤ 7285716; omega) (fun c9 => inz8 c9 _ rfl) hdg (fun q r => ?_)
  rw [Wm_app]
  exact kk q r
theorem q_rowI {p : Program} {l : Launch} {e : Env} {s : State} {m : MethodId} {args : Array Value} {below : List Frame} {meth : Method} {c : Code} {Q : State → Prop} {D : va_G} {A : Nat → Prop} {tys : List (ClassId × FieldType)} {rt : Option FieldType} {cI cP cZ cA cB : ClassId} {b L : Nat} {xs : Nat → Int32} {k n pc : Nat} {lv : List (Nat × Value)} {rest : List Value} {h np hr q : Nat} {ad r : Nat → Nat} {wet cover sun fs mk fd : Nat → Int32} {pcs : Nat → Option Nat} {pa : Nat → Nat} {P : Nat → Pd} {F : Nat → Nat → Int32} (X : Cx p l s m args meth c D A tys rt cI cP cZ cA cB b L xs) {x : Nat} (hx : x ≤ 9) (hdg : decode cL_law pc = .ok (.aaload, 1)) (kk : G p l e room_1 s m args below meth c D A s.heap 21 k n Q (pc + 1) lv (.ref (r x) :: rest) (Wm cI cP h ad np hr wet cover sun fs mk fd pcs pa P (Mt cA cI q r F))) : G p l e room_1 s m args below meth c D A s.heap 21 k n Q pc lv (.int (nI x) :: .ref q :: rest) (Wm cI cP h ad np hr wet cover sun fs mk fd pcs pa P (Mt cA cI q r F)) := by
  refine g_aaldA X.C 3 (List.mem_of_getElem? Wm_out) X.t3 (vp_in_nI (n := x) (by omega) (by omega)) hdg ?_
  rw [nI_clamp (by omega), if_pos (show x < 10 by omega)]
  exact kk
theorem q_rowZ {p : Program} {l : Launch} {e : Env} {s : State} {m : MethodId} {args : Array Value} {below : List Frame} {meth : Method} {c : Code} {Q : State → Prop} {D : va_G} {A : Nat → Prop} {tys : List (ClassId × FieldType)} {rt : Option FieldType} {cI cP cZ cA cB : ClassId} {b L : Nat} {xs : Nat → Int32} {k n pc : Nat} {lv : List (Nat × Value)} {rest : List Value} {h np hr q : Nat} {ad r : Nat → Nat} {wet cover sun fs mk fd : Nat → Int32} {pcs : Nat → Option Nat} {pa : Nat → Nat} {P : Nat → Pd} {F : Nat → Nat → Int32} (X : Cx p l s m args meth c D A tys rt cI cP cZ cA cB b L xs) {x : Nat} (hx : x ≤ 9) (hdg : decode cL_law pc = .ok (.aaload, 1)) (kk : G p l e room_1 s m args below meth c D A s.heap 21 k n Q (pc + 1) lv (.ref (r x) :: rest) (Wm cI cP h ad np hr wet cover sun fs mk fd pcs pa P (Mt cB cZ q r F))) : G p l e room_1 s m args below meth c D A s.heap 21 k n Q pc lv (.int (nI x) :: .ref q :: rest) (Wm cI cP h ad np hr wet cover sun fs mk fd pcs pa P (Mt cB cZ q r F)) := by
  refine g_aaldA X.C 4 (List.mem_of_getElem? Wm_out) X.t4 (vp_in_nI (n := x) (by omega) (by omega)) hdg ?_
  rw [nI_clamp (by omega), if_pos (show x < 10 by omega)]
  exact kk
theorem q_iald {p : Program} {l : Launch} {e : Env} {s : State} {m : MethodId} {args : Array Value} {below : List Frame} {meth : Method} {c : Code} {Q : State → Prop} {D : va_G} {A : Nat → Prop} {tys : List (ClassId × FieldType)} {rt : Option FieldType} {cI cP cZ cA cB : ClassId} {b L : Nat} {xs : Nat → Int32} {k n pc : Nat} {lv : List (Nat × Value)} {rest : List Value} {h np hr q : Nat} {ad r : Nat → Nat} {wet cover sun fs mk fd : Nat → Int32} {pcs : Nat → Option Nat} {pa : Nat → Nat} {P : Nat → Pd} {F : Nat → Nat → Int32} (X : Cx p l s m args meth c D A tys rt cI cP cZ cA cB b L xs) {x y : Nat} (hx : x ≤ 9) (hy : y ≤ 7) (hdg : decode cL_law pc = .ok (.iaload, 1)) (kk : G p l e room_1 s m args below meth c D A s.heap 21 k n Q (pc + 1) lv (.int (F x y) :: rest) (Wm cI cP h ad np hr wet cover sun fs mk fd pcs pa P (Mt cA cI q r F))) : G p l e room_1 s m args below meth c D A s.heap 21 k n Q pc lv (.int (nI y) :: .ref (r x) :: rest) (Wm cI cP h ad np hr wet cover sun fs mk fd pcs pa P (Mt cA cI q r F)) := by
  refine g_iald X.C 0 (List.mem_of_getElem? (Wm_row (show x < 10 by omega))) X.t0 (vp_in_nI (n := y) (by omega) (by omega)) hdg ?_
  rw [nI_clamp (by omega)]
  exact kk
theorem q_zald {p : Program} {l : Launch} {e : Env} {s : State} {m : MethodId} {args : Array Value} {below : List Frame} {meth : Method} {c : Code} {Q : State → Prop} {D : va_G} {A : Nat → Prop} {tys : List (ClassId × FieldType)} {rt : Option FieldType} {cI cP cZ cA cB : ClassId} {b L : Nat} {xs : Nat → Int32} {k n pc : Nat} {lv : List (Nat × Value)} {rest : List Value} {h np hr q : Nat} {ad r : Nat → Nat} {wet cover sun fs mk fd : Nat → Int32} {pcs : Nat → Option Nat} {pa : Nat → Nat} {P : Nat → Pd} {F : Nat → Nat → Int32} (X : Cx p l s m args meth c D A tys rt cI cP cZ cA cB b L xs) {x y : Nat} (hx : x ≤ 9) (hy : y ≤ 7) (hdg : decode cL_law pc = .ok (.baload, 1)) (kk : G p l e room_1 s m args below meth c D A s.heap 21 k n Q (pc + 1) lv (.int (F x y) :: rest) (Wm cI cP h ad np hr wet cover sun fs mk fd pcs pa P (Mt cB cZ q r F))) : G p l e room_1 s m args below meth c D A s.heap 21 k n Q pc lv (.int (nI y) :: .ref (r x) :: rest) (Wm cI cP h ad np hr wet cover sun fs mk fd pcs pa P (Mt cB cZ q r F)) := by
  refine g_zald X.C 2 (List.mem_of_getElem? (Wm_row (show x < 10 by omega))) X.t2 (vp_in_nI (n := y) (by omega) (by omega)) hdg ?_
  rw [nI_clamp (by omega)]
  exact kk
theorem q_iast {p : Program} {l : Launch} {e : Env} {s : State} {m : MethodId} {args : Array Value} {below : List Frame} {meth : Method} {c : Code} {Q : State → Prop} {D : va_G} {A : Nat → Prop} {tys : List (ClassId × FieldType)} {rt : Option FieldType} {cI cP cZ cA cB : ClassId} {b L : Nat} {xs : Nat → Int32} {k n pc : Nat} {lv : List (Nat × Value)} {rest : List Value} {h np hr q : Nat} {ad r : Nat → Nat} {wet cover sun fs mk fd : Nat → Int32} {pcs : Nat → Option Nat} {pa : Nat → Nat} {P : Nat → Pd} {F : Nat → Nat → Int32} (X : Cx p l s m args meth c D A tys rt cI cP cZ cA cB b L xs) {x y : Nat} {v : Int32} (hx : x ≤ 9) (hy : y ≤ 7) (hdg : decode cL_law pc = .ok (.iastore, 1)) (kk : G p l e room_1 s m args below meth c D A s.heap 21 k n Q (pc + 1) lv rest (Wm cI cP h ad np hr wet cover sun fs mk fd pcs pa P (Mt cA cI q r (updF F x (upd (F x) y v))))) : G p l e room_1 s m args below meth c D A s.heap 21 k n Q pc lv (.int v :: .int (nI y) :: .ref (r x) :: rest) (Wm cI cP h ad np hr wet cover sun fs mk fd pcs pa P (Mt cA cI q r F)) := by
  refine g_iast X.C (np + x + 9) 0 (Wm_row (show x < 10 by omega)) X.t0 (vp_in_nI (n := y) (by omega) (by omega)) hdg Wm_rset ?_
  rw [nI_clamp (by omega)]
  exact kk
theorem q_zast {p : Program} {l : Launch} {e : Env} {s : State} {m : MethodId} {args : Array Value} {below : List Frame} {meth : Method} {c : Code} {Q : State → Prop} {D : va_G} {A : Nat → Prop} {tys : List (ClassId × FieldType)} {rt : Option FieldType} {cI cP cZ cA cB : ClassId} {b L : Nat} {xs : Nat → Int32} {k n pc : Nat} {lv : List (Nat × Value)} {rest : List Value} {h np hr q : Nat} {ad r : Nat → Nat} {wet cover sun fs mk fd : Nat → Int32} {pcs : Nat → Option Nat} {pa : Nat → Nat} {P : Nat → Pd} {F : Nat → Nat → Int32} (X : Cx p l s m args meth c D A tys rt cI cP cZ cA cB b L xs) {x y : Nat} (hx : x ≤ 9) (hy : y ≤ 7) (hdg : decode cL_law pc = .ok (.bastore, 1)) (kk : G p l e room_1 s m args below meth c D A s.heap 21 k n Q (pc + 1) lv rest (Wm cI cP h ad np hr wet cover sun fs mk fd pcs pa P (Mt cB cZ q r (updF F x (upd (F x) y 1))))) : G p l e room_1 s m args below meth c D A s.heap 21 k n Q pc lv (.int 1 :: .int (nI y) :: .ref (r x) :: rest) (Wm cI cP h ad np hr wet cover sun fs mk fd pcs pa P (Mt cB cZ q r F)) := by
  refine g_zast X.C (np + x + 9) 2 (Wm_row (show x < 10 by omega)) X.t2 (vp_in_nI (n := y) (by omega) (by omega)) hdg Wm_rset ?_
  rw [nI_clamp (by omega), nar1]
  exact kk
section TN
variable {p : Program} {l : Launch} {e : Env} {R : Room} {s : State} {m : MethodId} {args : Array Value} {below : List Frame} {meth : Method} {c : Code} {Q : State → Prop} {D : va_G} {A : Nat → Prop} {H0 : Heap} {tys : List (ClassId × FieldType)} {cc : ByteArray} {nL k n : Nat} {Ts : List Cond} {own : String} {ret : Option FieldType} {pc : Nat} {lv : List (Nat × Value)} {rest : List Value} {ws : va_W}
theorem tif_eq (C : gC p s m args meth c D A H0 tys cc nL Ts own ret) {x : Int32} {v : Bool} (hv1 : x = 0 → v = false) (hv2 : ¬ (x = 0) → v = true) (d0 : decode cc pc = .ok (.ifCond .eq 7, 3)) (d3 : decode cc (pc + 3) = .ok (.iconst 1, 1)) (d4 : decode cc (pc + 4) = .ok (.goto 4, 3)) (d7 : decode cc (pc + 7) = .ok (.iconst 0, 1)) (kk : G p l e R s m args below meth c D A H0 nL k n Q (pc + 8) lv (.int (gz v) :: rest) ws) : G p l e R s m args below meth c D A H0 nL k n Q pc lv (.int x :: rest) ws := by
  refine g_if_eq (tgt := pc + 7) C d0 (by omega) (fun hv => ?_) (fun hv => ?_)
  · refine g_iconst (v := 0) C d7 (by decide) ?_
    rw [hv1 hv] at kk
    exact kk
  · refine g_iconst (v := 1) C d3 (by decide) ?_
    refine g_goto (tgt := pc + 8) C d4 (by omega) ?_
    rw [hv2 hv] at kk
    exact kk
theorem tic_eq (C : gC p s m args meth c D A H0 tys cc nL Ts own ret) {x y : Int32} {v : Bool} (hv1 : x = y → v = false) (hv2 : ¬ (x = y) → v = true) (d0 : decode cc pc = .ok (.if_icmp .eq 7, 3)) (d3 : decode cc (pc + 3) = .ok (.iconst 1, 1)) (d4 : decode cc (pc + 4) = .ok (.goto 4, 3)) (d7 : decode cc (pc + 7) = .ok (.iconst 0, 1)) (kk : G p l e R s m args below meth c D A H0 nL k n Q (pc + 8) lv (.int (gz v) :: rest) ws) : G p l e R s m args below meth c D A H0 nL k n Q pc lv (.int y :: .int x :: rest) ws := by
  refine g_icmp_eq (tgt := pc + 7) C d0 (by omega) (fun hv => ?_) (fun hv => ?_)
  · refine g_iconst (v := 0) C d7 (by decide) ?_
    rw [hv1 hv] at kk
    exact kk
  · refine g_iconst (v := 1) C d3 (by decide) ?_
    refine g_goto (tgt := pc + 8) C d4 (by omega) ?_
    rw [hv2 hv] at kk
    exact kk
theorem tif_ne (C : gC p s m args meth c D A H0 tys cc nL Ts own ret) {x : Int32} {v : Bool} (hv1 : ¬ x = 0 → v = false) (hv2 : ¬ (¬ x = 0) → v = true) (d0 : decode cc pc = .ok (.ifCond .ne 7, 3)) (d3 : decode cc (pc + 3) = .ok (.iconst 1, 1)) (d4 : decode cc (pc + 4) = .ok (.goto 4, 3)) (d7 : decode cc (pc + 7) = .ok (.iconst 0, 1)) (kk : G p l e R s m args below meth c D A H0 nL k n Q (pc + 8) lv (.int (gz v) :: rest) ws) : G p l e R s m args below meth c D A H0 nL k n Q pc lv (.int x :: rest) ws := by
  refine g_if_ne (tgt := pc + 7) C d0 (by omega) (fun hv => ?_) (fun hv => ?_)
  · refine g_iconst (v := 0) C d7 (by decide) ?_
    rw [hv1 hv] at kk
    exact kk
  · refine g_iconst (v := 1) C d3 (by decide) ?_
    refine g_goto (tgt := pc + 8) C d4 (by omega) ?_
    rw [hv2 (fun h => h hv)] at kk
    exact kk
theorem tic_ne (C : gC p s m args meth c D A H0 tys cc nL Ts own ret) {x y : Int32} {v : Bool} (hv1 : ¬ x = y → v = false) (hv2 : ¬ (¬ x = y) → v = true) (d0 : decode cc pc = .ok (.if_icmp .ne 7, 3)) (d3 : decode cc (pc + 3) = .ok (.iconst 1, 1)) (d4 : decode cc (pc + 4) = .ok (.goto 4, 3)) (d7 : decode cc (pc + 7) = .ok (.iconst 0, 1)) (kk : G p l e R s m args below meth c D A H0 nL k n Q (pc + 8) lv (.int (gz v) :: rest) ws) : G p l e R s m args below meth c D A H0 nL k n Q pc lv (.int y :: .int x :: rest) ws := by
  refine g_icmp_ne (tgt := pc + 7) C d0 (by omega) (fun hv => ?_) (fun hv => ?_)
  · refine g_iconst (v := 0) C d7 (by decide) ?_
    rw [hv1 hv] at kk
    exact kk
  · refine g_iconst (v := 1) C d3 (by decide) ?_
    refine g_goto (tgt := pc + 8) C d4 (by omega) ?_
    rw [hv2 (fun h => h hv)] at kk
    exact kk
theorem tif_lt (C : gC p s m args meth c D A H0 tys cc nL Ts own ret) {x : Int32} {v : Bool} (hv1 : x < 0 → v = false) (hv2 : ¬ (x < 0) → v = true) (d0 : decode cc pc = .ok (.ifCond .lt 7, 3)) (d3 : decode cc (pc + 3) = .ok (.iconst 1, 1)) (d4 : decode cc (pc + 4) = .ok (.goto 4, 3)) (d7 : decode cc (pc + 7) = .ok (.iconst 0, 1)) (kk : G p l e R s m args below meth c D A H0 nL k n Q (pc + 8) lv (.int (gz v) :: rest) ws) : G p l e R s m args below meth c D A H0 nL k n Q pc lv (.int x :: rest) ws := by
  refine g_if_lt (tgt := pc + 7) C d0 (by omega) (fun hv => ?_) (fun hv => ?_)
  · refine g_iconst (v := 0) C d7 (by decide) ?_
    rw [hv1 hv] at kk
    exact kk
  · refine g_iconst (v := 1) C d3 (by decide) ?_
    refine g_goto (tgt := pc + 8) C d4 (by omega) ?_
    rw [hv2 hv] at kk
    exact kk
theorem tic_lt (C : gC p s m args meth c D A H0 tys cc nL Ts own ret) {x y : Int32} {v : Bool} (hv1 : x < y → v = false) (hv2 : ¬ (x < y) → v = true) (d0 : decode cc pc = .ok (.if_icmp .lt 7, 3)) (d3 : decode cc (pc + 3) = .ok (.iconst 1, 1)) (d4 : decode cc (pc + 4) = .ok (.goto 4, 3)) (d7 : decode cc (pc + 7) = .ok (.iconst 0, 1)) (kk : G p l e R s m args below meth c D A H0 nL k n Q (pc + 8) lv (.int (gz v) :: rest) ws) : G p l e R s m args below meth c D A H0 nL k n Q pc lv (.int y :: .int x :: rest) ws := by
  refine g_icmp_lt (tgt := pc + 7) C d0 (by omega) (fun hv => ?_) (fun hv => ?_)
  · refine g_iconst (v := 0) C d7 (by decide) ?_
    rw [hv1 hv] at kk
    exact kk
  · refine g_iconst (v := 1) C d3 (by decide) ?_
    refine g_goto (tgt := pc + 8) C d4 (by omega) ?_
    rw [hv2 hv] at kk
    exact kk
theorem tif_ge (C : gC p s m args meth c D A H0 tys cc nL Ts own ret) {x : Int32} {v : Bool} (hv1 : 0 ≤ x → v = false) (hv2 : ¬ (0 ≤ x) → v = true) (d0 : decode cc pc = .ok (.ifCond .ge 7, 3)) (d3 : decode cc (pc + 3) = .ok (.iconst 1, 1)) (d4 : decode cc (pc + 4) = .ok (.goto 4, 3)) (d7 : decode cc (pc + 7) = .ok (.iconst 0, 1)) (kk : G p l e R s m args below meth c D A H0 nL k n Q (pc + 8) lv (.int (gz v) :: rest) ws) : G p l e R s m args below meth c D A H0 nL k n Q pc lv (.int x :: rest) ws := by
  refine g_if_ge (tgt := pc + 7) C d0 (by omega) (fun hv => ?_) (fun hv => ?_)
  · refine g_iconst (v := 0) C d7 (by decide) ?_
    rw [hv1 hv] at kk
    exact kk
  · refine g_iconst (v := 1) C d3 (by decide) ?_
    refine g_goto (tgt := pc + 8) C d4 (by omega) ?_
    rw [hv2 hv] at kk
    exact kk
theorem tic_ge (C : gC p s m args meth c D A H0 tys cc nL Ts own ret) {x y : Int32} {v : Bool} (hv1 : y ≤ x → v = false) (hv2 : ¬ (y ≤ x) → v = true) (d0 : decode cc pc = .ok (.if_icmp .ge 7, 3)) (d3 : decode cc (pc + 3) = .ok (.iconst 1, 1)) (d4 : decode cc (pc + 4) = .ok (.goto 4, 3)) (d7 : decode cc (pc + 7) = .ok (.iconst 0, 1)) (kk : G p l e R s m args below meth c D A H0 nL k n Q (pc + 8) lv (.int (gz v) :: rest) ws) : G p l e R s m args below meth c D A H0 nL k n Q pc lv (.int y :: .int x :: rest) ws := by
  refine g_icmp_ge (tgt := pc + 7) C d0 (by omega) (fun hv => ?_) (fun hv => ?_)
  · refine g_iconst (v := 0) C d7 (by decide) ?_
    rw [hv1 hv] at kk
    exact kk
  · refine g_iconst (v := 1) C d3 (by decide) ?_
    refine g_goto (tgt := pc + 8) C d4 (by omega) ?_
    rw [hv2 hv] at kk
    exact kk
theorem tif_gt (C : gC p s m args meth c D A H0 tys cc nL Ts own ret) {x : Int32} {v : Bool} (hv1 : 0 < x → v = false) (hv2 : ¬ (0 < x) → v = true) (d0 : decode cc pc = .ok (.ifCond .gt 7, 3)) (d3 : decode cc (pc + 3) = .ok (.iconst 1, 1)) (d4 : decode cc (pc + 4) = .ok (.goto 4, 3)) (d7 : decode cc (pc + 7) = .ok (.iconst 0, 1)) (kk : G p l e R s m args below meth c D A H0 nL k n Q (pc + 8) lv (.int (gz v) :: rest) ws) : G p l e R s m args below meth c D A H0 nL k n Q pc lv (.int x :: rest) ws := by
  refine g_if_gt (tgt := pc + 7) C d0 (by omega) (fun hv => ?_) (fun hv => ?_)
  · refine g_iconst (v := 0) C d7 (by decide) ?_
    rw [hv1 hv] at kk
    exact kk
  · refine g_iconst (v := 1) C d3 (by decide) ?_
    refine g_goto (tgt := pc + 8) C d4 (by omega) ?_
    rw [hv2 hv] at kk
    exact kk
theorem tic_gt (C : gC p s m args meth c D A H0 tys cc nL Ts own ret) {x y : Int32} {v : Bool} (hv1 : y < x → v = false) (hv2 : ¬ (y < x) → v = true) (d0 : decode cc pc = .ok (.if_icmp .gt 7, 3)) (d3 : decode cc (pc + 3) = .ok (.iconst 1, 1)) (d4 : decode cc (pc + 4) = .ok (.goto 4, 3)) (d7 : decode cc (pc + 7) = .ok (.iconst 0, 1)) (kk : G p l e R s m args below meth c D A H0 nL k n Q (pc + 8) lv (.int (gz v) :: rest) ws) : G p l e R s m args below meth c D A H0 nL k n Q pc lv (.int y :: .int x :: rest) ws := by
  refine g_icmp_gt (tgt := pc + 7) C d0 (by omega) (fun hv => ?_) (fun hv => ?_)
  · refine g_iconst (v := 0) C d7 (by decide) ?_
    rw [hv1 hv] at kk
    exact kk
  · refine g_iconst (v := 1) C d3 (by decide) ?_
    refine g_goto (tgt := pc + 8) C d4 (by omega) ?_
    rw [hv2 hv] at kk
    exact kk
theorem tif_le (C : gC p s m args meth c D A H0 tys cc nL Ts own ret) {x : Int32} {v : Bool} (hv1 : x ≤ 0 → v = false) (hv2 : ¬ (x ≤ 0) → v = true) (d0 : decode cc pc = .ok (.ifCond .le 7, 3)) (d3 : decode cc (pc + 3) = .ok (.iconst 1, 1)) (d4 : decode cc (pc + 4) = .ok (.goto 4, 3)) (d7 : decode cc (pc + 7) = .ok (.iconst 0, 1)) (kk : G p l e R s m args below meth c D A H0 nL k n Q (pc + 8) lv (.int (gz v) :: rest) ws) : G p l e R s m args below meth c D A H0 nL k n Q pc lv (.int x :: rest) ws := by
  refine g_if_le (tgt := pc + 7) C d0 (by omega) (fun hv => ?_) (fun hv => ?_)
  · refine g_iconst (v := 0) C d7 (by decide) ?_
    rw [hv1 hv] at kk
    exact kk
  · refine g_iconst (v := 1) C d3 (by decide) ?_
    refine g_goto (tgt := pc + 8) C d4 (by omega) ?_
    rw [hv2 hv] at kk
    exact kk
theorem tic_le (C : gC p s m args meth c D A H0 tys cc nL Ts own ret) {x y : Int32} {v : Bool} (hv1 : x ≤ y → v = false) (hv2 : ¬ (x ≤ y) → v = true) (d0 : decode cc pc = .ok (.if_icmp .le 7, 3)) (d3 : decode cc (pc + 3) = .ok (.iconst 1, 1)) (d4 : decode cc (pc + 4) = .ok (.goto 4, 3)) (d7 : decode cc (pc + 7) = .ok (.iconst 0, 1)) (kk : G p l e R s m args below meth c D A H0 nL k n Q (pc + 8) lv (.int (gz v) :: rest) ws) : G p l e R s m args below meth c D A H0 nL k n Q pc lv (.int y :: .int x :: rest) ws := by
  refine g_icmp_le (tgt := pc + 7) C d0 (by omega) (fun hv => ?_) (fun hv => ?_)
  · refine g_iconst (v := 0) C d7 (by decide) ?_
    rw [hv1 hv] at kk
    exact kk
  · refine g_iconst (v := 1) C d3 (by decide) ?_
    refine g_goto (tgt := pc + 8) C d4 (by omega) ?_
    rw [hv2 hv] at kk
    exact kk
end TN
