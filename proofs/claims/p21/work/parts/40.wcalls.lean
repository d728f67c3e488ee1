/-! the calls of the law's wall -/
def rmW : Room := { frames := 9, cells := 400, slots := 4000, locals := 176 }
def CxW (p : Program) (l : Launch) (s : State) (m : MethodId) (args : Array Value) (meth : Method) (c : Code) (D : va_G) (A : Nat → Prop) (tys : List (ClassId × FieldType)) (rt : Option FieldType) (cI cP : ClassId) (b L : Nat) (xs : Nat → Int32) : Prop :=
  l.stackTraces = false ∧ gC p s m args meth c D A s.heap tys cL_wall 5 wsL_wall RL rt ∧ tys[0]? = some (cI, .int) ∧ tys[1]? = some (cP, .object RX0) ∧ va_X b L xs s s.heap ∧ b < s.heap.size ∧ ¬ A b ∧ L ≤ 260
theorem CxW.h9 {p : Program} {l : Launch} {s : State} {m : MethodId} {args : Array Value} {meth : Method} {c : Code} {D : va_G} {A : Nat → Prop} {tys : List (ClassId × FieldType)} {rt : Option FieldType} {cI cP : ClassId} {b L : Nat} {xs : Nat → Int32} (X : CxW p l s m args meth c D A tys rt cI cP b L xs) : l.stackTraces = false := X.1
theorem CxW.C {p : Program} {l : Launch} {s : State} {m : MethodId} {args : Array Value} {meth : Method} {c : Code} {D : va_G} {A : Nat → Prop} {tys : List (ClassId × FieldType)} {rt : Option FieldType} {cI cP : ClassId} {b L : Nat} {xs : Nat → Int32} (X : CxW p l s m args meth c D A tys rt cI cP b L xs) : gC p s m args meth c D A s.heap tys cL_wall 5 wsL_wall RL rt := X.2.1
theorem CxW.t0 {p : Program} {l : Launch} {s : State} {m : MethodId} {args : Array Value} {meth : Method} {c : Code} {D : va_G} {A : Nat → Prop} {tys : List (ClassId × FieldType)} {rt : Option FieldType} {cI cP : ClassId} {b L : Nat} {xs : Nat → Int32} (X : CxW p l s m args meth c D A tys rt cI cP b L xs) : tys[0]? = some (cI, .int) := X.2.2.1
theorem CxW.t1 {p : Program} {l : Launch} {s : State} {m : MethodId} {args : Array Value} {meth : Method} {c : Code} {D : va_G} {A : Nat → Prop} {tys : List (ClassId × FieldType)} {rt : Option FieldType} {cI cP : ClassId} {b L : Nat} {xs : Nat → Int32} (X : CxW p l s m args meth c D A tys rt cI cP b L xs) : tys[1]? = some (cP, .object RX0) := X.2.2.2.1
theorem CxW.X {p : Program} {l : Launch} {s : State} {m : MethodId} {args : Array Value} {meth : Method} {c : Code} {D : va_G} {A : Nat → Prop} {tys : List (ClassId × FieldType)} {rt : Option FieldType} {cI cP : ClassId} {b L : Nat} {xs : Nat → Int32} (X : CxW p l s m args meth c D A tys rt cI cP b L xs) : va_X b L xs s s.heap := X.2.2.2.2.1
theorem CxW.bl {p : Program} {l : Launch} {s : State} {m : MethodId} {args : Array Value} {meth : Method} {c : Code} {D : va_G} {A : Nat → Prop} {tys : List (ClassId × FieldType)} {rt : Option FieldType} {cI cP : ClassId} {b L : Nat} {xs : Nat → Int32} (X : CxW p l s m args meth c D A tys rt cI cP b L xs) : b < s.heap.size := X.2.2.2.2.2.1
theorem CxW.bA {p : Program} {l : Launch} {s : State} {m : MethodId} {args : Array Value} {meth : Method} {c : Code} {D : va_G} {A : Nat → Prop} {tys : List (ClassId × FieldType)} {rt : Option FieldType} {cI cP : ClassId} {b L : Nat} {xs : Nat → Int32} (X : CxW p l s m args meth c D A tys rt cI cP b L xs) : ¬ A b := X.2.2.2.2.2.2.1
theorem CxW.L {p : Program} {l : Launch} {s : State} {m : MethodId} {args : Array Value} {meth : Method} {c : Code} {D : va_G} {A : Nat → Prop} {tys : List (ClassId × FieldType)} {rt : Option FieldType} {cI cP : ClassId} {b L : Nat} {xs : Nat → Int32} (X : CxW p l s m args meth c D A tys rt cI cP b L xs) : L ≤ 260 := X.2.2.2.2.2.2.2
set_option maxHeartbeats 1000000 in
theorem v_count {p : Program} {l : Launch} {e : Env} {s : State} {m : MethodId} {args : Array Value} {below : List Frame} {meth : Method} {c : Code} {Q : State → Prop} {D : va_G} {A : Nat → Prop} {tys : List (ClassId × FieldType)} {rt : Option FieldType} {cI cP : ClassId} {b L : Nat} {xs : Nat → Int32} {k n pc : Nat} {lv : List (Nat × Value)} {rest : List Value} {h np hr : Nat} {ad : Nat → Nat} {wet cover sun fs mk fd : Nat → Int32} {pcs : Nat → Option Nat} {pa : Nat → Nat} {P : Nat → Pd} {Y : va_W} {w : Nat}  (X : CxW p l s m args meth c D A tys rt cI cP b L xs) (J : JV np wet cover sun P pcs pa) (hw : w ≤ 6) {w0 : Int32} (hw0 : w0 = nI w) (hdg : decode cL_wall pc = .ok (.invokevirtual 33, 3)) (hcat : (rest.map fun v => v.category).sum ≤ 8) (hk : k + 1 ≤ 400) (hn : n + 6 ≤ 4000) (kk : G p l e rmW s m args below meth c D A s.heap 5 (k + 1) (n + 6) Q (pc + 3) lv (.int (cntf np hr P wet cover fd w) :: rest) (Wm cI cP h ad np hr wet cover sun fs mk fd pcs pa P Y)) : G p l e rmW s m args below meth c D A s.heap 5 k n Q pc lv (.int w0 :: .ref h :: rest) (Wm cI cP h ad np hr wet cover sun fs mk fd pcs pa P Y) := by
  subst hw0
  obtain ⟨hnp, hg, hpw, hown, hwt, hsn, hpc⟩ := id J
  have hc_w : vn (nI w) = w := nI_clamp (by omega)
  refine g_callVx (ci := 1) (Cn := RX1) (As := [.int (nI w)]) (rest := rest) X.C gm0 rfl rfl (c_X1_count l X.h9 D tys cI cP X.t0 X.t1 h (ad 1) (ad 2) (ad 3) (ad 4) (ad 5) (ad 6) (ad 7) np hr wet cover sun fs mk fd pcs pa P Y hnp hpc hg (nI w)) (cwV 1 X.C.ts gL_wall_X1_count rfl rfl rfl (by decide +kernel) ⟨(Nat.le_of_ble_eq_true rfl), (Nat.le_of_ble_eq_true rfl)⟩) rfl rfl hcat hdg hk hn ?_ ?_
  · intro E hE
    have h0 := hE.1
    rw [cdCo_0 (Nat.le_succ_of_le hw)] at h0
    exact absurd h0 (Nat.lt_irrefl 0)
  · intro vq wq hq9
    obtain ⟨-, rfl, rfl⟩ := hq9
    rw [hc_w, cntW, if_neg (show ¬ w = 7 by omega)]
    exact kk
set_option maxHeartbeats 1000000 in
theorem v_pass {p : Program} {l : Launch} {e : Env} {s : State} {m : MethodId} {args : Array Value} {below : List Frame} {meth : Method} {c : Code} {Q : State → Prop} {D : va_G} {A : Nat → Prop} {tys : List (ClassId × FieldType)} {rt : Option FieldType} {cI cP : ClassId} {b L : Nat} {xs : Nat → Int32} {k n pc : Nat} {lv : List (Nat × Value)} {rest : List Value} {h np hr : Nat} {ad : Nat → Nat} {wet cover sun fs mk fd : Nat → Int32} {pcs : Nat → Option Nat} {pa : Nat → Nat} {P : Nat → Pd} {Y : va_W} {v : Nat}  (X : CxW p l s m args meth c D A tys rt cI cP b L xs) (J : JV np wet cover sun P pcs pa) (hv1 : 1 ≤ v) (hv : v ≤ 100) (hhr : hr < 2 ^ 29) (hdg : decode cL_wall pc = .ok (.invokevirtual 29, 3)) (hcat : (rest.map fun v => v.category).sum ≤ 8) (hk : k + 1 ≤ 400) (hn : n + 6 ≤ 4000) (kk : G p l e rmW s m args below meth c D A s.heap 5 (k + 1) (n + 6) Q (pc + 3) lv (.int (nI (cnt (fun k => lsp (P k) (wetN wet cover sun hr v)) np)) :: rest) (Wm cI cP h ad np ((hr + v)) (wetN wet cover sun hr v) cover sun fs mk fd pcs pa P Y)) : G p l e rmW s m args below meth c D A s.heap 5 k n Q pc lv (.int (nI v) :: .ref h :: rest) (Wm cI cP h ad np hr wet cover sun fs mk fd pcs pa P Y) := by
  obtain ⟨hnp, hg, hpw, hown, hwt, hsn, hpc⟩ := id J
  have hc_v : vn (nI v) = v := nI_clamp (by omega)
  refine g_callVx (ci := 1) (Cn := RX1) (As := [.int (nI v)]) (rest := rest) X.C gm0 rfl rfl (c_X1_pass l X.h9 D tys cI cP X.t0 X.t1 h (ad 1) (ad 2) (ad 3) (ad 4) (ad 5) (ad 6) (ad 7) np hr wet cover sun fs mk fd pcs pa P Y hnp hpc hg (nI v) hhr) (cwV 1 X.C.ts gL_wall_X1_pass rfl rfl rfl (by decide +kernel) ⟨(Nat.le_of_ble_eq_true rfl), (Nat.le_of_ble_eq_true rfl)⟩) rfl rfl hcat hdg hk hn ?_ ?_
  · intro E hE
    have h0 := hE.1
    rw [cdPa_0 hv1 hv] at h0
    exact absurd h0 (Nat.lt_irrefl 0)
  · intro vq wq hq9
    obtain ⟨-, rfl, rfl⟩ := hq9
    rw [hc_v]
    exact kk
set_option maxHeartbeats 1000000 in
theorem v_below {p : Program} {l : Launch} {e : Env} {s : State} {m : MethodId} {args : Array Value} {below : List Frame} {meth : Method} {c : Code} {Q : State → Prop} {D : va_G} {A : Nat → Prop} {tys : List (ClassId × FieldType)} {rt : Option FieldType} {cI cP : ClassId} {b L : Nat} {xs : Nat → Int32} {W : va_W} {k n pc : Nat} {lv : List (Nat × Value)} {rest : List Value} (X : CxW p l s m args meth c D A tys rt cI cP b L xs) {v : Int32} {j : Nat} {j0 : Int32} (hj0 : j0 = nI j) (h0 : 0 < j) (hj : j < 2 ^ 31) (hdg : decode cL_wall pc = .ok (.invokestatic 18, 3)) (hcat : (rest.map fun v => v.category).sum ≤ 8) (hk : k ≤ 400) (hn : n ≤ 4000) (kk : ∀ i, i < j → G p l e rmW s m args below meth c D A s.heap 5 k n Q (pc + 3) lv (.int (nI i) :: rest) W) : G p l e rmW s m args below meth c D A s.heap 5 k n Q pc lv (.int j0 :: .int v :: rest) W := by
  subst hj0
  refine g_callS (As := [.int v, .int (nI j)]) (rest := rest) X.C (c_L_below l D tys W v j h0 hj) (va_cwS 2 X.C.ts gL_wall_L_below rfl rfl rfl (by decide +kernel) ⟨(Nat.le_of_ble_eq_true rfl), (Nat.le_of_ble_eq_true rfl)⟩) rfl rfl hcat hdg (by exact hk) (by exact hn) ?_
  rintro vq wq ⟨⟨i, hi, rfl⟩, rfl⟩
  exact kk i hi
set_option maxHeartbeats 1000000 in
theorem v_cellL {p : Program} {l : Launch} {e : Env} {s : State} {m : MethodId} {args : Array Value} {below : List Frame} {meth : Method} {c : Code} {Q : State → Prop} {D : va_G} {A : Nat → Prop} {tys : List (ClassId × FieldType)} {rt : Option FieldType} {cI cP : ClassId} {b L : Nat} {xs : Nat → Int32} {W : va_W} {k n pc : Nat} {lv : List (Nat × Value)} {rest : List Value} (X : CxW p l s m args meth c D A tys rt cI cP b L xs) {j : Nat} {j0 : Int32} (hj0 : j0 = nI j) (hj : j < 2 ^ 30) (hdg : decode cL_wall pc = .ok (.invokestatic 12, 3)) (hcat : (rest.map fun v => v.category).sum ≤ 8) (hk : k ≤ 400) (hn : n ≤ 4000) (kk : ∀ i, G p l e rmW s m args below meth c D A s.heap 5 k n Q (pc + 3) lv (.int i :: rest) W) : G p l e rmW s m args below meth c D A s.heap 5 k n Q pc lv (.int j0 :: .ref b :: rest) W := by
  subst hj0
  refine g_callSs (As := [.ref b, .int (nI j)]) (rest := rest) X.C X.X X.bl X.bA (c_L_cell l D tys W b L xs X.L j hj) (va_cwS 2 X.C.ts gL_wall_L_cell rfl rfl rfl (by decide +kernel) ⟨(Nat.le_of_ble_eq_true rfl), (Nat.le_of_ble_eq_true rfl)⟩) rfl rfl hcat hdg (by exact hk) (by exact hn) ?_
  rintro vq wq ⟨⟨i, rfl⟩, rfl⟩
  exact kk i
set_option maxHeartbeats 1000000 in
theorem v_press {p : Program} {l : Launch} {e : Env} {s : State} {m : MethodId} {args : Array Value} {below : List Frame} {meth : Method} {c : Code} {Q : State → Prop} {D : va_G} {A : Nat → Prop} {tys : List (ClassId × FieldType)} {rt : Option FieldType} {cI cP : ClassId} {b L : Nat} {xs : Nat → Int32} {k n pc : Nat} {lv : List (Nat × Value)} {rest : List Value} {h np hr : Nat} {ad : Nat → Nat} {wet cover sun fs mk fd : Nat → Int32} {pcs : Nat → Option Nat} {pa : Nat → Nat} {P : Nat → Pd} {Y : va_W} (X : CxW p l s m args meth c D A tys rt cI cP b L xs) (J : JV np wet cover sun P pcs pa) {x y ln f9 b9 : Nat} {ac : Bool} (hx : x ≤ 9) (hy : y ≤ 7) (hl1 : 1 ≤ ln) (hl3 : ln ≤ 3) (hf : f9 ≤ 6) (hb : b9 ≤ 6) {ac0 : Int32} (hac0 : ac0 = gz ac) (hdg : decode cL_wall pc = .ok (.invokestatic 40, 3)) (hcat : (rest.map fun v => v.category).sum ≤ 8) (hk : k + 2 ≤ 400) (hn : n + 14 ≤ 4000)
    (k1 : ∀ q, cdPr np wet cover (nI x) (nI y) (nI ln) ac (nI f9) (nI b9) = 0 → G p l e rmW s m args below meth c D A s.heap 5 (k + 2) (n + 14) Q (pc + 3) lv (.int (nI np) :: rest) (Wm cI cP h ad (np + 1) hr wet (setL cover (pcl (pPV x y ln f9 b9 ac)) (nI np) ln) sun fs mk fd (va_up pcs np (some q)) (va_up pa np q) (pup P np (pPV x y ln f9 b9 ac)) Y))
    (k2 : G p l e rmW s m args below meth c D A s.heap 5 (k + 2) (n + 14) Q (pc + 3) lv (.int (-1) :: rest) (Wm cI cP h ad np hr wet cover sun fs mk fd pcs pa P Y)) : G p l e rmW s m args below meth c D A s.heap 5 k n Q pc lv (.int (nI b9) :: .int (nI f9) :: .int ac0 :: .int (nI ln) :: .int (nI y) :: .int (nI x) :: .ref h :: rest) (Wm cI cP h ad np hr wet cover sun fs mk fd pcs pa P Y) := by
  subst hac0
  refine g_callSW (As := [.ref h, .int (nI x), .int (nI y), .int (nI ln), .int (gz ac), .int (nI f9), .int (nI b9)]) (rest := rest) X.C (c_L_press l X.h9 D tys cI cP X.t0 X.t1 h ad np hr wet cover sun fs mk fd pcs pa P Y J x y ln f9 b9 ac hx hy hl1 hl3 hf hb) (vx_cwSW 7 X.C.ts gL_wall_L_press rfl rfl rfl (by decide +kernel) ⟨(Nat.le_of_ble_eq_true rfl), (Nat.le_of_ble_eq_true rfl)⟩) rfl rfl hcat hdg hk hn ?_
  intro vq wq hq9
  rcases hq9 with ⟨hcd, rfl, q, rfl⟩ | ⟨rfl, rfl⟩
  · exact k1 q hcd
  · exact k2
set_option maxHeartbeats 1000000 in
theorem v_act {p : Program} {l : Launch} {e : Env} {s : State} {m : MethodId} {args : Array Value} {below : List Frame} {meth : Method} {c : Code} {Q : State → Prop} {D : va_G} {A : Nat → Prop} {tys : List (ClassId × FieldType)} {rt : Option FieldType} {cI cP : ClassId} {b L : Nat} {xs : Nat → Int32} {k n pc : Nat} {lv : List (Nat × Value)} {rest : List Value} {h np hr : Nat} {ad : Nat → Nat} {wet cover sun fs mk fd : Nat → Int32} {pcs : Nat → Option Nat} {pa : Nat → Nat} {P : Nat → Pd} {Y : va_W} (X : CxW p l s m args meth c D A tys rt cI cP b L xs) (J : JV np wet cover sun P pcs pa) {v a9 : Nat} (hv : v < np) (ha : a9 < 2 ^ 31) {a0 : Int32} (ha0 : a0 = nI a9) (hdg : decode cL_wall pc = .ok (.invokestatic 36, 3)) (hcat : (rest.map fun v => v.category).sum ≤ 8) (hk : k + 1 ≤ 400) (hn : n + 6 ≤ 4000)
    (k1 : a9 < 2 → cdFl np P wet (nI v) = 0 → G p l e rmW s m args below meth c D A s.heap 5 (k + 1) (n + 6) Q (pc + 3) lv (.int (shw (flp (P v))) :: rest) (Wfl cI cP h ad np hr wet cover sun fs mk fd pcs pa P Y v))
    (k2 : a9 = 2 → cdTu np P wet cover (nI v) = 0 → G p l e rmW s m args below meth c D A s.heap 5 (k + 1) (n + 6) Q (pc + 3) lv (.int (nI (ql (P v))) :: rest) (Wtu cI cP h ad np hr wet cover sun fs mk fd pcs pa P Y v))
    (k3 : 2 < a9 → cdTa np P (nI v) = 0 → G p l e rmW s m args below meth c D A s.heap 5 (k + 1) (n + 6) Q (pc + 3) lv (.int (gz (lsp (P v) wet)) :: rest) (Wta cI cP h ad np hr wet cover sun fs mk fd pcs pa P Y v))
    (k4 : (a9 < 2 → cdFl np P wet (nI v) = 2) → (a9 = 2 → cdTu np P wet cover (nI v) = 2) → (2 < a9 → cdTa np P (nI v) = 2) → G p l e rmW s m args below meth c D A s.heap 5 (k + 1) (n + 6) Q (pc + 3) lv (.int (-1) :: rest) (Wm cI cP h ad np hr wet cover sun fs mk fd pcs pa P Y)) : G p l e rmW s m args below meth c D A s.heap 5 k n Q pc lv (.int a0 :: .int (nI v) :: .ref h :: rest) (Wm cI cP h ad np hr wet cover sun fs mk fd pcs pa P Y) := by
  subst ha0
  refine g_callSW (As := [.ref h, .int (nI v), .int (nI a9)]) (rest := rest) X.C (c_L_act l X.h9 D tys cI cP X.t0 X.t1 h ad np hr wet cover sun fs mk fd pcs pa P Y J v a9 hv ha) (vx_cwSW 3 X.C.ts gL_wall_L_act rfl rfl rfl (by decide +kernel) ⟨(Nat.le_of_ble_eq_true rfl), (Nat.le_of_ble_eq_true rfl)⟩) rfl rfl hcat hdg hk hn ?_
  intro vq wq hq9
  rcases hq9 with ⟨h1, h2, rfl, rfl⟩ | ⟨h1, h2, rfl, rfl⟩ | ⟨h1, h2, rfl, rfl⟩ | ⟨h1, h2, h3, rfl, rfl⟩
  · exact k1 h1 h2
  · exact k2 h1 h2
  · exact k3 h1 h2
  · exact k4 h1 h2 h3
set_option maxHeartbeats 1000000 in
theorem v_setSun {p : Program} {l : Launch} {e : Env} {s : State} {m : MethodId} {args : Array Value} {below : List Frame} {meth : Method} {c : Code} {Q : State → Prop} {D : va_G} {A : Nat → Prop} {tys : List (ClassId × FieldType)} {rt : Option FieldType} {cI cP : ClassId} {b L : Nat} {xs : Nat → Int32} {k n pc : Nat} {lv : List (Nat × Value)} {rest : List Value} {h np hr : Nat} {ad : Nat → Nat} {wet cover sun fs mk fd : Nat → Int32} {pcs : Nat → Option Nat} {pa : Nat → Nat} {P : Nat → Pd} {Y : va_W} {v : Nat} {s9 : Nat}  (X : CxW p l s m args meth c D A tys rt cI cP b L xs) (J : JV np wet cover sun P pcs pa) (hv : v ≤ 7) (hs : s9 ≤ 4) (hdg : decode cL_wall pc = .ok (.invokevirtual 22, 3)) (hcat : (rest.map fun v => v.category).sum ≤ 8) (hk : k + 1 ≤ 400) (hn : n + 6 ≤ 4000) (kk : G p l e rmW s m args below meth c D A s.heap 5 (k + 1) (n + 6) Q (pc + 3) lv (.int (atv 8 sun (nI v)) :: rest) (Wm cI cP h ad np hr wet cover (putv 8 sun (nI v) (nI s9)) fs mk fd pcs pa P Y)) : G p l e rmW s m args below meth c D A s.heap 5 k n Q pc lv (.int (nI s9) :: .int (nI v) :: .ref h :: rest) (Wm cI cP h ad np hr wet cover sun fs mk fd pcs pa P Y) := by
  obtain ⟨hnp, hg, hpw, hown, hwt, hsn, hpc⟩ := id J
  have hc_v : vn (nI v) = v := nI_clamp (by omega)
  have hc_s9 : vn (nI s9) = s9 := nI_clamp (by omega)
  refine g_callVx (ci := 1) (Cn := RX1) (As := [.int (nI v), .int (nI s9)]) (rest := rest) X.C gm0 rfl rfl (c_X1_setSun l X.h9 D tys cI cP X.t0 X.t1 h (ad 1) (ad 2) (ad 3) (ad 4) (ad 5) (ad 6) (ad 7) np hr wet cover sun fs mk fd pcs pa P Y hnp hpc hg (nI v) (nI s9)) (cwV 2 X.C.ts gL_wall_X1_setSun rfl rfl rfl (by decide +kernel) ⟨(Nat.le_of_ble_eq_true rfl), (Nat.le_of_ble_eq_true rfl)⟩) rfl rfl hcat hdg hk hn ?_ ?_
  · intro E hE
    have h0 := hE.1
    rw [cdSu_0 hv hs] at h0
    exact absurd h0 (Nat.lt_irrefl 0)
  · intro vq wq hq9
    obtain ⟨-, rfl, rfl⟩ := hq9
    exact kk
set_option maxHeartbeats 1000000 in
theorem v_spread {p : Program} {l : Launch} {e : Env} {s : State} {m : MethodId} {args : Array Value} {below : List Frame} {meth : Method} {c : Code} {Q : State → Prop} {D : va_G} {A : Nat → Prop} {tys : List (ClassId × FieldType)} {rt : Option FieldType} {cI cP : ClassId} {b L : Nat} {xs : Nat → Int32} {k n pc : Nat} {lv : List (Nat × Value)} {rest : List Value} {h np hr : Nat} {ad : Nat → Nat} {wet cover sun fs mk fd : Nat → Int32} {pcs : Nat → Option Nat} {pa : Nat → Nat} {P : Nat → Pd} {Y : va_W} {x : Nat} {y : Nat} {w9 : Nat} {h9 : Nat}  (X : CxW p l s m args meth c D A tys rt cI cP b L xs) (J : JV np wet cover sun P pcs pa) (hx : x ≤ 9) (hy : y ≤ 7) (h1 : 1 ≤ w9) (hw : w9 + x ≤ 10) (h2 : 1 ≤ h9) (hh : h9 + y ≤ 8) {x0 : Int32} (hx0 : x0 = nI x) {y0 : Int32} (hy0 : y0 = nI y) {w90 : Int32} (hw90 : w90 = nI w9) {h90 : Int32} (hh90 : h90 = nI h9) (hdg : decode cL_wall pc = .ok (.invokevirtual 25, 3)) (hcat : (rest.map fun v => v.category).sum ≤ 8) (hk : k + 2 ≤ 400) (hn : n + 12 ≤ 4000) (kk : G p l e rmW s m args below meth c D A s.heap 5 (k + 2) (n + 12) Q (pc + 3) lv (.int (nI (cnt (sprF cover x y w9) (w9 * h9))) :: rest) (Wm cI cP h ad np hr (sprW wet cover x y w9 (w9 * h9)) cover sun fs mk fd pcs pa P Y)) : G p l e rmW s m args below meth c D A s.heap 5 k n Q pc lv (.int h90 :: .int w90 :: .int y0 :: .int x0 :: .ref h :: rest) (Wm cI cP h ad np hr wet cover sun fs mk fd pcs pa P Y) := by
  subst hx0
  subst hy0
  subst hw90
  subst hh90
  obtain ⟨hnp, hg, hpw, hown, hwt, hsn, hpc⟩ := id J
  have hc_x : vn (nI x) = x := nI_clamp (by omega)
  have hc_y : vn (nI y) = y := nI_clamp (by omega)
  have hc_w9 : vn (nI w9) = w9 := nI_clamp (by omega)
  have hc_h9 : vn (nI h9) = h9 := nI_clamp (by omega)
  refine g_callVx (ci := 1) (Cn := RX1) (As := [.int (nI x), .int (nI y), .int (nI w9), .int (nI h9)]) (rest := rest) X.C gm0 rfl rfl (c_X1_spread l X.h9 D tys cI cP X.t0 X.t1 h (ad 1) (ad 2) (ad 3) (ad 4) (ad 5) (ad 6) (ad 7) np hr wet cover sun fs mk fd pcs pa P Y hnp hpc hg (nI x) (nI y) (nI w9) (nI h9)) (cwV 4 X.C.ts gL_wall_X1_spread rfl rfl rfl (by decide +kernel) ⟨(Nat.le_of_ble_eq_true rfl), (Nat.le_of_ble_eq_true rfl)⟩) rfl rfl hcat hdg hk hn ?_ ?_
  · intro E hE
    have h0 := hE.1
    rw [cdSp_0 hx hy h1 hw h2 hh] at h0
    exact absurd h0 (Nat.lt_irrefl 0)
  · intro vq wq hq9
    obtain ⟨-, rfl, rfl⟩ := hq9
    rw [hc_x, hc_y, hc_w9, hc_h9]
    exact kk
