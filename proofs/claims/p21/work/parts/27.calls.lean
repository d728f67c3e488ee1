/-! the law's calls, a row each -/
def Cx (p : Program) (l : Launch) (s : State) (m : MethodId) (args : Array Value) (meth : Method) (c : Code) (D : va_G) (A : Nat → Prop) (tys : List (ClassId × FieldType)) (rt : Option FieldType) (cI cP cZ cA cB : ClassId) (b L : Nat) (xs : Nat → Int32) : Prop :=
  l.stackTraces = false ∧ gC p s m args meth c D A s.heap tys cL_law 21 wsL_law RL rt ∧ tys[0]? = some (cI, .int) ∧ tys[1]? = some (cP, .object RX0) ∧ tys[2]? = some (cZ, .boolean) ∧ tys[3]? = some (cA, .array .int) ∧ tys[4]? = some (cB, .array .boolean) ∧ va_AOA .int s ∧ va_AOA .boolean s ∧ va_X b L xs s s.heap ∧ b < s.heap.size ∧ ¬ A b ∧ L ≤ 260
theorem Cx.h9 {p : Program} {l : Launch} {s : State} {m : MethodId} {args : Array Value} {meth : Method} {c : Code} {D : va_G} {A : Nat → Prop} {tys : List (ClassId × FieldType)} {rt : Option FieldType} {cI cP cZ cA cB : ClassId} {b L : Nat} {xs : Nat → Int32} (X : Cx p l s m args meth c D A tys rt cI cP cZ cA cB b L xs) : l.stackTraces = false := X.1
theorem Cx.C {p : Program} {l : Launch} {s : State} {m : MethodId} {args : Array Value} {meth : Method} {c : Code} {D : va_G} {A : Nat → Prop} {tys : List (ClassId × FieldType)} {rt : Option FieldType} {cI cP cZ cA cB : ClassId} {b L : Nat} {xs : Nat → Int32} (X : Cx p l s m args meth c D A tys rt cI cP cZ cA cB b L xs) : gC p s m args meth c D A s.heap tys cL_law 21 wsL_law RL rt := X.2.1
theorem Cx.t0 {p : Program} {l : Launch} {s : State} {m : MethodId} {args : Array Value} {meth : Method} {c : Code} {D : va_G} {A : Nat → Prop} {tys : List (ClassId × FieldType)} {rt : Option FieldType} {cI cP cZ cA cB : ClassId} {b L : Nat} {xs : Nat → Int32} (X : Cx p l s m args meth c D A tys rt cI cP cZ cA cB b L xs) : tys[0]? = some (cI, .int) := X.2.2.1
theorem Cx.t1 {p : Program} {l : Launch} {s : State} {m : MethodId} {args : Array Value} {meth : Method} {c : Code} {D : va_G} {A : Nat → Prop} {tys : List (ClassId × FieldType)} {rt : Option FieldType} {cI cP cZ cA cB : ClassId} {b L : Nat} {xs : Nat → Int32} (X : Cx p l s m args meth c D A tys rt cI cP cZ cA cB b L xs) : tys[1]? = some (cP, .object RX0) := X.2.2.2.1
theorem Cx.t2 {p : Program} {l : Launch} {s : State} {m : MethodId} {args : Array Value} {meth : Method} {c : Code} {D : va_G} {A : Nat → Prop} {tys : List (ClassId × FieldType)} {rt : Option FieldType} {cI cP cZ cA cB : ClassId} {b L : Nat} {xs : Nat → Int32} (X : Cx p l s m args meth c D A tys rt cI cP cZ cA cB b L xs) : tys[2]? = some (cZ, .boolean) := X.2.2.2.2.1
theorem Cx.t3 {p : Program} {l : Launch} {s : State} {m : MethodId} {args : Array Value} {meth : Method} {c : Code} {D : va_G} {A : Nat → Prop} {tys : List (ClassId × FieldType)} {rt : Option FieldType} {cI cP cZ cA cB : ClassId} {b L : Nat} {xs : Nat → Int32} (X : Cx p l s m args meth c D A tys rt cI cP cZ cA cB b L xs) : tys[3]? = some (cA, .array .int) := X.2.2.2.2.2.1
theorem Cx.t4 {p : Program} {l : Launch} {s : State} {m : MethodId} {args : Array Value} {meth : Method} {c : Code} {D : va_G} {A : Nat → Prop} {tys : List (ClassId × FieldType)} {rt : Option FieldType} {cI cP cZ cA cB : ClassId} {b L : Nat} {xs : Nat → Int32} (X : Cx p l s m args meth c D A tys rt cI cP cZ cA cB b L xs) : tys[4]? = some (cB, .array .boolean) := X.2.2.2.2.2.2.1
theorem Cx.o1 {p : Program} {l : Launch} {s : State} {m : MethodId} {args : Array Value} {meth : Method} {c : Code} {D : va_G} {A : Nat → Prop} {tys : List (ClassId × FieldType)} {rt : Option FieldType} {cI cP cZ cA cB : ClassId} {b L : Nat} {xs : Nat → Int32} (X : Cx p l s m args meth c D A tys rt cI cP cZ cA cB b L xs) : va_AOA .int s := X.2.2.2.2.2.2.2.1
theorem Cx.o2 {p : Program} {l : Launch} {s : State} {m : MethodId} {args : Array Value} {meth : Method} {c : Code} {D : va_G} {A : Nat → Prop} {tys : List (ClassId × FieldType)} {rt : Option FieldType} {cI cP cZ cA cB : ClassId} {b L : Nat} {xs : Nat → Int32} (X : Cx p l s m args meth c D A tys rt cI cP cZ cA cB b L xs) : va_AOA .boolean s := X.2.2.2.2.2.2.2.2.1
theorem Cx.X {p : Program} {l : Launch} {s : State} {m : MethodId} {args : Array Value} {meth : Method} {c : Code} {D : va_G} {A : Nat → Prop} {tys : List (ClassId × FieldType)} {rt : Option FieldType} {cI cP cZ cA cB : ClassId} {b L : Nat} {xs : Nat → Int32} (X : Cx p l s m args meth c D A tys rt cI cP cZ cA cB b L xs) : va_X b L xs s s.heap := X.2.2.2.2.2.2.2.2.2.1
theorem Cx.bl {p : Program} {l : Launch} {s : State} {m : MethodId} {args : Array Value} {meth : Method} {c : Code} {D : va_G} {A : Nat → Prop} {tys : List (ClassId × FieldType)} {rt : Option FieldType} {cI cP cZ cA cB : ClassId} {b L : Nat} {xs : Nat → Int32} (X : Cx p l s m args meth c D A tys rt cI cP cZ cA cB b L xs) : b < s.heap.size := X.2.2.2.2.2.2.2.2.2.2.1
theorem Cx.bA {p : Program} {l : Launch} {s : State} {m : MethodId} {args : Array Value} {meth : Method} {c : Code} {D : va_G} {A : Nat → Prop} {tys : List (ClassId × FieldType)} {rt : Option FieldType} {cI cP cZ cA cB : ClassId} {b L : Nat} {xs : Nat → Int32} (X : Cx p l s m args meth c D A tys rt cI cP cZ cA cB b L xs) : ¬ A b := X.2.2.2.2.2.2.2.2.2.2.2.1
theorem Cx.L {p : Program} {l : Launch} {s : State} {m : MethodId} {args : Array Value} {meth : Method} {c : Code} {D : va_G} {A : Nat → Prop} {tys : List (ClassId × FieldType)} {rt : Option FieldType} {cI cP cZ cA cB : ClassId} {b L : Nat} {xs : Nat → Int32} (X : Cx p l s m args meth c D A tys rt cI cP cZ cA cB b L xs) : L ≤ 260 := X.2.2.2.2.2.2.2.2.2.2.2.2
set_option maxHeartbeats 1000000 in
theorem q_cell {p : Program} {l : Launch} {e : Env} {s : State} {m : MethodId} {args : Array Value} {below : List Frame} {meth : Method} {c : Code} {Q : State → Prop} {D : va_G} {A : Nat → Prop} {tys : List (ClassId × FieldType)} {rt : Option FieldType} {cI cP cZ cA cB : ClassId} {b L : Nat} {xs : Nat → Int32} {k n pc : Nat} {lv : List (Nat × Value)} {rest : List Value} {h np hr : Nat} {ad : Nat → Nat} {wet cover sun fs mk fd : Nat → Int32} {pcs : Nat → Option Nat} {pa : Nat → Nat} {P : Nat → Pd} {Y : va_W} {x : Nat} {y : Nat} {w : Nat}  (X : Cx p l s m args meth c D A tys rt cI cP cZ cA cB b L xs) (J : JV np wet cover sun P pcs pa) (hx : x ≤ 9) (hy : y ≤ 7) (hw : w ≤ 2) {w0 : Int32} (hw0 : w0 = nI w) (hdg : decode cL_law pc = .ok (.invokevirtual 65, 3)) (hcat : (rest.map fun v => v.category).sum ≤ 8) (hk : k + 2 ≤ 605351) (hn : n + 12 ≤ 7285716) (kk : G p l e room_1 s m args below meth c D A s.heap 21 (k + 2) (n + 12) Q (pc + 3) lv (.int (cfact np P wet cover (10 * y + x) w) :: rest) (Wm cI cP h ad np hr wet cover sun fs mk fd pcs pa P Y)) : G p l e room_1 s m args below meth c D A s.heap 21 k n Q pc lv (.int w0 :: .int (nI y) :: .int (nI x) :: .ref h :: rest) (Wm cI cP h ad np hr wet cover sun fs mk fd pcs pa P Y) := by
  subst hw0
  obtain ⟨hnp, hg, hpw, hown, hwt, hsn, hpc⟩ := id J
  have hc_x : vn (nI x) = x := nI_clamp (by omega)
  have hc_y : vn (nI y) = y := nI_clamp (by omega)
  have hc_w : vn (nI w) = w := nI_clamp (by omega)
  refine g_callVx (ci := 1) (Cn := RX1) (As := [.int (nI x), .int (nI y), .int (nI w)]) (rest := rest) X.C gm0 rfl rfl (c_X1_cell l X.h9 D tys cI cP X.t0 X.t1 h (ad 1) (ad 2) (ad 3) (ad 4) (ad 5) (ad 6) (ad 7) np hr wet cover sun fs mk fd pcs pa P Y hnp hpc hg (nI x) (nI y) (nI w)) (cwV 3 X.C.ts gL_law_X1_cell rfl rfl rfl (by decide +kernel) ⟨(Nat.le_of_ble_eq_true rfl), (Nat.le_of_ble_eq_true rfl)⟩) rfl rfl hcat hdg hk hn ?_ ?_
  · intro E hE
    have h0 := hE.1
    rw [cdCe_0 hx hy hw] at h0
    exact absurd h0 (Nat.lt_irrefl 0)
  · intro vq wq hq9
    obtain ⟨-, rfl, rfl⟩ := hq9
    rw [hc_x, hc_y, hc_w]
    exact kk
set_option maxHeartbeats 1000000 in
theorem q_piece {p : Program} {l : Launch} {e : Env} {s : State} {m : MethodId} {args : Array Value} {below : List Frame} {meth : Method} {c : Code} {Q : State → Prop} {D : va_G} {A : Nat → Prop} {tys : List (ClassId × FieldType)} {rt : Option FieldType} {cI cP cZ cA cB : ClassId} {b L : Nat} {xs : Nat → Int32} {k n pc : Nat} {lv : List (Nat × Value)} {rest : List Value} {h np hr : Nat} {ad : Nat → Nat} {wet cover sun fs mk fd : Nat → Int32} {pcs : Nat → Option Nat} {pa : Nat → Nat} {P : Nat → Pd} {Y : va_W} {v : Nat} {w : Nat}  (X : Cx p l s m args meth c D A tys rt cI cP cZ cA cB b L xs) (J : JV np wet cover sun P pcs pa) (hv : v < np) (hw : w ≤ 7) {w0 : Int32} (hw0 : w0 = nI w) (hdg : decode cL_law pc = .ok (.invokevirtual 73, 3)) (hcat : (rest.map fun v => v.category).sum ≤ 8) (hk : k + 1 ≤ 605351) (hn : n + 6 ≤ 7285716) (kk : G p l e room_1 s m args below meth c D A s.heap 21 (k + 1) (n + 6) Q (pc + 3) lv (.int (pfact (P v) wet w) :: rest) (Wm cI cP h ad np hr wet cover sun fs mk fd pcs pa P Y)) : G p l e room_1 s m args below meth c D A s.heap 21 k n Q pc lv (.int w0 :: .int (nI v) :: .ref h :: rest) (Wm cI cP h ad np hr wet cover sun fs mk fd pcs pa P Y) := by
  subst hw0
  obtain ⟨hnp, hg, hpw, hown, hwt, hsn, hpc⟩ := id J
  have hc_v : vn (nI v) = v := nI_clamp (by omega)
  have hc_w : vn (nI w) = w := nI_clamp (by omega)
  refine g_callVx (ci := 1) (Cn := RX1) (As := [.int (nI v), .int (nI w)]) (rest := rest) X.C gm0 rfl rfl (c_X1_piece l X.h9 D tys cI cP X.t0 X.t1 h (ad 1) (ad 2) (ad 3) (ad 4) (ad 5) (ad 6) (ad 7) np hr wet cover sun fs mk fd pcs pa P Y hnp hpc hg (nI v) (nI w)) (cwV 2 X.C.ts gL_law_X1_piece rfl rfl rfl (by decide +kernel) ⟨(Nat.le_of_ble_eq_true rfl), (Nat.le_of_ble_eq_true rfl)⟩) rfl rfl hcat hdg hk hn ?_ ?_
  · intro E hE
    have h0 := hE.1
    rw [cdPi_0 hnp hv hw] at h0
    exact absurd h0 (Nat.lt_irrefl 0)
  · intro vq wq hq9
    obtain ⟨-, rfl, rfl⟩ := hq9
    rw [hc_v, hc_w]
    exact kk
set_option maxHeartbeats 1000000 in
theorem q_count {p : Program} {l : Launch} {e : Env} {s : State} {m : MethodId} {args : Array Value} {below : List Frame} {meth : Method} {c : Code} {Q : State → Prop} {D : va_G} {A : Nat → Prop} {tys : List (ClassId × FieldType)} {rt : Option FieldType} {cI cP cZ cA cB : ClassId} {b L : Nat} {xs : Nat → Int32} {k n pc : Nat} {lv : List (Nat × Value)} {rest : List Value} {h np hr : Nat} {ad : Nat → Nat} {wet cover sun fs mk fd : Nat → Int32} {pcs : Nat → Option Nat} {pa : Nat → Nat} {P : Nat → Pd} {Y : va_W} {w : Nat}  (X : Cx p l s m args meth c D A tys rt cI cP cZ cA cB b L xs) (J : JV np wet cover sun P pcs pa) (hw : w ≤ 6) {w0 : Int32} (hw0 : w0 = nI w) (hdg : decode cL_law pc = .ok (.invokevirtual 33, 3)) (hcat : (rest.map fun v => v.category).sum ≤ 8) (hk : k + 1 ≤ 605351) (hn : n + 6 ≤ 7285716) (kk : G p l e room_1 s m args below meth c D A s.heap 21 (k + 1) (n + 6) Q (pc + 3) lv (.int (cntf np hr P wet cover fd w) :: rest) (Wm cI cP h ad np hr wet cover sun fs mk fd pcs pa P Y)) : G p l e room_1 s m args below meth c D A s.heap 21 k n Q pc lv (.int w0 :: .ref h :: rest) (Wm cI cP h ad np hr wet cover sun fs mk fd pcs pa P Y) := by
  subst hw0
  obtain ⟨hnp, hg, hpw, hown, hwt, hsn, hpc⟩ := id J
  have hc_w : vn (nI w) = w := nI_clamp (by omega)
  refine g_callVx (ci := 1) (Cn := RX1) (As := [.int (nI w)]) (rest := rest) X.C gm0 rfl rfl (c_X1_count l X.h9 D tys cI cP X.t0 X.t1 h (ad 1) (ad 2) (ad 3) (ad 4) (ad 5) (ad 6) (ad 7) np hr wet cover sun fs mk fd pcs pa P Y hnp hpc hg (nI w)) (cwV 1 X.C.ts gL_law_X1_count rfl rfl rfl (by decide +kernel) ⟨(Nat.le_of_ble_eq_true rfl), (Nat.le_of_ble_eq_true rfl)⟩) rfl rfl hcat hdg hk hn ?_ ?_
  · intro E hE
    have h0 := hE.1
    rw [cdCo_0 (Nat.le_succ_of_le hw)] at h0
    exact absurd h0 (Nat.lt_irrefl 0)
  · intro vq wq hq9
    obtain ⟨-, rfl, rfl⟩ := hq9
    rw [hc_w, cntW, if_neg (show ¬ w = 7 by omega)]
    exact kk
set_option maxHeartbeats 1000000 in
theorem q_off {p : Program} {l : Launch} {e : Env} {s : State} {m : MethodId} {args : Array Value} {below : List Frame} {meth : Method} {c : Code} {Q : State → Prop} {D : va_G} {A : Nat → Prop} {tys : List (ClassId × FieldType)} {rt : Option FieldType} {cI cP cZ cA cB : ClassId} {b L : Nat} {xs : Nat → Int32} {k n pc : Nat} {lv : List (Nat × Value)} {rest : List Value} {h np hr : Nat} {ad : Nat → Nat} {wet cover sun fs mk fd : Nat → Int32} {pcs : Nat → Option Nat} {pa : Nat → Nat} {P : Nat → Pd} {Y : va_W} {k9 : Nat} {a9 : Nat} {b9 : Nat}  (X : Cx p l s m args meth c D A tys rt cI cP cZ cA cB b L xs) (J : JV np wet cover sun P pcs pa) (hk9 : k9 ≤ 3) (ha9 : a9 ≤ 6) (hb9 : b9 ≤ 6) {k90 : Int32} (hk90 : k90 = nI k9) (hdg : decode cL_law pc = .ok (.invokevirtual 99, 3)) (hcat : (rest.map fun v => v.category).sum ≤ 8) (hk : k + 1 ≤ 605351) (hn : n + 6 ≤ 7285716) (kk : G p l e room_1 s m args below meth c D A s.heap 21 (k + 1) (n + 6) Q (pc + 3) lv (.int (nI (cnt (offB np P cover k9 (nI a9) (nI b9)) 80)) :: rest) (Wm cI cP h ad np hr wet cover sun fs mk fd pcs pa P Y)) : G p l e room_1 s m args below meth c D A s.heap 21 k n Q pc lv (.int (nI b9) :: .int (nI a9) :: .int k90 :: .ref h :: rest) (Wm cI cP h ad np hr wet cover sun fs mk fd pcs pa P Y) := by
  subst hk90
  obtain ⟨hnp, hg, hpw, hown, hwt, hsn, hpc⟩ := id J
  have hc_k9 : vn (nI k9) = k9 := nI_clamp (by omega)
  have hc_a9 : vn (nI a9) = a9 := nI_clamp (by omega)
  have hc_b9 : vn (nI b9) = b9 := nI_clamp (by omega)
  refine g_callVx (ci := 1) (Cn := RX1) (As := [.int (nI k9), .int (nI a9), .int (nI b9)]) (rest := rest) X.C gm0 rfl rfl (c_X1_off l X.h9 D tys cI cP X.t0 X.t1 h (ad 1) (ad 2) (ad 3) (ad 4) (ad 5) (ad 6) (ad 7) np hr wet cover sun fs mk fd pcs pa P Y hnp hpc hg (nI k9) (nI a9) (nI b9)) (cwV 3 X.C.ts gL_law_X1_off rfl rfl rfl (by decide +kernel) ⟨(Nat.le_of_ble_eq_true rfl), (Nat.le_of_ble_eq_true rfl)⟩) rfl rfl hcat hdg hk hn ?_ ?_
  · intro E hE
    have h0 := hE.1
    rw [cdP_0 hk9 ha9 hb9] at h0
    exact absurd h0 (Nat.lt_irrefl 0)
  · intro vq wq hq9
    obtain ⟨-, rfl, rfl⟩ := hq9
    rw [hc_k9]
    exact kk
set_option maxHeartbeats 1000000 in
theorem q_advise {p : Program} {l : Launch} {e : Env} {s : State} {m : MethodId} {args : Array Value} {below : List Frame} {meth : Method} {c : Code} {Q : State → Prop} {D : va_G} {A : Nat → Prop} {tys : List (ClassId × FieldType)} {rt : Option FieldType} {cI cP cZ cA cB : ClassId} {b L : Nat} {xs : Nat → Int32} {k n pc : Nat} {lv : List (Nat × Value)} {rest : List Value} {h np hr : Nat} {ad : Nat → Nat} {wet cover sun fs mk fd : Nat → Int32} {pcs : Nat → Option Nat} {pa : Nat → Nat} {P : Nat → Pd} {Y : va_W} {k9 : Nat} {a9 : Nat} {b9 : Nat}  (X : Cx p l s m args meth c D A tys rt cI cP cZ cA cB b L xs) (J : JV np wet cover sun P pcs pa) (hk9 : k9 ≤ 3) (ha9 : a9 ≤ 6) (hb9 : b9 ≤ 6) (hdg : decode cL_law pc = .ok (.invokevirtual 96, 3)) (hcat : (rest.map fun v => v.category).sum ≤ 8) (hk : k + 1 ≤ 605351) (hn : n + 6 ≤ 7285716) (kk : G p l e room_1 s m args below meth c D A s.heap 21 (k + 1) (n + 6) Q (pc + 3) lv (.int ((advS np P wet cover k9 (nI a9) (nI b9) np).1) :: rest) (Wm cI cP h ad np hr wet cover sun fs mk fd pcs pa P Y)) : G p l e room_1 s m args below meth c D A s.heap 21 k n Q pc lv (.int (nI b9) :: .int (nI a9) :: .int (nI k9) :: .ref h :: rest) (Wm cI cP h ad np hr wet cover sun fs mk fd pcs pa P Y) := by
  obtain ⟨hnp, hg, hpw, hown, hwt, hsn, hpc⟩ := id J
  have hc_k9 : vn (nI k9) = k9 := nI_clamp (by omega)
  have hc_a9 : vn (nI a9) = a9 := nI_clamp (by omega)
  have hc_b9 : vn (nI b9) = b9 := nI_clamp (by omega)
  refine g_callVx (ci := 1) (Cn := RX1) (As := [.int (nI k9), .int (nI a9), .int (nI b9)]) (rest := rest) X.C gm0 rfl rfl (c_X1_advise l X.h9 D tys cI cP X.t0 X.t1 h (ad 1) (ad 2) (ad 3) (ad 4) (ad 5) (ad 6) (ad 7) np hr wet cover sun fs mk fd pcs pa P Y hnp hpc hg (nI k9) (nI a9) (nI b9)) (cwV 3 X.C.ts gL_law_X1_advise rfl rfl rfl (by decide +kernel) ⟨(Nat.le_of_ble_eq_true rfl), (Nat.le_of_ble_eq_true rfl)⟩) rfl rfl hcat hdg hk hn ?_ ?_
  · intro E hE
    have h0 := hE.1
    rw [cdP_0 hk9 ha9 hb9] at h0
    exact absurd h0 (Nat.lt_irrefl 0)
  · intro vq wq hq9
    obtain ⟨-, rfl, rfl⟩ := hq9
    rw [hc_k9]
    exact kk
set_option maxHeartbeats 1000000 in
theorem q_mends {p : Program} {l : Launch} {e : Env} {s : State} {m : MethodId} {args : Array Value} {below : List Frame} {meth : Method} {c : Code} {Q : State → Prop} {D : va_G} {A : Nat → Prop} {tys : List (ClassId × FieldType)} {rt : Option FieldType} {cI cP cZ cA cB : ClassId} {b L : Nat} {xs : Nat → Int32} {k n pc : Nat} {lv : List (Nat × Value)} {rest : List Value} {h np hr : Nat} {ad : Nat → Nat} {wet cover sun fs mk fd : Nat → Int32} {pcs : Nat → Option Nat} {pa : Nat → Nat} {P : Nat → Pd} {Y : va_W} {x : Nat} {y : Nat} {ac : Bool} (X : Cx p l s m args meth c D A tys rt cI cP cZ cA cB b L xs) (J : JV np wet cover sun P pcs pa) (hx : x ≤ 9) (hy : y ≤ 7) {ac0 : Int32} (hac0 : ac0 = gz ac) (hdg : decode cL_law pc = .ok (.invokevirtual 92, 3)) (hcat : (rest.map fun v => v.category).sum ≤ 8) (hk : k + 1 ≤ 605351) (hn : n + 6 ≤ 7285716) (kk : ∀ mk2 fd2, G p l e room_1 s m args below meth c D A s.heap 21 (k + 1) (n + 6) Q (pc + 3) lv (.int (nI (pfm (mgp cover (nI x) (nI y) (fun _ => 0) fd).1 ac)) :: rest) (Wm cI cP h ad np hr wet cover sun fs mk2 fd2 pcs pa P Y)) : G p l e room_1 s m args below meth c D A s.heap 21 k n Q pc lv (.int ac0 :: .int (nI y) :: .int (nI x) :: .ref h :: rest) (Wm cI cP h ad np hr wet cover sun fs mk fd pcs pa P Y) := by
  subst hac0
  obtain ⟨hnp, hg, hpw, hown, hwt, hsn, hpc⟩ := id J
  have hc_x : vn (nI x) = x := nI_clamp (by omega)
  have hc_y : vn (nI y) = y := nI_clamp (by omega)
  refine g_callVx (ci := 1) (Cn := RX1) (As := [.int (nI x), .int (nI y), .int (gz ac)]) (rest := rest) X.C gm0 rfl rfl (c_X1_mends l X.h9 D tys cI cP X.t0 X.t1 h (ad 1) (ad 2) (ad 3) (ad 4) (ad 5) (ad 6) (ad 7) np hr wet cover sun fs mk fd pcs pa P Y hnp hpc hg (nI x) (nI y) ac) (cwV 3 X.C.ts gL_law_X1_mends rfl rfl rfl (by decide +kernel) ⟨(Nat.le_of_ble_eq_true rfl), (Nat.le_of_ble_eq_true rfl)⟩) rfl rfl hcat hdg hk hn ?_ ?_
  · intro E hE
    have h0 := hE.1
    rw [cdO_0 hx hy] at h0
    exact absurd h0 (Nat.lt_irrefl 0)
  · intro vq wq hq9
    obtain ⟨-, rfl, rfl⟩ := hq9
    exact kk _ _
set_option maxHeartbeats 1000000 in
theorem q_gap {p : Program} {l : Launch} {e : Env} {s : State} {m : MethodId} {args : Array Value} {below : List Frame} {meth : Method} {c : Code} {Q : State → Prop} {D : va_G} {A : Nat → Prop} {tys : List (ClassId × FieldType)} {rt : Option FieldType} {cI cP cZ cA cB : ClassId} {b L : Nat} {xs : Nat → Int32} {k n pc : Nat} {lv : List (Nat × Value)} {rest : List Value} {h np hr : Nat} {ad : Nat → Nat} {wet cover sun fs mk fd : Nat → Int32} {pcs : Nat → Option Nat} {pa : Nat → Nat} {P : Nat → Pd} {Y : va_W} {x : Nat} {y : Nat}  (X : Cx p l s m args meth c D A tys rt cI cP cZ cA cB b L xs) (J : JV np wet cover sun P pcs pa) (hx : x ≤ 9) (hy : y ≤ 7) (hdg : decode cL_law pc = .ok (.invokevirtual 89, 3)) (hcat : (rest.map fun v => v.category).sum ≤ 8) (hk : k + 1 ≤ 605351) (hn : n + 6 ≤ 7285716) (kk : ∀ mk2 fd2, G p l e room_1 s m args below meth c D A s.heap 21 (k + 1) (n + 6) Q (pc + 3) lv (.int (nI (mgp cover (nI x) (nI y) (fun _ => 0) fd).2.2) :: rest) (Wm cI cP h ad np hr wet cover sun fs mk2 fd2 pcs pa P Y)) : G p l e room_1 s m args below meth c D A s.heap 21 k n Q pc lv (.int (nI y) :: .int (nI x) :: .ref h :: rest) (Wm cI cP h ad np hr wet cover sun fs mk fd pcs pa P Y) := by
  obtain ⟨hnp, hg, hpw, hown, hwt, hsn, hpc⟩ := id J
  have hc_x : vn (nI x) = x := nI_clamp (by omega)
  have hc_y : vn (nI y) = y := nI_clamp (by omega)
  refine g_callVx (ci := 1) (Cn := RX1) (As := [.int (nI x), .int (nI y)]) (rest := rest) X.C gm0 rfl rfl (c_X1_gap l X.h9 D tys cI cP X.t0 X.t1 h (ad 1) (ad 2) (ad 3) (ad 4) (ad 5) (ad 6) (ad 7) np hr wet cover sun fs mk fd pcs pa P Y hnp hpc hg (nI x) (nI y)) (cwV 2 X.C.ts gL_law_X1_gap rfl rfl rfl (by decide +kernel) ⟨(Nat.le_of_ble_eq_true rfl), (Nat.le_of_ble_eq_true rfl)⟩) rfl rfl hcat hdg hk hn ?_ ?_
  · intro E hE
    have h0 := hE.1
    rw [cdO_0 hx hy] at h0
    exact absurd h0 (Nat.lt_irrefl 0)
  · intro vq wq hq9
    obtain ⟨-, rfl, rfl⟩ := hq9
    exact kk _ _
set_option maxHeartbeats 1000000 in
theorem q_pass {p : Program} {l : Launch} {e : Env} {s : State} {m : MethodId} {args : Array Value} {below : List Frame} {meth : Method} {c : Code} {Q : State → Prop} {D : va_G} {A : Nat → Prop} {tys : List (ClassId × FieldType)} {rt : Option FieldType} {cI cP cZ cA cB : ClassId} {b L : Nat} {xs : Nat → Int32} {k n pc : Nat} {lv : List (Nat × Value)} {rest : List Value} {h np hr : Nat} {ad : Nat → Nat} {wet cover sun fs mk fd : Nat → Int32} {pcs : Nat → Option Nat} {pa : Nat → Nat} {P : Nat → Pd} {Y : va_W} {v : Nat}  (X : Cx p l s m args meth c D A tys rt cI cP cZ cA cB b L xs) (J : JV np wet cover sun P pcs pa) (hv1 : 1 ≤ v) (hv : v ≤ 100) (hhr : hr < 2 ^ 29) (hdg : decode cL_law pc = .ok (.invokevirtual 29, 3)) (hcat : (rest.map fun v => v.category).sum ≤ 8) (hk : k + 1 ≤ 605351) (hn : n + 6 ≤ 7285716) (kk : G p l e room_1 s m args below meth c D A s.heap 21 (k + 1) (n + 6) Q (pc + 3) lv (.int (nI (cnt (fun k => lsp (P k) (wetN wet cover sun hr v)) np)) :: rest) (Wm cI cP h ad np ((hr + v)) (wetN wet cover sun hr v) cover sun fs mk fd pcs pa P Y)) : G p l e room_1 s m args below meth c D A s.heap 21 k n Q pc lv (.int (nI v) :: .ref h :: rest) (Wm cI cP h ad np hr wet cover sun fs mk fd pcs pa P Y) := by
  obtain ⟨hnp, hg, hpw, hown, hwt, hsn, hpc⟩ := id J
  have hc_v : vn (nI v) = v := nI_clamp (by omega)
  refine g_callVx (ci := 1) (Cn := RX1) (As := [.int (nI v)]) (rest := rest) X.C gm0 rfl rfl (c_X1_pass l X.h9 D tys cI cP X.t0 X.t1 h (ad 1) (ad 2) (ad 3) (ad 4) (ad 5) (ad 6) (ad 7) np hr wet cover sun fs mk fd pcs pa P Y hnp hpc hg (nI v) hhr) (cwV 1 X.C.ts gL_law_X1_pass rfl rfl rfl (by decide +kernel) ⟨(Nat.le_of_ble_eq_true rfl), (Nat.le_of_ble_eq_true rfl)⟩) rfl rfl hcat hdg hk hn ?_ ?_
  · intro E hE
    have h0 := hE.1
    rw [cdPa_0 hv1 hv] at h0
    exact absurd h0 (Nat.lt_irrefl 0)
  · intro vq wq hq9
    obtain ⟨-, rfl, rfl⟩ := hq9
    rw [hc_v]
    exact kk
set_option maxHeartbeats 1000000 in
theorem q_loose {p : Program} {l : Launch} {e : Env} {s : State} {m : MethodId} {args : Array Value} {below : List Frame} {meth : Method} {c : Code} {Q : State → Prop} {D : va_G} {A : Nat → Prop} {tys : List (ClassId × FieldType)} {rt : Option FieldType} {cI cP cZ cA cB : ClassId} {b L : Nat} {xs : Nat → Int32} {k n pc : Nat} {lv : List (Nat × Value)} {rest : List Value} {h np hr : Nat} {ad : Nat → Nat} {wet cover sun fs mk fd : Nat → Int32} {pcs : Nat → Option Nat} {pa : Nat → Nat} {P : Nat → Pd} {Y : va_W} {v : Nat}  (X : Cx p l s m args meth c D A tys rt cI cP cZ cA cB b L xs) (J : JV np wet cover sun P pcs pa) (hv : v < np) (hhr : hr < 2 ^ 29) (hdg : decode cL_law pc = .ok (.invokevirtual 86, 3)) (hcat : (rest.map fun v => v.category).sum ≤ 8) (hk : k + 1 ≤ 605351) (hn : n + 6 ≤ 7285716) (kk : ∀ fs2, G p l e room_1 s m args below meth c D A s.heap 21 (k + 1) (n + 6) Q (pc + 3) lv (.int (fstI (fun i => !lsp (P v) (wetN wet cover sun hr i)) 201 0) :: rest) (Wm cI cP h ad np hr wet cover sun fs2 mk fd pcs pa P Y)) : G p l e room_1 s m args below meth c D A s.heap 21 k n Q pc lv (.int (nI v) :: .ref h :: rest) (Wm cI cP h ad np hr wet cover sun fs mk fd pcs pa P Y) := by
  obtain ⟨hnp, hg, hpw, hown, hwt, hsn, hpc⟩ := id J
  have hc_v : vn (nI v) = v := nI_clamp (by omega)
  refine g_callVx (ci := 1) (Cn := RX1) (As := [.int (nI v)]) (rest := rest) X.C gm0 rfl rfl (c_X1_loose l X.h9 D tys cI cP X.t0 X.t1 h (ad 1) (ad 2) (ad 3) (ad 4) (ad 5) (ad 6) (ad 7) np hr wet cover sun fs mk fd pcs pa P Y hnp hpc hg (nI v) hhr) (cwV 1 X.C.ts gL_law_X1_loose rfl rfl rfl (by decide +kernel) ⟨(Nat.le_of_ble_eq_true rfl), (Nat.le_of_ble_eq_true rfl)⟩) rfl rfl hcat hdg hk hn ?_ ?_
  · intro E hE
    have h0 := hE.1
    rw [cdLo_0 hnp hv] at h0
    exact absurd h0 (Nat.lt_irrefl 0)
  · intro vq wq hq9
    obtain ⟨-, rfl, fs2, rfl⟩ := hq9
    rw [hc_v]
    exact kk _
set_option maxHeartbeats 1000000 in
theorem q_dry {p : Program} {l : Launch} {e : Env} {s : State} {m : MethodId} {args : Array Value} {below : List Frame} {meth : Method} {c : Code} {Q : State → Prop} {D : va_G} {A : Nat → Prop} {tys : List (ClassId × FieldType)} {rt : Option FieldType} {cI cP cZ cA cB : ClassId} {b L : Nat} {xs : Nat → Int32} {k n pc : Nat} {lv : List (Nat × Value)} {rest : List Value} {h np hr : Nat} {ad : Nat → Nat} {wet cover sun fs mk fd : Nat → Int32} {pcs : Nat → Option Nat} {pa : Nat → Nat} {P : Nat → Pd} {Y : va_W}   (X : Cx p l s m args meth c D A tys rt cI cP cZ cA cB b L xs) (J : JV np wet cover sun P pcs pa) (hhr : hr < 2 ^ 29) (hdg : decode cL_law pc = .ok (.invokevirtual 80, 3)) (hcat : (rest.map fun v => v.category).sum ≤ 8) (hk : k + 0 ≤ 605351) (hn : n + 0 ≤ 7285716) (kk : ∀ fs2, G p l e room_1 s m args below meth c D A s.heap 21 k n Q (pc + 3) lv (.int (fstI (dryB wet cover sun hr) 201 0) :: rest) (Wm cI cP h ad np hr wet cover sun fs2 mk fd pcs pa P Y)) : G p l e room_1 s m args below meth c D A s.heap 21 k n Q pc lv (.ref h :: rest) (Wm cI cP h ad np hr wet cover sun fs mk fd pcs pa P Y) := by
  obtain ⟨hnp, hg, hpw, hown, hwt, hsn, hpc⟩ := id J
  refine g_callV (ci := 1) (Cn := RX1) (As := []) (rest := rest) X.C gm0 rfl rfl (c_X1_dry l D tys cI cP X.t0 X.t1 h (ad 1) (ad 2) (ad 3) (ad 4) (ad 5) (ad 6) (ad 7) np hr wet cover sun fs mk fd pcs pa P Y hnp hpc hg hhr) (cwV 0 X.C.ts gL_law_X1_dry rfl rfl rfl (by decide +kernel) ⟨(Nat.le_of_ble_eq_true rfl), (Nat.le_of_ble_eq_true rfl)⟩) rfl rfl hcat hdg (by exact hk) (by exact hn) ?_
  · intro vq wq hq9
    obtain ⟨rfl, fs2, rfl⟩ := hq9
    exact kk _
set_option maxHeartbeats 1000000 in
theorem q_share {p : Program} {l : Launch} {e : Env} {s : State} {m : MethodId} {args : Array Value} {below : List Frame} {meth : Method} {c : Code} {Q : State → Prop} {D : va_G} {A : Nat → Prop} {tys : List (ClassId × FieldType)} {rt : Option FieldType} {cI cP cZ cA cB : ClassId} {b L : Nat} {xs : Nat → Int32} {k n pc : Nat} {lv : List (Nat × Value)} {rest : List Value} {h np hr : Nat} {ad : Nat → Nat} {wet cover sun fs mk fd : Nat → Int32} {pcs : Nat → Option Nat} {pa : Nat → Nat} {P : Nat → Pd} {Y : va_W}   (X : Cx p l s m args meth c D A tys rt cI cP cZ cA cB b L xs) (J : JV np wet cover sun P pcs pa) (hdg : decode cL_law pc = .ok (.invokevirtual 102, 3)) (hcat : (rest.map fun v => v.category).sum ≤ 8) (hk : k + 0 ≤ 605351) (hn : n + 0 ≤ 7285716) (kk : G p l e room_1 s m args below meth c D A s.heap 21 k n Q (pc + 3) lv (.double (shareD (cnt (fun c => decide (0 ≤ cover c)) 80)) :: rest) (Wm cI cP h ad np hr wet cover sun fs mk fd pcs pa P Y)) : G p l e room_1 s m args below meth c D A s.heap 21 k n Q pc lv (.ref h :: rest) (Wm cI cP h ad np hr wet cover sun fs mk fd pcs pa P Y) := by
  obtain ⟨hnp, hg, hpw, hown, hwt, hsn, hpc⟩ := id J
  refine g_callV (ci := 1) (Cn := RX1) (As := []) (rest := rest) X.C gm0 rfl rfl (c_X1_share l D tys cI cP X.t0 X.t1 h (ad 1) (ad 2) (ad 3) (ad 4) (ad 5) (ad 6) (ad 7) np hr wet cover sun fs mk fd pcs pa P Y hnp hpc hg) (cwV 0 X.C.ts gL_law_X1_share rfl rfl rfl (by decide +kernel) ⟨(Nat.le_of_ble_eq_true rfl), (Nat.le_of_ble_eq_true rfl)⟩) rfl rfl hcat hdg (by exact hk) (by exact hn) ?_
  · intro vq wq hq9
    obtain ⟨rfl, rfl⟩ := hq9
    exact kk
set_option maxHeartbeats 1000000 in
theorem q_digest {p : Program} {l : Launch} {e : Env} {s : State} {m : MethodId} {args : Array Value} {below : List Frame} {meth : Method} {c : Code} {Q : State → Prop} {D : va_G} {A : Nat → Prop} {tys : List (ClassId × FieldType)} {rt : Option FieldType} {cI cP cZ cA cB : ClassId} {b L : Nat} {xs : Nat → Int32} {k n pc : Nat} {lv : List (Nat × Value)} {rest : List Value} {h np hr : Nat} {ad : Nat → Nat} {wet cover sun fs mk fd : Nat → Int32} {pcs : Nat → Option Nat} {pa : Nat → Nat} {P : Nat → Pd} {Y : va_W}   (X : Cx p l s m args meth c D A tys rt cI cP cZ cA cB b L xs) (J : JV np wet cover sun P pcs pa) (hdg : decode cL_law pc = .ok (.invokevirtual 76, 3)) (hcat : (rest.map fun v => v.category).sum ≤ 8) (hk : k + 0 ≤ 605351) (hn : n + 0 ≤ 7285716) (kk : ∀ mk2 fd2, G p l e room_1 s m args below meth c D A s.heap 21 k n Q (pc + 3) lv (.long (dgT np hr P wet cover sun fd) :: rest) (Wm cI cP h ad np hr wet cover sun fs mk2 fd2 pcs pa P Y)) : G p l e room_1 s m args below meth c D A s.heap 21 k n Q pc lv (.ref h :: rest) (Wm cI cP h ad np hr wet cover sun fs mk fd pcs pa P Y) := by
  obtain ⟨hnp, hg, hpw, hown, hwt, hsn, hpc⟩ := id J
  refine g_callV (ci := 1) (Cn := RX1) (As := []) (rest := rest) X.C gm0 rfl rfl (c_X1_digest l D tys cI cP X.t0 X.t1 h (ad 1) (ad 2) (ad 3) (ad 4) (ad 5) (ad 6) (ad 7) np hr wet cover sun fs mk fd pcs pa P Y hnp hpc hg) (cwV 0 X.C.ts gL_law_X1_digest rfl rfl rfl (by decide +kernel) ⟨(Nat.le_of_ble_eq_true rfl), (Nat.le_of_ble_eq_true rfl)⟩) rfl rfl hcat hdg (by exact hk) (by exact hn) ?_
  · intro vq wq hq9
    obtain ⟨rfl, mk2, fd2, rfl⟩ := hq9
    exact kk _ _
set_option maxHeartbeats 1000000 in
theorem q_turn {p : Program} {l : Launch} {e : Env} {s : State} {m : MethodId} {args : Array Value} {below : List Frame} {meth : Method} {c : Code} {Q : State → Prop} {D : va_G} {A : Nat → Prop} {tys : List (ClassId × FieldType)} {rt : Option FieldType} {cI cP cZ cA cB : ClassId} {b L : Nat} {xs : Nat → Int32} {k n pc : Nat} {lv : List (Nat × Value)} {rest : List Value} {h np hr : Nat} {ad : Nat → Nat} {wet cover sun fs mk fd : Nat → Int32} {pcs : Nat → Option Nat} {pa : Nat → Nat} {P : Nat → Pd} {Y : va_W} {v : Nat}  (X : Cx p l s m args meth c D A tys rt cI cP cZ cA cB b L xs) (J : JV np wet cover sun P pcs pa) (hv : v < np) (hcd : cdTu np P wet cover (nI v) = 0) (hdg : decode cL_law pc = .ok (.invokevirtual 52, 3)) (hcat : (rest.map fun v => v.category).sum ≤ 8) (hk : k + 1 ≤ 605351) (hn : n + 6 ≤ 7285716) (kk : G p l e room_1 s m args below meth c D A s.heap 21 (k + 1) (n + 6) Q (pc + 3) lv (.int (nI (ql (P v))) :: rest) (Wtu cI cP h ad np hr wet cover sun fs mk fd pcs pa P Y v)) : G p l e room_1 s m args below meth c D A s.heap 21 k n Q pc lv (.int (nI v) :: .ref h :: rest) (Wm cI cP h ad np hr wet cover sun fs mk fd pcs pa P Y) := by
  obtain ⟨hnp, hg, hpw, hown, hwt, hsn, hpc⟩ := id J
  have hc_v : vn (nI v) = v := nI_clamp (by omega)
  refine g_callVx (ci := 1) (Cn := RX1) (As := [.int (nI v)]) (rest := rest) X.C gm0 rfl rfl (c_X1_turn l X.h9 D tys cI cP X.t0 X.t1 h (ad 1) (ad 2) (ad 3) (ad 4) (ad 5) (ad 6) (ad 7) np hr wet cover sun fs mk fd pcs pa P Y hnp hpc hg (nI v)) (cwV 1 X.C.ts gL_law_X1_turn rfl rfl rfl (by decide +kernel) ⟨(Nat.le_of_ble_eq_true rfl), (Nat.le_of_ble_eq_true rfl)⟩) rfl rfl hcat hdg hk hn ?_ ?_
  · intro E hE
    have h0 := hE.1
    rw [hcd] at h0
    exact absurd h0 (Nat.lt_irrefl 0)
  · intro vq wq hq9
    obtain ⟨-, rfl, rfl⟩ := hq9
    rw [hc_v]
    exact kk
set_option maxHeartbeats 1000000 in
theorem q_below {p : Program} {l : Launch} {e : Env} {s : State} {m : MethodId} {args : Array Value} {below : List Frame} {meth : Method} {c : Code} {Q : State → Prop} {D : va_G} {A : Nat → Prop} {tys : List (ClassId × FieldType)} {rt : Option FieldType} {cI cP cZ cA cB : ClassId} {b L : Nat} {xs : Nat → Int32} {W : va_W} {k n pc : Nat} {lv : List (Nat × Value)} {rest : List Value} (X : Cx p l s m args meth c D A tys rt cI cP cZ cA cB b L xs) {v : Int32} {j : Nat} {j0 : Int32} (hj0 : j0 = nI j) (h0 : 0 < j) (hj : j < 2 ^ 31) (hdg : decode cL_law pc = .ok (.invokestatic 18, 3)) (hcat : (rest.map fun v => v.category).sum ≤ 8) (hk : k ≤ 605351) (hn : n ≤ 7285716) (kk : ∀ i, i < j → G p l e room_1 s m args below meth c D A s.heap 21 k n Q (pc + 3) lv (.int (nI i) :: rest) W) : G p l e room_1 s m args below meth c D A s.heap 21 k n Q pc lv (.int j0 :: .int v :: rest) W := by
  subst hj0
  refine g_callS (As := [.int v, .int (nI j)]) (rest := rest) X.C (c_L_below l D tys W v j h0 hj) (va_cwS 2 X.C.ts gL_law_L_below rfl rfl rfl (by decide +kernel) ⟨(Nat.le_of_ble_eq_true rfl), (Nat.le_of_ble_eq_true rfl)⟩) rfl rfl hcat hdg (by exact hk) (by exact hn) ?_
  rintro vq wq ⟨⟨i, hi, rfl⟩, rfl⟩
  exact kk i hi
set_option maxHeartbeats 1000000 in
theorem q_cellL {p : Program} {l : Launch} {e : Env} {s : State} {m : MethodId} {args : Array Value} {below : List Frame} {meth : Method} {c : Code} {Q : State → Prop} {D : va_G} {A : Nat → Prop} {tys : List (ClassId × FieldType)} {rt : Option FieldType} {cI cP cZ cA cB : ClassId} {b L : Nat} {xs : Nat → Int32} {W : va_W} {k n pc : Nat} {lv : List (Nat × Value)} {rest : List Value} (X : Cx p l s m args meth c D A tys rt cI cP cZ cA cB b L xs) {j : Nat} {j0 : Int32} (hj0 : j0 = nI j) (hj : j < 2 ^ 30) (hdg : decode cL_law pc = .ok (.invokestatic 12, 3)) (hcat : (rest.map fun v => v.category).sum ≤ 8) (hk : k ≤ 605351) (hn : n ≤ 7285716) (kk : ∀ i, G p l e room_1 s m args below meth c D A s.heap 21 k n Q (pc + 3) lv (.int i :: rest) W) : G p l e room_1 s m args below meth c D A s.heap 21 k n Q pc lv (.int j0 :: .ref b :: rest) W := by
  subst hj0
  refine g_callSs (As := [.ref b, .int (nI j)]) (rest := rest) X.C X.X X.bl X.bA (c_L_cell l D tys W b L xs X.L j hj) (va_cwS 2 X.C.ts gL_law_L_cell rfl rfl rfl (by decide +kernel) ⟨(Nat.le_of_ble_eq_true rfl), (Nat.le_of_ble_eq_true rfl)⟩) rfl rfl hcat hdg (by exact hk) (by exact hn) ?_
  rintro vq wq ⟨⟨i, rfl⟩, rfl⟩
  exact kk i
set_option maxHeartbeats 1000000 in
theorem q_press {p : Program} {l : Launch} {e : Env} {s : State} {m : MethodId} {args : Array Value} {below : List Frame} {meth : Method} {c : Code} {Q : State → Prop} {D : va_G} {A : Nat → Prop} {tys : List (ClassId × FieldType)} {rt : Option FieldType} {cI cP cZ cA cB : ClassId} {b L : Nat} {xs : Nat → Int32} {k n pc : Nat} {lv : List (Nat × Value)} {rest : List Value} {h np hr : Nat} {ad : Nat → Nat} {wet cover sun fs mk fd : Nat → Int32} {pcs : Nat → Option Nat} {pa : Nat → Nat} {P : Nat → Pd} {Y : va_W} (X : Cx p l s m args meth c D A tys rt cI cP cZ cA cB b L xs) (J : JV np wet cover sun P pcs pa) {x y ln f9 b9 : Nat} {ac : Bool} (hx : x ≤ 9) (hy : y ≤ 7) (hl1 : 1 ≤ ln) (hl3 : ln ≤ 3) (hf : f9 ≤ 6) (hb : b9 ≤ 6) {ac0 : Int32} (hac0 : ac0 = gz ac) (hdg : decode cL_law pc = .ok (.invokestatic 40, 3)) (hcat : (rest.map fun v => v.category).sum ≤ 8) (hk : k + 2 ≤ 605351) (hn : n + 14 ≤ 7285716)
    (k1 : ∀ q, cdPr np wet cover (nI x) (nI y) (nI ln) ac (nI f9) (nI b9) = 0 → G p l e room_1 s m args below meth c D A s.heap 21 (k + 2) (n + 14) Q (pc + 3) lv (.int (nI np) :: rest) (Wm cI cP h ad (np + 1) hr wet (setL cover (pcl (pPV x y ln f9 b9 ac)) (nI np) ln) sun fs mk fd (va_up pcs np (some q)) (va_up pa np q) (pup P np (pPV x y ln f9 b9 ac)) Y))
    (k2 : G p l e room_1 s m args below meth c D A s.heap 21 (k + 2) (n + 14) Q (pc + 3) lv (.int (-1) :: rest) (Wm cI cP h ad np hr wet cover sun fs mk fd pcs pa P Y)) : G p l e room_1 s m args below meth c D A s.heap 21 k n Q pc lv (.int (nI b9) :: .int (nI f9) :: .int ac0 :: .int (nI ln) :: .int (nI y) :: .int (nI x) :: .ref h :: rest) (Wm cI cP h ad np hr wet cover sun fs mk fd pcs pa P Y) := by
  subst hac0
  refine g_callSW (As := [.ref h, .int (nI x), .int (nI y), .int (nI ln), .int (gz ac), .int (nI f9), .int (nI b9)]) (rest := rest) X.C (c_L_press l X.h9 D tys cI cP X.t0 X.t1 h ad np hr wet cover sun fs mk fd pcs pa P Y J x y ln f9 b9 ac hx hy hl1 hl3 hf hb) (vx_cwSW 7 X.C.ts gL_law_L_press rfl rfl rfl (by decide +kernel) ⟨(Nat.le_of_ble_eq_true rfl), (Nat.le_of_ble_eq_true rfl)⟩) rfl rfl hcat hdg hk hn ?_
  intro vq wq hq9
  rcases hq9 with ⟨hcd, rfl, q, rfl⟩ | ⟨rfl, rfl⟩
  · exact k1 q hcd
  · exact k2
set_option maxHeartbeats 1000000 in
theorem q_act {p : Program} {l : Launch} {e : Env} {s : State} {m : MethodId} {args : Array Value} {below : List Frame} {meth : Method} {c : Code} {Q : State → Prop} {D : va_G} {A : Nat → Prop} {tys : List (ClassId × FieldType)} {rt : Option FieldType} {cI cP cZ cA cB : ClassId} {b L : Nat} {xs : Nat → Int32} {k n pc : Nat} {lv : List (Nat × Value)} {rest : List Value} {h np hr : Nat} {ad : Nat → Nat} {wet cover sun fs mk fd : Nat → Int32} {pcs : Nat → Option Nat} {pa : Nat → Nat} {P : Nat → Pd} {Y : va_W} (X : Cx p l s m args meth c D A tys rt cI cP cZ cA cB b L xs) (J : JV np wet cover sun P pcs pa) {v a9 : Nat} (hv : v < np) (ha : a9 < 2 ^ 31) {a0 : Int32} (ha0 : a0 = nI a9) (hdg : decode cL_law pc = .ok (.invokestatic 36, 3)) (hcat : (rest.map fun v => v.category).sum ≤ 8) (hk : k + 1 ≤ 605351) (hn : n + 6 ≤ 7285716)
    (k1 : a9 < 2 → cdFl np P wet (nI v) = 0 → G p l e room_1 s m args below meth c D A s.heap 21 (k + 1) (n + 6) Q (pc + 3) lv (.int (shw (flp (P v))) :: rest) (Wfl cI cP h ad np hr wet cover sun fs mk fd pcs pa P Y v))
    (k2 : a9 = 2 → cdTu np P wet cover (nI v) = 0 → G p l e room_1 s m args below meth c D A s.heap 21 (k + 1) (n + 6) Q (pc + 3) lv (.int (nI (ql (P v))) :: rest) (Wtu cI cP h ad np hr wet cover sun fs mk fd pcs pa P Y v))
    (k3 : 2 < a9 → cdTa np P (nI v) = 0 → G p l e room_1 s m args below meth c D A s.heap 21 (k + 1) (n + 6) Q (pc + 3) lv (.int (gz (lsp (P v) wet)) :: rest) (Wta cI cP h ad np hr wet cover sun fs mk fd pcs pa P Y v))
    (k4 : (a9 < 2 → cdFl np P wet (nI v) = 2) → (a9 = 2 → cdTu np P wet cover (nI v) = 2) → (2 < a9 → cdTa np P (nI v) = 2) → G p l e room_1 s m args below meth c D A s.heap 21 (k + 1) (n + 6) Q (pc + 3) lv (.int (-1) :: rest) (Wm cI cP h ad np hr wet cover sun fs mk fd pcs pa P Y)) : G p l e room_1 s m args below meth c D A s.heap 21 k n Q pc lv (.int a0 :: .int (nI v) :: .ref h :: rest) (Wm cI cP h ad np hr wet cover sun fs mk fd pcs pa P Y) := by
  subst ha0
  refine g_callSW (As := [.ref h, .int (nI v), .int (nI a9)]) (rest := rest) X.C (c_L_act l X.h9 D tys cI cP X.t0 X.t1 h ad np hr wet cover sun fs mk fd pcs pa P Y J v a9 hv ha) (vx_cwSW 3 X.C.ts gL_law_L_act rfl rfl rfl (by decide +kernel) ⟨(Nat.le_of_ble_eq_true rfl), (Nat.le_of_ble_eq_true rfl)⟩) rfl rfl hcat hdg hk hn ?_
  intro vq wq hq9
  rcases hq9 with ⟨h1, h2, rfl, rfl⟩ | ⟨h1, h2, rfl, rfl⟩ | ⟨h1, h2, rfl, rfl⟩ | ⟨h1, h2, h3, rfl, rfl⟩
  · exact k1 h1 h2
  · exact k2 h1 h2
  · exact k3 h1 h2
  · exact k4 h1 h2 h3
