theorem k_X1_countFact_inX1 : ∀ w ∈ wsX10, w ∈ wsX1_countFact := by decide +kernel
theorem k_X1_countFact_1 : Cond.fieldLink RX1 181 "WetMosaic" "hour" "I" ∈ wsX1_countFact := by decide +kernel
theorem k_X1_countFact_2 : Cond.fieldLink RX1 74 "WetMosaic" "pressed" "I" ∈ wsX1_countFact := by decide +kernel
theorem k_X1_countFact_3 : Cond.fieldLink RX1 9 "WetMosaic" "wet" "[I" ∈ wsX1_countFact := by decide +kernel
theorem k_X1_countFact_4 : Cond.fieldLink RX1 13 "WetMosaic" "cover" "[I" ∈ wsX1_countFact := by decide +kernel
set_option maxHeartbeats 4000000 in
set_option maxRecDepth 100000 in
theorem c_X1_countFact (l : Launch) (D : va_G) (tys : List (ClassId × FieldType)) (cI cP : ClassId) (ht0 : tys[0]? = some (cI, .int)) (ht1 : tys[1]? = some (cP, .object RX0)) (h a1 a2 a3 a4 a5 a6 a7 np hr : Nat) (wet cover sun fs mk fd : Nat → Int32) (pcs : Nat → Option Nat) (pa : Nat → Nat) (P : Nat → Pd) (Y : va_W) (hnp : np ≤ 100) (hpc : ∀ k, k < np → pcs k = some (pa k)) (hg : Pok np P) (w : Nat) (hw : w ≤ 7) : gM l yX1_countFact wsX1_countFact ({ frames := 5, cells := 0, slots := 0, locals := 116 } : Room) D tys [.ref h, .int (nI w)] ((h, .inr (1, [.ref a1, .ref a2, .ref a3, .ref a4, .int (nI np), .int (nI hr), .ref a5, .ref a6, .ref a7])) :: (a1, .inl (cI, 80, .inl (wet))) :: (a2, .inl (cI, 80, .inl (cover))) :: (a3, .inl (cI, 8, .inl (sun))) :: (a4, .inl (cP, 100, .inr (.inr (.inr (.inr (pcs)))))) :: (a5, .inl (cI, 80, .inl (fs))) :: (a6, .inl (cI, 80, .inl (mk))) :: (a7, .inl (cI, 80, .inl (fd))) :: (plist pa P np ++ Y)) (gIs (some (.int (cntf np hr P wet cover fd w))) ((h, .inr (1, [.ref a1, .ref a2, .ref a3, .ref a4, .int (nI np), .int (nI hr), .ref a5, .ref a6, .ref a7])) :: (a1, .inl (cI, 80, .inl (wet))) :: (a2, .inl (cI, 80, .inl (cover))) :: (a3, .inl (cI, 8, .inl (sun))) :: (a4, .inl (cP, 100, .inr (.inr (.inr (.inr (pcs)))))) :: (a5, .inl (cI, 80, .inl (fs))) :: (a6, .inl (cI, 80, .inl ((cntW cover mk fd w).1))) :: (a7, .inl (cI, 80, .inl ((cntW cover mk fd w).2))) :: (plist pa P np ++ Y))) 0 0 := by
  refine gM_of (by decide +kernel) rfl (Nat.le_of_ble_eq_true rfl) ?_
  intro p e s m args below meth c A Q hin C hQ
  refine g_sub [0, 1] (lv' := [(0, .ref h), (1, .int (nI w))]) rfl ?_
  have hp := Pin_of (Y := Y) (P := P) hpc
  rcases (show w = 0 ∨ w = 1 ∨ w = 2 ∨ w = 3 ∨ w = 4 ∨ w = 5 ∨ w = 6 ∨ w = 7 by omega) with rfl | rfl | rfl | rfl | rfl | rfl | rfl | rfl
  · skip
    refine g_iload_n C dX1_countFact_0 rfl 1 rfl ?_
    refine g_tableIn (off := 43) (tgt := 44) C dX1_countFact_1 (by decide) (by decide) (by decide) (by decide) ?_
    refine g_aload_n C dX1_countFact_44 rfl 0 rfl ?_
    refine g_get (v := .int (nI hr)) (ci := 1) (Cn := RX1) (T := TX1) (N := 9) C k_X1_countFact_inX1 gm0 rfl 5 (by decide) k_X1_countFact_1 rfl rfl dX1_countFact_45 ?_
    refine g_iret C hQ (Nat.le_of_ble_eq_true rfl) (Nat.le_of_ble_eq_true rfl) dX1_countFact_48 ?_
    exact ⟨rfl, rfl⟩
  · skip
    refine g_iload_n C dX1_countFact_0 rfl 1 rfl ?_
    refine g_tableIn (off := 48) (tgt := 49) C dX1_countFact_1 (by decide) (by decide) (by decide) (by decide) ?_
    refine g_aload_n C dX1_countFact_49 rfl 0 rfl ?_
    refine g_get (v := .int (nI np)) (ci := 1) (Cn := RX1) (T := TX1) (N := 9) C k_X1_countFact_inX1 gm0 rfl 4 (by decide) k_X1_countFact_2 rfl rfl dX1_countFact_50 ?_
    refine g_iret C hQ (Nat.le_of_ble_eq_true rfl) (Nat.le_of_ble_eq_true rfl) dX1_countFact_53 ?_
    exact ⟨rfl, rfl⟩
  · skip
    refine g_iload_n C dX1_countFact_0 rfl 1 rfl ?_
    refine g_tableIn (off := 53) (tgt := 54) C dX1_countFact_1 (by decide) (by decide) (by decide) (by decide) ?_
    refine g_aload_n C dX1_countFact_54 rfl 0 rfl ?_
    refine g_callV (ci := 1) (Cn := RX1) (As := []) (rest := []) C gm0 rfl rfl (c_X1_piecesIn l D tys cP ht1 ((h, .inr (1, [.ref a1, .ref a2, .ref a3, .ref a4, .int (nI np), .int (nI hr), .ref a5, .ref a6, .ref a7])) :: (a1, .inl (cI, 80, .inl (wet))) :: (a2, .inl (cI, 80, .inl (cover))) :: (a3, .inl (cI, 8, .inl (sun))) :: (a4, .inl (cP, 100, .inr (.inr (.inr (.inr (pcs)))))) :: (a5, .inl (cI, 80, .inl (fs))) :: (a6, .inl (cI, 80, .inl (mk))) :: (a7, .inl (cI, 80, .inl (fd))) :: (plist pa P np ++ Y)) h a1 a2 a3 a4 a5 a6 a7 np hr pcs pa P hnp (fun k9 hk9 => ⟨(hp k9 hk9).1, gmT (gmT (gmT (gmT (gmT (gmT (gmT (gmT (hp k9 hk9).2)))))))⟩) gm0 (gmT (gmT (gmT (gmT gm0))))) (cwV 0 C.ts gX1_countFact_X1_piecesIn rfl rfl rfl (by decide +kernel) ⟨(Nat.le_of_ble_eq_true rfl), (Nat.le_of_ble_eq_true rfl)⟩) rfl rfl (Nat.le_of_ble_eq_true rfl) dX1_countFact_55 (Nat.le_of_ble_eq_true rfl) (Nat.le_of_ble_eq_true rfl) (g_is (x := .int (nI (cnt (fun k => !qo (P k)) np))) (W1 := ((h, .inr (1, [.ref a1, .ref a2, .ref a3, .ref a4, .int (nI np), .int (nI hr), .ref a5, .ref a6, .ref a7])) :: (a1, .inl (cI, 80, .inl (wet))) :: (a2, .inl (cI, 80, .inl (cover))) :: (a3, .inl (cI, 8, .inl (sun))) :: (a4, .inl (cP, 100, .inr (.inr (.inr (.inr (pcs)))))) :: (a5, .inl (cI, 80, .inl (fs))) :: (a6, .inl (cI, 80, .inl (mk))) :: (a7, .inl (cI, 80, .inl (fd))) :: (plist pa P np ++ Y))) ?_)
    refine g_iret C hQ (Nat.le_of_ble_eq_true rfl) (Nat.le_of_ble_eq_true rfl) dX1_countFact_58 ?_
    exact ⟨rfl, rfl⟩
  · skip
    refine g_iload_n C dX1_countFact_0 rfl 1 rfl ?_
    refine g_tableIn (off := 58) (tgt := 59) C dX1_countFact_1 (by decide) (by decide) (by decide) (by decide) ?_
    refine g_aload_n C dX1_countFact_59 rfl 0 rfl ?_
    refine g_callV (ci := 1) (Cn := RX1) (As := []) (rest := []) C gm0 rfl rfl (c_X1_loosePieces l D tys cI ht0 cP ht1 ((h, .inr (1, [.ref a1, .ref a2, .ref a3, .ref a4, .int (nI np), .int (nI hr), .ref a5, .ref a6, .ref a7])) :: (a1, .inl (cI, 80, .inl (wet))) :: (a2, .inl (cI, 80, .inl (cover))) :: (a3, .inl (cI, 8, .inl (sun))) :: (a4, .inl (cP, 100, .inr (.inr (.inr (.inr (pcs)))))) :: (a5, .inl (cI, 80, .inl (fs))) :: (a6, .inl (cI, 80, .inl (mk))) :: (a7, .inl (cI, 80, .inl (fd))) :: (plist pa P np ++ Y)) h a1 a2 a3 a4 a5 a6 a7 np hr wet pcs pa P hnp (fun k9 hk9 => ⟨(hp k9 hk9).1, gmT (gmT (gmT (gmT (gmT (gmT (gmT (gmT (hp k9 hk9).2)))))))⟩) hg gm0 (gmT (gmT (gmT (gmT gm0)))) (gmT gm0)) (cwV 0 C.ts gX1_countFact_X1_loosePieces rfl rfl rfl (by decide +kernel) ⟨(Nat.le_of_ble_eq_true rfl), (Nat.le_of_ble_eq_true rfl)⟩) rfl rfl (Nat.le_of_ble_eq_true rfl) dX1_countFact_60 (Nat.le_of_ble_eq_true rfl) (Nat.le_of_ble_eq_true rfl) (g_is (x := .int (nI (cnt (fun k => lsp (P k) wet) np))) (W1 := ((h, .inr (1, [.ref a1, .ref a2, .ref a3, .ref a4, .int (nI np), .int (nI hr), .ref a5, .ref a6, .ref a7])) :: (a1, .inl (cI, 80, .inl (wet))) :: (a2, .inl (cI, 80, .inl (cover))) :: (a3, .inl (cI, 8, .inl (sun))) :: (a4, .inl (cP, 100, .inr (.inr (.inr (.inr (pcs)))))) :: (a5, .inl (cI, 80, .inl (fs))) :: (a6, .inl (cI, 80, .inl (mk))) :: (a7, .inl (cI, 80, .inl (fd))) :: (plist pa P np ++ Y))) ?_)
    refine g_iret C hQ (Nat.le_of_ble_eq_true rfl) (Nat.le_of_ble_eq_true rfl) dX1_countFact_63 ?_
    exact ⟨rfl, rfl⟩
  · skip
    refine g_iload_n C dX1_countFact_0 rfl 1 rfl ?_
    refine g_tableIn (off := 63) (tgt := 64) C dX1_countFact_1 (by decide) (by decide) (by decide) (by decide) ?_
    refine g_aload_n C dX1_countFact_64 rfl 0 rfl ?_
    refine g_get (v := .ref a1) (ci := 1) (Cn := RX1) (T := TX1) (N := 9) C k_X1_countFact_inX1 gm0 rfl 0 (by decide) k_X1_countFact_3 rfl rfl dX1_countFact_65 ?_
    refine g_iconst (v := 0) C dX1_countFact_68 (by decide) ?_
    refine g_callS (As := [.ref a1, .int 0]) (rest := []) C (c_X1_cellsFrom l D tys cI ht0 ((h, .inr (1, [.ref a1, .ref a2, .ref a3, .ref a4, .int (nI np), .int (nI hr), .ref a5, .ref a6, .ref a7])) :: (a1, .inl (cI, 80, .inl (wet))) :: (a2, .inl (cI, 80, .inl (cover))) :: (a3, .inl (cI, 8, .inl (sun))) :: (a4, .inl (cP, 100, .inr (.inr (.inr (.inr (pcs)))))) :: (a5, .inl (cI, 80, .inl (fs))) :: (a6, .inl (cI, 80, .inl (mk))) :: (a7, .inl (cI, 80, .inl (fd))) :: (plist pa P np ++ Y)) a1 80 wet 0 (by decide) (gmT gm0)) (va_cwS 2 C.ts gX1_countFact_X1_cellsFrom rfl rfl rfl (by decide +kernel) ⟨(Nat.le_of_ble_eq_true rfl), (Nat.le_of_ble_eq_true rfl)⟩) rfl rfl (Nat.le_of_ble_eq_true rfl) dX1_countFact_69 (Nat.le_of_ble_eq_true rfl) (Nat.le_of_ble_eq_true rfl) (g_is (x := .int (nI (cnt (fun c => decide (0 ≤ wet c)) 80))) (W1 := ((h, .inr (1, [.ref a1, .ref a2, .ref a3, .ref a4, .int (nI np), .int (nI hr), .ref a5, .ref a6, .ref a7])) :: (a1, .inl (cI, 80, .inl (wet))) :: (a2, .inl (cI, 80, .inl (cover))) :: (a3, .inl (cI, 8, .inl (sun))) :: (a4, .inl (cP, 100, .inr (.inr (.inr (.inr (pcs)))))) :: (a5, .inl (cI, 80, .inl (fs))) :: (a6, .inl (cI, 80, .inl (mk))) :: (a7, .inl (cI, 80, .inl (fd))) :: (plist pa P np ++ Y))) ?_)
    refine g_iret C hQ (Nat.le_of_ble_eq_true rfl) (Nat.le_of_ble_eq_true rfl) dX1_countFact_72 ?_
    exact ⟨rfl, rfl⟩
  · skip
    refine g_iload_n C dX1_countFact_0 rfl 1 rfl ?_
    refine g_tableIn (off := 72) (tgt := 73) C dX1_countFact_1 (by decide) (by decide) (by decide) (by decide) ?_
    refine g_aload_n C dX1_countFact_73 rfl 0 rfl ?_
    refine g_get (v := .ref a1) (ci := 1) (Cn := RX1) (T := TX1) (N := 9) C k_X1_countFact_inX1 gm0 rfl 0 (by decide) k_X1_countFact_3 rfl rfl dX1_countFact_74 ?_
    refine g_iconst (v := 1) C dX1_countFact_77 (by decide) ?_
    refine g_callS (As := [.ref a1, .int 1]) (rest := []) C (c_X1_cellsFrom l D tys cI ht0 ((h, .inr (1, [.ref a1, .ref a2, .ref a3, .ref a4, .int (nI np), .int (nI hr), .ref a5, .ref a6, .ref a7])) :: (a1, .inl (cI, 80, .inl (wet))) :: (a2, .inl (cI, 80, .inl (cover))) :: (a3, .inl (cI, 8, .inl (sun))) :: (a4, .inl (cP, 100, .inr (.inr (.inr (.inr (pcs)))))) :: (a5, .inl (cI, 80, .inl (fs))) :: (a6, .inl (cI, 80, .inl (mk))) :: (a7, .inl (cI, 80, .inl (fd))) :: (plist pa P np ++ Y)) a1 80 wet 1 (by decide) (gmT gm0)) (va_cwS 2 C.ts gX1_countFact_X1_cellsFrom rfl rfl rfl (by decide +kernel) ⟨(Nat.le_of_ble_eq_true rfl), (Nat.le_of_ble_eq_true rfl)⟩) rfl rfl (Nat.le_of_ble_eq_true rfl) dX1_countFact_78 (Nat.le_of_ble_eq_true rfl) (Nat.le_of_ble_eq_true rfl) (g_is (x := .int (nI (cnt (fun c => decide (1 ≤ wet c)) 80))) (W1 := ((h, .inr (1, [.ref a1, .ref a2, .ref a3, .ref a4, .int (nI np), .int (nI hr), .ref a5, .ref a6, .ref a7])) :: (a1, .inl (cI, 80, .inl (wet))) :: (a2, .inl (cI, 80, .inl (cover))) :: (a3, .inl (cI, 8, .inl (sun))) :: (a4, .inl (cP, 100, .inr (.inr (.inr (.inr (pcs)))))) :: (a5, .inl (cI, 80, .inl (fs))) :: (a6, .inl (cI, 80, .inl (mk))) :: (a7, .inl (cI, 80, .inl (fd))) :: (plist pa P np ++ Y))) ?_)
    refine g_iret C hQ (Nat.le_of_ble_eq_true rfl) (Nat.le_of_ble_eq_true rfl) dX1_countFact_81 ?_
    exact ⟨rfl, rfl⟩
  · skip
    refine g_iload_n C dX1_countFact_0 rfl 1 rfl ?_
    refine g_tableIn (off := 81) (tgt := 82) C dX1_countFact_1 (by decide) (by decide) (by decide) (by decide) ?_
    refine g_aload_n C dX1_countFact_82 rfl 0 rfl ?_
    refine g_get (v := .ref a2) (ci := 1) (Cn := RX1) (T := TX1) (N := 9) C k_X1_countFact_inX1 gm0 rfl 1 (by decide) k_X1_countFact_4 rfl rfl dX1_countFact_83 ?_
    refine g_iconst (v := 0) C dX1_countFact_86 (by decide) ?_
    refine g_callS (As := [.ref a2, .int 0]) (rest := []) C (c_X1_cellsFrom l D tys cI ht0 ((h, .inr (1, [.ref a1, .ref a2, .ref a3, .ref a4, .int (nI np), .int (nI hr), .ref a5, .ref a6, .ref a7])) :: (a1, .inl (cI, 80, .inl (wet))) :: (a2, .inl (cI, 80, .inl (cover))) :: (a3, .inl (cI, 8, .inl (sun))) :: (a4, .inl (cP, 100, .inr (.inr (.inr (.inr (pcs)))))) :: (a5, .inl (cI, 80, .inl (fs))) :: (a6, .inl (cI, 80, .inl (mk))) :: (a7, .inl (cI, 80, .inl (fd))) :: (plist pa P np ++ Y)) a2 80 cover 0 (by decide) (gmT (gmT gm0))) (va_cwS 2 C.ts gX1_countFact_X1_cellsFrom rfl rfl rfl (by decide +kernel) ⟨(Nat.le_of_ble_eq_true rfl), (Nat.le_of_ble_eq_true rfl)⟩) rfl rfl (Nat.le_of_ble_eq_true rfl) dX1_countFact_87 (Nat.le_of_ble_eq_true rfl) (Nat.le_of_ble_eq_true rfl) (g_is (x := .int (nI (cnt (fun c => decide (0 ≤ cover c)) 80))) (W1 := ((h, .inr (1, [.ref a1, .ref a2, .ref a3, .ref a4, .int (nI np), .int (nI hr), .ref a5, .ref a6, .ref a7])) :: (a1, .inl (cI, 80, .inl (wet))) :: (a2, .inl (cI, 80, .inl (cover))) :: (a3, .inl (cI, 8, .inl (sun))) :: (a4, .inl (cP, 100, .inr (.inr (.inr (.inr (pcs)))))) :: (a5, .inl (cI, 80, .inl (fs))) :: (a6, .inl (cI, 80, .inl (mk))) :: (a7, .inl (cI, 80, .inl (fd))) :: (plist pa P np ++ Y))) ?_)
    refine g_iret C hQ (Nat.le_of_ble_eq_true rfl) (Nat.le_of_ble_eq_true rfl) dX1_countFact_90 ?_
    exact ⟨rfl, rfl⟩
  · skip
    refine g_iload_n C dX1_countFact_0 rfl 1 rfl ?_
    refine g_tableOut (tgt := 91) C dX1_countFact_1 (by decide) (by decide) ?_
    refine g_aload_n C dX1_countFact_91 rfl 0 rfl ?_
    refine g_callV (ci := 1) (Cn := RX1) (As := []) (rest := []) C gm0 rfl rfl (c_X1_gaps l D tys cI cP ht0 h a1 a2 a3 a4 a5 a6 a7 np hr wet cover sun fs mk fd pcs (plist pa P np ++ Y)) (cwV 0 C.ts gX1_countFact_X1_gaps rfl rfl rfl (by decide +kernel) ⟨(Nat.le_of_ble_eq_true rfl), (Nat.le_of_ble_eq_true rfl)⟩) rfl rfl (Nat.le_of_ble_eq_true rfl) dX1_countFact_92 (Nat.le_of_ble_eq_true rfl) (Nat.le_of_ble_eq_true rfl) (g_is (x := .int (nI (gpS cover fd 80).1)) (W1 := ((h, .inr (1, [.ref a1, .ref a2, .ref a3, .ref a4, .int (nI np), .int (nI hr), .ref a5, .ref a6, .ref a7])) :: (a1, .inl (cI, 80, .inl (wet))) :: (a2, .inl (cI, 80, .inl (cover))) :: (a3, .inl (cI, 8, .inl (sun))) :: (a4, .inl (cP, 100, .inr (.inr (.inr (.inr (pcs)))))) :: (a5, .inl (cI, 80, .inl (fs))) :: (a6, .inl (cI, 80, .inl ((gpS cover fd 80).2.1))) :: (a7, .inl (cI, 80, .inl ((gpS cover fd 80).2.2))) :: (plist pa P np ++ Y))) ?_)
    refine g_iret C hQ (Nat.le_of_ble_eq_true rfl) (Nat.le_of_ble_eq_true rfl) dX1_countFact_95 ?_
    exact ⟨rfl, rfl⟩

theorem x_X1_refuseOutside_IO : ∀ w ∈ (vx_atS RX1 65 "java/lang/IndexOutOfBoundsException" ["java/lang/RuntimeException", "java/lang/Exception"]).filter goodWord, w ∈ wsX1_refuseOutside := by
  intro w h
  simp only [wsX1_refuseOutside, List.mem_cons, List.mem_append, h, or_true, true_or]
theorem k_X1_refuseOutside_1 : Cond.classLink RX1 61 "java/lang/IndexOutOfBoundsException" ∈ wsX1_refuseOutside := by decide +kernel
theorem k_X1_refuseOutside_2 : Cond.initialized "java/lang/IndexOutOfBoundsException" ∈ wsX1_refuseOutside := by decide +kernel
set_option maxHeartbeats 4000000 in
set_option maxRecDepth 100000 in
theorem c_X1_refuseOutside (l : Launch) (hl9 : l.stackTraces = false) (D : va_G) (tys : List (ClassId × FieldType)) (W : va_W) (x y : Int32) : gMx l yX1_refuseOutside wsX1_refuseOutside ({ frames := 6, cells := 1, slots := 6, locals := 100 } : Room) D tys [.int x, .int y] W (gIy (onW x y = true) none W) (fun E => onW x y = false ∧ E = "java/lang/IndexOutOfBoundsException") 1 6 := by
  refine gMx_of2 (by decide +kernel) rfl (Nat.le_of_ble_eq_true rfl) ?_
  intro p e s m args below meth c A Q C hT hQ hQX
  refine g_sub [0, 1] (lv' := [(0, .int x), (1, .int y)]) rfl ?_
  refine g_iload_n C dX1_refuseOutside_0 rfl 0 rfl ?_
  refine g_iload_n C dX1_refuseOutside_1 rfl 1 rfl ?_
  refine g_callS (As := [.int x, .int y]) (rest := []) C (c_X1_isOnWall l D tys W x y) (va_cwS 2 C.ts gX1_refuseOutside_X1_isOnWall rfl rfl rfl (by decide +kernel) ⟨(Nat.le_of_ble_eq_true rfl), (Nat.le_of_ble_eq_true rfl)⟩) rfl rfl (Nat.le_of_ble_eq_true rfl) dX1_refuseOutside_2 (Nat.le_of_ble_eq_true rfl) (Nat.le_of_ble_eq_true rfl) (g_is (x := .int (gz (onW x y))) (W1 := W) ?_)
  refine g_if_ne (tgt := 18) C dX1_refuseOutside_5 (by decide) (fun c_1 => ?_) (fun c_1 => ?_)
  · skip
    replace c_1 := gzn.mp c_1
    refine g_vret C hQ (Nat.le_of_ble_eq_true rfl) (Nat.le_of_ble_eq_true rfl) dX1_refuseOutside_18 ?_
    exact ⟨by assumption, rfl, rfl⟩
  · skip
    replace c_1 := gz0.mp c_1
    refine g_throwS (own := RX1) (cls := "java/lang/IndexOutOfBoundsException") (text := "no such cell") (names := tNs) (ik := 61) (is := 210) (ic := 65) C hQX hT hl9 (by decide) (by decide) k_X1_refuseOutside_1 k_X1_refuseOutside_2 (by decide +kernel) bad_IO x_X1_refuseOutside_IO ot_IO dX1_refuseOutside_8 dX1_refuseOutside_11 dX1_refuseOutside_12 dX1_refuseOutside_14 dX1_refuseOutside_17 (Nat.le_of_ble_eq_true rfl) (Nat.le_of_ble_eq_true rfl) (Nat.le_of_ble_eq_true rfl) (Nat.le_of_ble_eq_true rfl) (Nat.le_of_ble_eq_true rfl) (Nat.le_of_ble_eq_true rfl) ?_
    exact ⟨by assumption, rfl⟩

theorem x_X1_refuseNoPattern_IA : ∀ w ∈ (vx_atS RX1 46 "java/lang/IllegalArgumentException" ["java/lang/RuntimeException", "java/lang/Exception"]).filter goodWord, w ∈ wsX1_refuseNoPattern := by
  intro w h
  simp only [wsX1_refuseNoPattern, List.mem_cons, List.mem_append, h, or_true, true_or]
theorem k_X1_refuseNoPattern_1 : Cond.classLink RX1 42 "java/lang/IllegalArgumentException" ∈ wsX1_refuseNoPattern := by decide +kernel
theorem k_X1_refuseNoPattern_2 : Cond.initialized "java/lang/IllegalArgumentException" ∈ wsX1_refuseNoPattern := by decide +kernel
set_option maxHeartbeats 4000000 in
set_option maxRecDepth 100000 in
theorem c_X1_refuseNoPattern (l : Launch) (hl9 : l.stackTraces = false) (D : va_G) (tys : List (ClassId × FieldType)) (W : va_W) (k9 a b : Int32) : gMx l yX1_refuseNoPattern wsX1_refuseNoPattern ({ frames := 6, cells := 1, slots := 6, locals := 100 } : Room) D tys [.int k9, .int a, .int b] W (gIy (patB k9 a b = true) none W) (fun E => patB k9 a b = false ∧ E = "java/lang/IllegalArgumentException") 1 6 := by
  refine gMx_of2 (by decide +kernel) rfl (Nat.le_of_ble_eq_true rfl) ?_
  intro p e s m args below meth c A Q C hT hQ hQX
  refine g_sub [0, 1, 2] (lv' := [(0, .int k9), (1, .int a), (2, .int b)]) rfl ?_
  refine g_iload_n C dX1_refuseNoPattern_0 rfl 0 rfl ?_
  refine g_iconst (v := 0) C dX1_refuseNoPattern_1 (by decide) ?_
  refine g_iconst (v := 3) C dX1_refuseNoPattern_2 (by decide) ?_
  refine g_callS (As := [.int k9, .int 0, .int 3]) (rest := []) C (c_X1_within l D tys W k9 0 3) (va_cwS 3 C.ts gX1_refuseNoPattern_X1_within rfl rfl rfl (by decide +kernel) ⟨(Nat.le_of_ble_eq_true rfl), (Nat.le_of_ble_eq_true rfl)⟩) rfl rfl (Nat.le_of_ble_eq_true rfl) dX1_refuseNoPattern_3 (Nat.le_of_ble_eq_true rfl) (Nat.le_of_ble_eq_true rfl) (g_is (x := .int (gz (inR 0 3 k9))) (W1 := W) ?_)
  refine g_if_eq (tgt := 23) C dX1_refuseNoPattern_6 (by decide) (fun c_1 => ?_) (fun c_1 => ?_)
  · skip
    replace c_1 := gz0.mp c_1
    refine g_throwS (own := RX1) (cls := "java/lang/IllegalArgumentException") (text := "no such pattern") (names := tNs) (ik := 42) (is := 212) (ic := 46) C hQX hT hl9 (by decide) (by decide) k_X1_refuseNoPattern_1 k_X1_refuseNoPattern_2 (by decide +kernel) bad_IA x_X1_refuseNoPattern_IA ot_IA dX1_refuseNoPattern_23 dX1_refuseNoPattern_26 dX1_refuseNoPattern_27 dX1_refuseNoPattern_29 dX1_refuseNoPattern_32 (Nat.le_of_ble_eq_true rfl) (Nat.le_of_ble_eq_true rfl) (Nat.le_of_ble_eq_true rfl) (Nat.le_of_ble_eq_true rfl) (Nat.le_of_ble_eq_true rfl) (Nat.le_of_ble_eq_true rfl) ?_
    exact ⟨by simp [patB, *], rfl⟩
  · skip
    replace c_1 := gzn.mp c_1
    refine g_iload_n C dX1_refuseNoPattern_9 rfl 1 rfl ?_
    refine g_callS (As := [.int a]) (rest := []) C (c_X1_isColour l D tys W a) (va_cwS 1 C.ts gX1_refuseNoPattern_X1_isColour rfl rfl rfl (by decide +kernel) ⟨(Nat.le_of_ble_eq_true rfl), (Nat.le_of_ble_eq_true rfl)⟩) rfl rfl (Nat.le_of_ble_eq_true rfl) dX1_refuseNoPattern_10 (Nat.le_of_ble_eq_true rfl) (Nat.le_of_ble_eq_true rfl) (g_is (x := .int (gz (inR 0 6 a))) (W1 := W) ?_)
    refine g_if_eq (tgt := 23) C dX1_refuseNoPattern_13 (by decide) (fun c_2 => ?_) (fun c_2 => ?_)
    · skip
      replace c_2 := gz0.mp c_2
      refine g_throwS (own := RX1) (cls := "java/lang/IllegalArgumentException") (text := "no such pattern") (names := tNs) (ik := 42) (is := 212) (ic := 46) C hQX hT hl9 (by decide) (by decide) k_X1_refuseNoPattern_1 k_X1_refuseNoPattern_2 (by decide +kernel) bad_IA x_X1_refuseNoPattern_IA ot_IA dX1_refuseNoPattern_23 dX1_refuseNoPattern_26 dX1_refuseNoPattern_27 dX1_refuseNoPattern_29 dX1_refuseNoPattern_32 (Nat.le_of_ble_eq_true rfl) (Nat.le_of_ble_eq_true rfl) (Nat.le_of_ble_eq_true rfl) (Nat.le_of_ble_eq_true rfl) (Nat.le_of_ble_eq_true rfl) (Nat.le_of_ble_eq_true rfl) ?_
      exact ⟨by simp [patB, *], rfl⟩
    · skip
      replace c_2 := gzn.mp c_2
      refine g_iload_n C dX1_refuseNoPattern_16 rfl 2 rfl ?_
      refine g_callS (As := [.int b]) (rest := []) C (c_X1_isColour l D tys W b) (va_cwS 1 C.ts gX1_refuseNoPattern_X1_isColour rfl rfl rfl (by decide +kernel) ⟨(Nat.le_of_ble_eq_true rfl), (Nat.le_of_ble_eq_true rfl)⟩) rfl rfl (Nat.le_of_ble_eq_true rfl) dX1_refuseNoPattern_17 (Nat.le_of_ble_eq_true rfl) (Nat.le_of_ble_eq_true rfl) (g_is (x := .int (gz (inR 0 6 b))) (W1 := W) ?_)
      refine g_if_ne (tgt := 33) C dX1_refuseNoPattern_20 (by decide) (fun c_3 => ?_) (fun c_3 => ?_)
      · skip
        replace c_3 := gzn.mp c_3
        refine g_vret C hQ (Nat.le_of_ble_eq_true rfl) (Nat.le_of_ble_eq_true rfl) dX1_refuseNoPattern_33 ?_
        exact ⟨by simp [patB, *], rfl, rfl⟩
      · skip
        replace c_3 := gz0.mp c_3
        refine g_throwS (own := RX1) (cls := "java/lang/IllegalArgumentException") (text := "no such pattern") (names := tNs) (ik := 42) (is := 212) (ic := 46) C hQX hT hl9 (by decide) (by decide) k_X1_refuseNoPattern_1 k_X1_refuseNoPattern_2 (by decide +kernel) bad_IA x_X1_refuseNoPattern_IA ot_IA dX1_refuseNoPattern_23 dX1_refuseNoPattern_26 dX1_refuseNoPattern_27 dX1_refuseNoPattern_29 dX1_refuseNoPattern_32 (Nat.le_of_ble_eq_true rfl) (Nat.le_of_ble_eq_true rfl) (Nat.le_of_ble_eq_true rfl) (Nat.le_of_ble_eq_true rfl) (Nat.le_of_ble_eq_true rfl) (Nat.le_of_ble_eq_true rfl) ?_
        exact ⟨by simp [patB, *], rfl⟩

theorem k_X1_setSun_inX1 : ∀ w ∈ wsX10, w ∈ wsX1_setSun := by decide +kernel
theorem k_X1_setSun_1 : Cond.fieldLink RX1 16 "WetMosaic" "sun" "[I" ∈ wsX1_setSun := by decide +kernel
theorem x_X1_setSun_IA : ∀ w ∈ (vx_atS RX1 46 "java/lang/IllegalArgumentException" ["java/lang/RuntimeException", "java/lang/Exception"]).filter goodWord, w ∈ wsX1_setSun := by
  intro w h
  simp only [wsX1_setSun, List.mem_cons, List.mem_append, h, or_true, true_or]
theorem k_X1_setSun_3 : Cond.classLink RX1 42 "java/lang/IllegalArgumentException" ∈ wsX1_setSun := by decide +kernel
theorem k_X1_setSun_4 : Cond.initialized "java/lang/IllegalArgumentException" ∈ wsX1_setSun := by decide +kernel
theorem x_X1_setSun_IO : ∀ w ∈ (vx_atS RX1 65 "java/lang/IndexOutOfBoundsException" ["java/lang/RuntimeException", "java/lang/Exception"]).filter goodWord, w ∈ wsX1_setSun := by
  intro w h
  simp only [wsX1_setSun, List.mem_cons, List.mem_append, h, or_true, true_or]
theorem k_X1_setSun_6 : Cond.classLink RX1 61 "java/lang/IndexOutOfBoundsException" ∈ wsX1_setSun := by decide +kernel
theorem k_X1_setSun_7 : Cond.initialized "java/lang/IndexOutOfBoundsException" ∈ wsX1_setSun := by decide +kernel
set_option maxHeartbeats 4000000 in
set_option maxRecDepth 100000 in
theorem c_X1_setSun (l : Launch) (hl9 : l.stackTraces = false) (D : va_G) (tys : List (ClassId × FieldType)) (cI cP : ClassId) (ht0 : tys[0]? = some (cI, .int)) (ht1 : tys[1]? = some (cP, .object RX0)) (h a1 a2 a3 a4 a5 a6 a7 np hr : Nat) (wet cover sun fs mk fd : Nat → Int32) (pcs : Nat → Option Nat) (pa : Nat → Nat) (P : Nat → Pd) (Y : va_W) (hnp : np ≤ 100) (hpc : ∀ k, k < np → pcs k = some (pa k)) (hg : Pok np P) (v s9 : Int32) : gMx l yX1_setSun wsX1_setSun ({ frames := 6, cells := 1, slots := 6, locals := 100 } : Room) D tys [.ref h, .int v, .int s9] ((h, .inr (1, [.ref a1, .ref a2, .ref a3, .ref a4, .int (nI np), .int (nI hr), .ref a5, .ref a6, .ref a7])) :: (a1, .inl (cI, 80, .inl (wet))) :: (a2, .inl (cI, 80, .inl (cover))) :: (a3, .inl (cI, 8, .inl (sun))) :: (a4, .inl (cP, 100, .inr (.inr (.inr (.inr (pcs)))))) :: (a5, .inl (cI, 80, .inl (fs))) :: (a6, .inl (cI, 80, .inl (mk))) :: (a7, .inl (cI, 80, .inl (fd))) :: (plist pa P np ++ Y)) (gIy (cdSu v s9 = 0) (some (.int (atv 8 sun v))) ((h, .inr (1, [.ref a1, .ref a2, .ref a3, .ref a4, .int (nI np), .int (nI hr), .ref a5, .ref a6, .ref a7])) :: (a1, .inl (cI, 80, .inl (wet))) :: (a2, .inl (cI, 80, .inl (cover))) :: (a3, .inl (cI, 8, .inl (putv 8 sun v s9))) :: (a4, .inl (cP, 100, .inr (.inr (.inr (.inr (pcs)))))) :: (a5, .inl (cI, 80, .inl (fs))) :: (a6, .inl (cI, 80, .inl (mk))) :: (a7, .inl (cI, 80, .inl (fd))) :: (plist pa P np ++ Y))) (fun E => cdE (cdSu v s9) nmOA E) 1 6 := by
  refine gMx_of2 (by decide +kernel) rfl (Nat.le_of_ble_eq_true rfl) ?_
  intro p e s m args below meth c A Q C hT hQ hQX
  refine g_sub [0, 1, 2] (lv' := [(0, .ref h), (1, .int v), (2, .int s9)]) rfl ?_
  refine g_iload_n C dX1_setSun_0 rfl 1 rfl ?_
  refine g_iconst (v := 0) C dX1_setSun_1 (by decide) ?_
  refine g_bipush (v := 7) C dX1_setSun_2 (by decide) ?_
  refine g_callS (As := [.int v, .int 0, .int 7]) (rest := []) C (c_X1_within l D tys ((h, .inr (1, [.ref a1, .ref a2, .ref a3, .ref a4, .int (nI np), .int (nI hr), .ref a5, .ref a6, .ref a7])) :: (a1, .inl (cI, 80, .inl (wet))) :: (a2, .inl (cI, 80, .inl (cover))) :: (a3, .inl (cI, 8, .inl (sun))) :: (a4, .inl (cP, 100, .inr (.inr (.inr (.inr (pcs)))))) :: (a5, .inl (cI, 80, .inl (fs))) :: (a6, .inl (cI, 80, .inl (mk))) :: (a7, .inl (cI, 80, .inl (fd))) :: (plist pa P np ++ Y)) v 0 7) (va_cwS 3 C.ts gX1_setSun_X1_within rfl rfl rfl (by decide +kernel) ⟨(Nat.le_of_ble_eq_true rfl), (Nat.le_of_ble_eq_true rfl)⟩) rfl rfl (Nat.le_of_ble_eq_true rfl) dX1_setSun_4 (Nat.le_of_ble_eq_true rfl) (Nat.le_of_ble_eq_true rfl) (g_is (x := .int (gz (inR 0 7 v))) (W1 := ((h, .inr (1, [.ref a1, .ref a2, .ref a3, .ref a4, .int (nI np), .int (nI hr), .ref a5, .ref a6, .ref a7])) :: (a1, .inl (cI, 80, .inl (wet))) :: (a2, .inl (cI, 80, .inl (cover))) :: (a3, .inl (cI, 8, .inl (sun))) :: (a4, .inl (cP, 100, .inr (.inr (.inr (.inr (pcs)))))) :: (a5, .inl (cI, 80, .inl (fs))) :: (a6, .inl (cI, 80, .inl (mk))) :: (a7, .inl (cI, 80, .inl (fd))) :: (plist pa P np ++ Y))) ?_)
  refine g_if_ne (tgt := 20) C dX1_setSun_7 (by decide) (fun c_1 => ?_) (fun c_1 => ?_)
  · skip
    replace c_1 := gzn.mp c_1
    refine g_iload_n C dX1_setSun_20 rfl 2 rfl ?_
    refine g_iconst (v := 0) C dX1_setSun_21 (by decide) ?_
    refine g_iconst (v := 4) C dX1_setSun_22 (by decide) ?_
    refine g_callS (As := [.int s9, .int 0, .int 4]) (rest := []) C (c_X1_within l D tys ((h, .inr (1, [.ref a1, .ref a2, .ref a3, .ref a4, .int (nI np), .int (nI hr), .ref a5, .ref a6, .ref a7])) :: (a1, .inl (cI, 80, .inl (wet))) :: (a2, .inl (cI, 80, .inl (cover))) :: (a3, .inl (cI, 8, .inl (sun))) :: (a4, .inl (cP, 100, .inr (.inr (.inr (.inr (pcs)))))) :: (a5, .inl (cI, 80, .inl (fs))) :: (a6, .inl (cI, 80, .inl (mk))) :: (a7, .inl (cI, 80, .inl (fd))) :: (plist pa P np ++ Y)) s9 0 4) (va_cwS 3 C.ts gX1_setSun_X1_within rfl rfl rfl (by decide +kernel) ⟨(Nat.le_of_ble_eq_true rfl), (Nat.le_of_ble_eq_true rfl)⟩) rfl rfl (Nat.le_of_ble_eq_true rfl) dX1_setSun_23 (Nat.le_of_ble_eq_true rfl) (Nat.le_of_ble_eq_true rfl) (g_is (x := .int (gz (inR 0 4 s9))) (W1 := ((h, .inr (1, [.ref a1, .ref a2, .ref a3, .ref a4, .int (nI np), .int (nI hr), .ref a5, .ref a6, .ref a7])) :: (a1, .inl (cI, 80, .inl (wet))) :: (a2, .inl (cI, 80, .inl (cover))) :: (a3, .inl (cI, 8, .inl (sun))) :: (a4, .inl (cP, 100, .inr (.inr (.inr (.inr (pcs)))))) :: (a5, .inl (cI, 80, .inl (fs))) :: (a6, .inl (cI, 80, .inl (mk))) :: (a7, .inl (cI, 80, .inl (fd))) :: (plist pa P np ++ Y))) ?_)
    refine g_if_ne (tgt := 39) C dX1_setSun_26 (by decide) (fun c_2 => ?_) (fun c_2 => ?_)
    · skip
      replace c_2 := gzn.mp c_2
      refine g_aload_n C dX1_setSun_39 rfl 0 rfl ?_
      refine g_get (v := .ref a3) (ci := 1) (Cn := RX1) (T := TX1) (N := 9) C k_X1_setSun_inX1 gm0 rfl 2 (by decide) k_X1_setSun_1 rfl rfl dX1_setSun_40 ?_
      refine g_iload_n C dX1_setSun_43 rfl 1 rfl ?_
      refine g_callS (As := [.ref a3, .int v]) (rest := []) C (c_X1_at l D tys cI ht0 ((h, .inr (1, [.ref a1, .ref a2, .ref a3, .ref a4, .int (nI np), .int (nI hr), .ref a5, .ref a6, .ref a7])) :: (a1, .inl (cI, 80, .inl (wet))) :: (a2, .inl (cI, 80, .inl (cover))) :: (a3, .inl (cI, 8, .inl (sun))) :: (a4, .inl (cP, 100, .inr (.inr (.inr (.inr (pcs)))))) :: (a5, .inl (cI, 80, .inl (fs))) :: (a6, .inl (cI, 80, .inl (mk))) :: (a7, .inl (cI, 80, .inl (fd))) :: (plist pa P np ++ Y)) a3 8 sun v (by decide) (by decide) (gmT (gmT (gmT gm0)))) (va_cwS 2 C.ts gX1_setSun_X1_at rfl rfl rfl (by decide +kernel) ⟨(Nat.le_of_ble_eq_true rfl), (Nat.le_of_ble_eq_true rfl)⟩) rfl rfl (Nat.le_of_ble_eq_true rfl) dX1_setSun_44 (Nat.le_of_ble_eq_true rfl) (Nat.le_of_ble_eq_true rfl) (g_is (x := .int (atv 8 sun v)) (W1 := ((h, .inr (1, [.ref a1, .ref a2, .ref a3, .ref a4, .int (nI np), .int (nI hr), .ref a5, .ref a6, .ref a7])) :: (a1, .inl (cI, 80, .inl (wet))) :: (a2, .inl (cI, 80, .inl (cover))) :: (a3, .inl (cI, 8, .inl (sun))) :: (a4, .inl (cP, 100, .inr (.inr (.inr (.inr (pcs)))))) :: (a5, .inl (cI, 80, .inl (fs))) :: (a6, .inl (cI, 80, .inl (mk))) :: (a7, .inl (cI, 80, .inl (fd))) :: (plist pa P np ++ Y))) ?_)
      refine g_istore_n (lv' := [(3, .int (atv 8 sun v)), (0, .ref h), (1, .int v), (2, .int s9)]) C dX1_setSun_47 rfl (by decide) rfl ?_
      refine g_aload_n C dX1_setSun_48 rfl 1 rfl ?_
      refine g_get (v := .ref a3) (ci := 1) (Cn := RX1) (T := TX1) (N := 9) C k_X1_setSun_inX1 gm0 rfl 2 (by decide) k_X1_setSun_1 rfl rfl dX1_setSun_49 ?_
      refine g_iload_n C dX1_setSun_52 rfl 2 rfl ?_
      refine g_iload_n C dX1_setSun_53 rfl 3 rfl ?_
      refine g_callS (As := [.ref a3, .int v, .int s9]) (rest := []) C (c_X1_put l D tys cI ht0 ((h, .inr (1, [.ref a1, .ref a2, .ref a3, .ref a4, .int (nI np), .int (nI hr), .ref a5, .ref a6, .ref a7])) :: (a1, .inl (cI, 80, .inl (wet))) :: (a2, .inl (cI, 80, .inl (cover))) :: (a3, .inl (cI, 8, .inl (sun))) :: (a4, .inl (cP, 100, .inr (.inr (.inr (.inr (pcs)))))) :: (a5, .inl (cI, 80, .inl (fs))) :: (a6, .inl (cI, 80, .inl (mk))) :: (a7, .inl (cI, 80, .inl (fd))) :: (plist pa P np ++ Y)) 3 a3 8 sun v s9 (by decide) (by decide) rfl) (va_cwS 3 C.ts gX1_setSun_X1_put rfl rfl rfl (by decide +kernel) ⟨(Nat.le_of_ble_eq_true rfl), (Nat.le_of_ble_eq_true rfl)⟩) rfl rfl (Nat.le_of_ble_eq_true rfl) dX1_setSun_54 (Nat.le_of_ble_eq_true rfl) (Nat.le_of_ble_eq_true rfl) (g_isV (W1 := ((h, .inr (1, [.ref a1, .ref a2, .ref a3, .ref a4, .int (nI np), .int (nI hr), .ref a5, .ref a6, .ref a7])) :: (a1, .inl (cI, 80, .inl (wet))) :: (a2, .inl (cI, 80, .inl (cover))) :: (a3, .inl (cI, 8, .inl (putv 8 sun v s9))) :: (a4, .inl (cP, 100, .inr (.inr (.inr (.inr (pcs)))))) :: (a5, .inl (cI, 80, .inl (fs))) :: (a6, .inl (cI, 80, .inl (mk))) :: (a7, .inl (cI, 80, .inl (fd))) :: (plist pa P np ++ Y))) ?_)
      refine g_iload_n C dX1_setSun_57 rfl 0 rfl ?_
      refine g_iret C hQ (Nat.le_of_ble_eq_true rfl) (Nat.le_of_ble_eq_true rfl) dX1_setSun_58 ?_
      exact ⟨by simp [cdSu, *], rfl, rfl⟩
    · skip
      replace c_2 := gz0.mp c_2
      refine g_throwS (own := RX1) (cls := "java/lang/IllegalArgumentException") (text := "no such sun") (names := tNs) (ik := 42) (is := 66) (ic := 46) C hQX hT hl9 (by decide) (by decide) k_X1_setSun_3 k_X1_setSun_4 (by decide +kernel) bad_IA x_X1_setSun_IA ot_IA dX1_setSun_29 dX1_setSun_32 dX1_setSun_33 dX1_setSun_35 dX1_setSun_38 (Nat.le_of_ble_eq_true rfl) (Nat.le_of_ble_eq_true rfl) (Nat.le_of_ble_eq_true rfl) (Nat.le_of_ble_eq_true rfl) (Nat.le_of_ble_eq_true rfl) (Nat.le_of_ble_eq_true rfl) ?_
      exact ⟨by simp [cdSu, *], by simp [cdSu, *]⟩
  · skip
    replace c_1 := gz0.mp c_1
    refine g_throwS (own := RX1) (cls := "java/lang/IndexOutOfBoundsException") (text := "no such hour in the table") (names := tNs) (ik := 61) (is := 63) (ic := 65) C hQX hT hl9 (by decide) (by decide) k_X1_setSun_6 k_X1_setSun_7 (by decide +kernel) bad_IO x_X1_setSun_IO ot_IO dX1_setSun_10 dX1_setSun_13 dX1_setSun_14 dX1_setSun_16 dX1_setSun_19 (Nat.le_of_ble_eq_true rfl) (Nat.le_of_ble_eq_true rfl) (Nat.le_of_ble_eq_true rfl) (Nat.le_of_ble_eq_true rfl) (Nat.le_of_ble_eq_true rfl) (Nat.le_of_ble_eq_true rfl) ?_
    exact ⟨by simp [cdSu, *], by simp [cdSu, *]⟩

theorem x_X1_cell_IO : ∀ w ∈ (vx_atS RX1 65 "java/lang/IndexOutOfBoundsException" ["java/lang/RuntimeException", "java/lang/Exception"]).filter goodWord, w ∈ wsX1_cell := by
  intro w h
  simp only [wsX1_cell, List.mem_cons, List.mem_append, h, or_true, true_or]
theorem k_X1_cell_1 : Cond.classLink RX1 61 "java/lang/IndexOutOfBoundsException" ∈ wsX1_cell := by decide +kernel
theorem k_X1_cell_2 : Cond.initialized "java/lang/IndexOutOfBoundsException" ∈ wsX1_cell := by decide +kernel
set_option maxHeartbeats 4000000 in
set_option maxRecDepth 100000 in
theorem c_X1_cell (l : Launch) (hl9 : l.stackTraces = false) (D : va_G) (tys : List (ClassId × FieldType)) (cI cP : ClassId) (ht0 : tys[0]? = some (cI, .int)) (ht1 : tys[1]? = some (cP, .object RX0)) (h a1 a2 a3 a4 a5 a6 a7 np hr : Nat) (wet cover sun fs mk fd : Nat → Int32) (pcs : Nat → Option Nat) (pa : Nat → Nat) (P : Nat → Pd) (Y : va_W) (hnp : np ≤ 100) (hpc : ∀ k, k < np → pcs k = some (pa k)) (hg : Pok np P) (x y w9 : Int32) : gMx l yX1_cell wsX1_cell ({ frames := 7, cells := 2, slots := 12, locals := 121 } : Room) D tys [.ref h, .int x, .int y, .int w9] ((h, .inr (1, [.ref a1, .ref a2, .ref a3, .ref a4, .int (nI np), .int (nI hr), .ref a5, .ref a6, .ref a7])) :: (a1, .inl (cI, 80, .inl (wet))) :: (a2, .inl (cI, 80, .inl (cover))) :: (a3, .inl (cI, 8, .inl (sun))) :: (a4, .inl (cP, 100, .inr (.inr (.inr (.inr (pcs)))))) :: (a5, .inl (cI, 80, .inl (fs))) :: (a6, .inl (cI, 80, .inl (mk))) :: (a7, .inl (cI, 80, .inl (fd))) :: (plist pa P np ++ Y)) (gIy (cdCe x y w9 = 0) (some (.int (cfact np P wet cover (10 * vn y + vn x) (vn w9)))) ((h, .inr (1, [.ref a1, .ref a2, .ref a3, .ref a4, .int (nI np), .int (nI hr), .ref a5, .ref a6, .ref a7])) :: (a1, .inl (cI, 80, .inl (wet))) :: (a2, .inl (cI, 80, .inl (cover))) :: (a3, .inl (cI, 8, .inl (sun))) :: (a4, .inl (cP, 100, .inr (.inr (.inr (.inr (pcs)))))) :: (a5, .inl (cI, 80, .inl (fs))) :: (a6, .inl (cI, 80, .inl (mk))) :: (a7, .inl (cI, 80, .inl (fd))) :: (plist pa P np ++ Y))) (fun E => cdE (cdCe x y w9) nmO E) 2 12 := by
  refine gMx_of2 (by decide +kernel) rfl (Nat.le_of_ble_eq_true rfl) ?_
  intro p e s m args below meth c A Q C hT hQ hQX
  refine g_sub [0, 1, 2, 3] (lv' := [(0, .ref h), (1, .int x), (2, .int y), (3, .int w9)]) rfl ?_
  have hp := Pin_of (Y := Y) (P := P) hpc
  refine g_iload_n C dX1_cell_0 rfl 1 rfl ?_
  refine g_iload_n C dX1_cell_1 rfl 2 rfl ?_
  refine g_callSx (As := [.int x, .int y]) (rest := []) C hQX hT (c_X1_refuseOutside l hl9 D tys ((h, .inr (1, [.ref a1, .ref a2, .ref a3, .ref a4, .int (nI np), .int (nI hr), .ref a5, .ref a6, .ref a7])) :: (a1, .inl (cI, 80, .inl (wet))) :: (a2, .inl (cI, 80, .inl (cover))) :: (a3, .inl (cI, 8, .inl (sun))) :: (a4, .inl (cP, 100, .inr (.inr (.inr (.inr (pcs)))))) :: (a5, .inl (cI, 80, .inl (fs))) :: (a6, .inl (cI, 80, .inl (mk))) :: (a7, .inl (cI, 80, .inl (fd))) :: (plist pa P np ++ Y)) x y) (va_cwS 2 C.ts gX1_cell_X1_refuseOutside rfl rfl rfl (by decide +kernel) ⟨(Nat.le_of_ble_eq_true rfl), (Nat.le_of_ble_eq_true rfl)⟩) rfl rfl (Nat.le_of_ble_eq_true rfl) dX1_cell_2 (Nat.le_of_ble_eq_true rfl) (Nat.le_of_ble_eq_true rfl) (Nat.le_of_ble_eq_true rfl) (Nat.le_of_ble_eq_true rfl) (fun E h => ⟨by simp [cdCe, h.1], by rw [h.2]; simp [cdCe, h.1]⟩) (g_isYV (W1 := ((h, .inr (1, [.ref a1, .ref a2, .ref a3, .ref a4, .int (nI np), .int (nI hr), .ref a5, .ref a6, .ref a7])) :: (a1, .inl (cI, 80, .inl (wet))) :: (a2, .inl (cI, 80, .inl (cover))) :: (a3, .inl (cI, 8, .inl (sun))) :: (a4, .inl (cP, 100, .inr (.inr (.inr (.inr (pcs)))))) :: (a5, .inl (cI, 80, .inl (fs))) :: (a6, .inl (cI, 80, .inl (mk))) :: (a7, .inl (cI, 80, .inl (fd))) :: (plist pa P np ++ Y))) (fun how => ?_))
  refine g_more (k2 := 1) (n2 := 6) (Nat.le_of_ble_eq_true rfl) (Nat.le_of_ble_eq_true rfl) ?_
  refine g_iload_n C dX1_cell_5 rfl 3 rfl ?_
  refine g_iconst (v := 0) C dX1_cell_6 (by decide) ?_
  refine g_iconst (v := 2) C dX1_cell_7 (by decide) ?_
  refine g_callS (As := [.int w9, .int 0, .int 2]) (rest := []) C (c_X1_within l D tys ((h, .inr (1, [.ref a1, .ref a2, .ref a3, .ref a4, .int (nI np), .int (nI hr), .ref a5, .ref a6, .ref a7])) :: (a1, .inl (cI, 80, .inl (wet))) :: (a2, .inl (cI, 80, .inl (cover))) :: (a3, .inl (cI, 8, .inl (sun))) :: (a4, .inl (cP, 100, .inr (.inr (.inr (.inr (pcs)))))) :: (a5, .inl (cI, 80, .inl (fs))) :: (a6, .inl (cI, 80, .inl (mk))) :: (a7, .inl (cI, 80, .inl (fd))) :: (plist pa P np ++ Y)) w9 0 2) (va_cwS 3 C.ts gX1_cell_X1_within rfl rfl rfl (by decide +kernel) ⟨(Nat.le_of_ble_eq_true rfl), (Nat.le_of_ble_eq_true rfl)⟩) rfl rfl (Nat.le_of_ble_eq_true rfl) dX1_cell_8 (Nat.le_of_ble_eq_true rfl) (Nat.le_of_ble_eq_true rfl) (g_is (x := .int (gz (inR 0 2 w9))) (W1 := ((h, .inr (1, [.ref a1, .ref a2, .ref a3, .ref a4, .int (nI np), .int (nI hr), .ref a5, .ref a6, .ref a7])) :: (a1, .inl (cI, 80, .inl (wet))) :: (a2, .inl (cI, 80, .inl (cover))) :: (a3, .inl (cI, 8, .inl (sun))) :: (a4, .inl (cP, 100, .inr (.inr (.inr (.inr (pcs)))))) :: (a5, .inl (cI, 80, .inl (fs))) :: (a6, .inl (cI, 80, .inl (mk))) :: (a7, .inl (cI, 80, .inl (fd))) :: (plist pa P np ++ Y))) ?_)
  refine g_if_ne (tgt := 24) C dX1_cell_11 (by decide) (fun c_1 => ?_) (fun c_1 => ?_)
  · skip
    replace c_1 := gzn.mp c_1
    have how2 : inR 0 9 x = true ∧ inR 0 7 y = true := by simpa [onW] using how
    obtain ⟨x9, hx9, rfl⟩ := inR_nI (n := 9) rfl how2.1
    have hclx9 : vn (nI x9) = x9 := nI_clamp (by omega)
    obtain ⟨y9, hy9, rfl⟩ := inR_nI (n := 7) rfl how2.2
    have hcly9 : vn (nI y9) = y9 := nI_clamp (by omega)
    obtain ⟨w, hw, rfl⟩ := inR_nI (n := 2) rfl c_1
    have hclw : vn (nI w) = w := nI_clamp (by omega)
    refine g_aload_n C dX1_cell_24 rfl 0 rfl ?_
    refine g_iload_n C dX1_cell_25 rfl 1 rfl ?_
    refine g_iload_n C dX1_cell_26 rfl 2 rfl ?_
    refine g_callS (As := [.int (nI x9), .int (nI y9)]) (rest := [.ref h]) C (c_X1_cellOf l D tys ((h, .inr (1, [.ref a1, .ref a2, .ref a3, .ref a4, .int (nI np), .int (nI hr), .ref a5, .ref a6, .ref a7])) :: (a1, .inl (cI, 80, .inl (wet))) :: (a2, .inl (cI, 80, .inl (cover))) :: (a3, .inl (cI, 8, .inl (sun))) :: (a4, .inl (cP, 100, .inr (.inr (.inr (.inr (pcs)))))) :: (a5, .inl (cI, 80, .inl (fs))) :: (a6, .inl (cI, 80, .inl (mk))) :: (a7, .inl (cI, 80, .inl (fd))) :: (plist pa P np ++ Y)) (nI x9) (nI y9)) (va_cwS 2 C.ts gX1_cell_X1_cellOf rfl rfl rfl (by decide +kernel) ⟨(Nat.le_of_ble_eq_true rfl), (Nat.le_of_ble_eq_true rfl)⟩) rfl rfl (Nat.le_of_ble_eq_true rfl) dX1_cell_27 (Nat.le_of_ble_eq_true rfl) (Nat.le_of_ble_eq_true rfl) (g_is (x := .int (10 * (nI y9) + (nI x9))) (W1 := ((h, .inr (1, [.ref a1, .ref a2, .ref a3, .ref a4, .int (nI np), .int (nI hr), .ref a5, .ref a6, .ref a7])) :: (a1, .inl (cI, 80, .inl (wet))) :: (a2, .inl (cI, 80, .inl (cover))) :: (a3, .inl (cI, 8, .inl (sun))) :: (a4, .inl (cP, 100, .inr (.inr (.inr (.inr (pcs)))))) :: (a5, .inl (cI, 80, .inl (fs))) :: (a6, .inl (cI, 80, .inl (mk))) :: (a7, .inl (cI, 80, .inl (fd))) :: (plist pa P np ++ Y))) ?_)
    refine g_eqi (x := 10 * (nI y9) + (nI x9)) (y := nI (10 * y9 + x9)) (cel_nI _ _) ?_
    refine g_iload_n C dX1_cell_30 rfl 3 rfl ?_
    refine g_callV (ci := 1) (Cn := RX1) (As := [.int (nI (10 * y9 + x9)), .int (nI w)]) (rest := []) C gm0 rfl rfl (c_X1_cellFact l D tys cI ht0 cP ht1 ((h, .inr (1, [.ref a1, .ref a2, .ref a3, .ref a4, .int (nI np), .int (nI hr), .ref a5, .ref a6, .ref a7])) :: (a1, .inl (cI, 80, .inl (wet))) :: (a2, .inl (cI, 80, .inl (cover))) :: (a3, .inl (cI, 8, .inl (sun))) :: (a4, .inl (cP, 100, .inr (.inr (.inr (.inr (pcs)))))) :: (a5, .inl (cI, 80, .inl (fs))) :: (a6, .inl (cI, 80, .inl (mk))) :: (a7, .inl (cI, 80, .inl (fd))) :: (plist pa P np ++ Y)) h a1 a2 a3 a4 a5 a6 a7 np hr wet cover pcs pa P (10 * y9 + x9) w (by omega) (by omega) hnp (fun k9 hk9 => ⟨(hp k9 hk9).1, gmT (gmT (gmT (gmT (gmT (gmT (gmT (gmT (hp k9 hk9).2)))))))⟩) gm0 (gmT gm0) (gmT (gmT gm0)) (gmT (gmT (gmT (gmT gm0))))) (cwV 2 C.ts gX1_cell_X1_cellFact rfl rfl rfl (by decide +kernel) ⟨(Nat.le_of_ble_eq_true rfl), (Nat.le_of_ble_eq_true rfl)⟩) rfl rfl (Nat.le_of_ble_eq_true rfl) dX1_cell_31 (Nat.le_of_ble_eq_true rfl) (Nat.le_of_ble_eq_true rfl) (g_is (x := .int (cfact np P wet cover (10 * y9 + x9) w)) (W1 := ((h, .inr (1, [.ref a1, .ref a2, .ref a3, .ref a4, .int (nI np), .int (nI hr), .ref a5, .ref a6, .ref a7])) :: (a1, .inl (cI, 80, .inl (wet))) :: (a2, .inl (cI, 80, .inl (cover))) :: (a3, .inl (cI, 8, .inl (sun))) :: (a4, .inl (cP, 100, .inr (.inr (.inr (.inr (pcs)))))) :: (a5, .inl (cI, 80, .inl (fs))) :: (a6, .inl (cI, 80, .inl (mk))) :: (a7, .inl (cI, 80, .inl (fd))) :: (plist pa P np ++ Y))) ?_)
    refine g_iret C hQ (Nat.le_of_ble_eq_true rfl) (Nat.le_of_ble_eq_true rfl) dX1_cell_34 ?_
    exact ⟨by simp [cdCe, *], by simp [*], rfl⟩
  · skip
    replace c_1 := gz0.mp c_1
    refine g_throwS (own := RX1) (cls := "java/lang/IndexOutOfBoundsException") (text := "a cell has no such fact") (names := tNs) (ik := 61) (is := 141) (ic := 65) C hQX hT hl9 (by decide) (by decide) k_X1_cell_1 k_X1_cell_2 (by decide +kernel) bad_IO x_X1_cell_IO ot_IO dX1_cell_14 dX1_cell_17 dX1_cell_18 dX1_cell_20 dX1_cell_23 (Nat.le_of_ble_eq_true rfl) (Nat.le_of_ble_eq_true rfl) (Nat.le_of_ble_eq_true rfl) (Nat.le_of_ble_eq_true rfl) (Nat.le_of_ble_eq_true rfl) (Nat.le_of_ble_eq_true rfl) ?_
    exact ⟨by simp [cdCe, *], by simp [cdCe, *]⟩

theorem x_X1_piece_IO : ∀ w ∈ (vx_atS RX1 65 "java/lang/IndexOutOfBoundsException" ["java/lang/RuntimeException", "java/lang/Exception"]).filter goodWord, w ∈ wsX1_piece := by
  intro w h
  simp only [wsX1_piece, List.mem_cons, List.mem_append, h, or_true, true_or]
theorem k_X1_piece_1 : Cond.classLink RX1 61 "java/lang/IndexOutOfBoundsException" ∈ wsX1_piece := by decide +kernel
theorem k_X1_piece_2 : Cond.initialized "java/lang/IndexOutOfBoundsException" ∈ wsX1_piece := by decide +kernel
set_option maxHeartbeats 4000000 in
set_option maxRecDepth 100000 in
theorem c_X1_piece (l : Launch) (hl9 : l.stackTraces = false) (D : va_G) (tys : List (ClassId × FieldType)) (cI cP : ClassId) (ht0 : tys[0]? = some (cI, .int)) (ht1 : tys[1]? = some (cP, .object RX0)) (h a1 a2 a3 a4 a5 a6 a7 np hr : Nat) (wet cover sun fs mk fd : Nat → Int32) (pcs : Nat → Option Nat) (pa : Nat → Nat) (P : Nat → Pd) (Y : va_W) (hnp : np ≤ 100) (hpc : ∀ k, k < np → pcs k = some (pa k)) (hg : Pok np P) (v w9 : Int32) : gMx l yX1_piece wsX1_piece ({ frames := 6, cells := 1, slots := 6, locals := 100 } : Room) D tys [.ref h, .int v, .int w9] ((h, .inr (1, [.ref a1, .ref a2, .ref a3, .ref a4, .int (nI np), .int (nI hr), .ref a5, .ref a6, .ref a7])) :: (a1, .inl (cI, 80, .inl (wet))) :: (a2, .inl (cI, 80, .inl (cover))) :: (a3, .inl (cI, 8, .inl (sun))) :: (a4, .inl (cP, 100, .inr (.inr (.inr (.inr (pcs)))))) :: (a5, .inl (cI, 80, .inl (fs))) :: (a6, .inl (cI, 80, .inl (mk))) :: (a7, .inl (cI, 80, .inl (fd))) :: (plist pa P np ++ Y)) (gIy (cdPi np v w9 = 0) (some (.int (pfact (P (vn v)) wet (vn w9)))) ((h, .inr (1, [.ref a1, .ref a2, .ref a3, .ref a4, .int (nI np), .int (nI hr), .ref a5, .ref a6, .ref a7])) :: (a1, .inl (cI, 80, .inl (wet))) :: (a2, .inl (cI, 80, .inl (cover))) :: (a3, .inl (cI, 8, .inl (sun))) :: (a4, .inl (cP, 100, .inr (.inr (.inr (.inr (pcs)))))) :: (a5, .inl (cI, 80, .inl (fs))) :: (a6, .inl (cI, 80, .inl (mk))) :: (a7, .inl (cI, 80, .inl (fd))) :: (plist pa P np ++ Y))) (fun E => cdE (cdPi np v w9) nmO E) 1 6 := by
  refine gMx_of2 (by decide +kernel) rfl (Nat.le_of_ble_eq_true rfl) ?_
  intro p e s m args below meth c A Q C hT hQ hQX
  refine g_sub [0, 1, 2] (lv' := [(0, .ref h), (1, .int v), (2, .int w9)]) rfl ?_
  have hp := Pin_of (Y := Y) (P := P) hpc
  refine g_aload_n C dX1_piece_0 rfl 0 rfl ?_
  refine g_iload_n C dX1_piece_1 rfl 1 rfl ?_
  refine g_callV (ci := 1) (Cn := RX1) (As := [.int v]) (rest := []) C gm0 rfl rfl (c_X1_find l D tys cP ht1 ((h, .inr (1, [.ref a1, .ref a2, .ref a3, .ref a4, .int (nI np), .int (nI hr), .ref a5, .ref a6, .ref a7])) :: (a1, .inl (cI, 80, .inl (wet))) :: (a2, .inl (cI, 80, .inl (cover))) :: (a3, .inl (cI, 8, .inl (sun))) :: (a4, .inl (cP, 100, .inr (.inr (.inr (.inr (pcs)))))) :: (a5, .inl (cI, 80, .inl (fs))) :: (a6, .inl (cI, 80, .inl (mk))) :: (a7, .inl (cI, 80, .inl (fd))) :: (plist pa P np ++ Y)) h a1 a2 a3 a4 a5 a6 a7 np hr pcs v hnp gm0 (gmT (gmT (gmT (gmT gm0))))) (cwV 1 C.ts gX1_piece_X1_find rfl rfl rfl (by decide +kernel) ⟨(Nat.le_of_ble_eq_true rfl), (Nat.le_of_ble_eq_true rfl)⟩) rfl rfl (Nat.le_of_ble_eq_true rfl) dX1_piece_2 (Nat.le_of_ble_eq_true rfl) (Nat.le_of_ble_eq_true rfl) (g_is (x := va_rf (fnd np pcs v)) (W1 := ((h, .inr (1, [.ref a1, .ref a2, .ref a3, .ref a4, .int (nI np), .int (nI hr), .ref a5, .ref a6, .ref a7])) :: (a1, .inl (cI, 80, .inl (wet))) :: (a2, .inl (cI, 80, .inl (cover))) :: (a3, .inl (cI, 8, .inl (sun))) :: (a4, .inl (cP, 100, .inr (.inr (.inr (.inr (pcs)))))) :: (a5, .inl (cI, 80, .inl (fs))) :: (a6, .inl (cI, 80, .inl (mk))) :: (a7, .inl (cI, 80, .inl (fd))) :: (plist pa P np ++ Y))) ?_)
  cases hv : inR 0 (nI np - 1) v with
  | false =>
    refine g_eqv (x := va_rf (fnd np pcs v)) (y := .null) (by rw [fnd, if_neg (by simp [hv])]; rfl) ?_
    refine g_astore_nN (lv' := [(3, .null), (0, .ref h), (1, .int v), (2, .int w9)]) C dX1_piece_5 rfl (by decide) rfl ?_
    refine g_aload_nN C dX1_piece_6 rfl 0 rfl ?_
    refine g_ifnonnullN C dX1_piece_7 ?_
    refine g_throwS (own := RX1) (cls := "java/lang/IndexOutOfBoundsException") (text := "no such piece") (names := tNs) (ik := 61) (is := 98) (ic := 65) C hQX hT hl9 (by decide) (by decide) k_X1_piece_1 k_X1_piece_2 (by decide +kernel) bad_IO x_X1_piece_IO ot_IO dX1_piece_10 dX1_piece_13 dX1_piece_14 dX1_piece_16 dX1_piece_19 (Nat.le_of_ble_eq_true rfl) (Nat.le_of_ble_eq_true rfl) (Nat.le_of_ble_eq_true rfl) (Nat.le_of_ble_eq_true rfl) (Nat.le_of_ble_eq_true rfl) (Nat.le_of_ble_eq_true rfl) ?_
    exact ⟨by simp [cdPi, pIn, *], by simp [cdPi, pIn, *]⟩
  | true =>
    obtain ⟨k, hk, rfl⟩ := inR_np (by omega) hv
    have hclk : vn (nI k) = k := nI_clamp (by omega)
    refine g_eqv (x := va_rf (fnd np pcs (nI k))) (y := .ref (pa k)) (fnd_nI hk hnp (hp k hk).1) ?_
    refine g_astore_n (lv' := [(3, .ref (pa k)), (0, .ref h), (1, .int (nI k)), (2, .int w9)]) C dX1_piece_5 rfl (by decide) rfl ?_
    refine g_aload_n C dX1_piece_6 rfl 0 rfl ?_
    refine g_ifnonnull (tgt := 20) C dX1_piece_7 (by decide) ?_
    refine g_iload_n C dX1_piece_20 rfl 3 rfl ?_
    refine g_iconst (v := 0) C dX1_piece_21 (by decide) ?_
    refine g_bipush (v := 7) C dX1_piece_22 (by decide) ?_
    refine g_callS (As := [.int w9, .int 0, .int 7]) (rest := []) C (c_X1_within l D tys ((h, .inr (1, [.ref a1, .ref a2, .ref a3, .ref a4, .int (nI np), .int (nI hr), .ref a5, .ref a6, .ref a7])) :: (a1, .inl (cI, 80, .inl (wet))) :: (a2, .inl (cI, 80, .inl (cover))) :: (a3, .inl (cI, 8, .inl (sun))) :: (a4, .inl (cP, 100, .inr (.inr (.inr (.inr (pcs)))))) :: (a5, .inl (cI, 80, .inl (fs))) :: (a6, .inl (cI, 80, .inl (mk))) :: (a7, .inl (cI, 80, .inl (fd))) :: (plist pa P np ++ Y)) w9 0 7) (va_cwS 3 C.ts gX1_piece_X1_within rfl rfl rfl (by decide +kernel) ⟨(Nat.le_of_ble_eq_true rfl), (Nat.le_of_ble_eq_true rfl)⟩) rfl rfl (Nat.le_of_ble_eq_true rfl) dX1_piece_24 (Nat.le_of_ble_eq_true rfl) (Nat.le_of_ble_eq_true rfl) (g_is (x := .int (gz (inR 0 7 w9))) (W1 := ((h, .inr (1, [.ref a1, .ref a2, .ref a3, .ref a4, .int (nI np), .int (nI hr), .ref a5, .ref a6, .ref a7])) :: (a1, .inl (cI, 80, .inl (wet))) :: (a2, .inl (cI, 80, .inl (cover))) :: (a3, .inl (cI, 8, .inl (sun))) :: (a4, .inl (cP, 100, .inr (.inr (.inr (.inr (pcs)))))) :: (a5, .inl (cI, 80, .inl (fs))) :: (a6, .inl (cI, 80, .inl (mk))) :: (a7, .inl (cI, 80, .inl (fd))) :: (plist pa P np ++ Y))) ?_)
    refine g_if_ne (tgt := 40) C dX1_piece_27 (by decide) (fun c_1 => ?_) (fun c_1 => ?_)
    · skip
      replace c_1 := gzn.mp c_1
      obtain ⟨w, hw, rfl⟩ := inR_nI (n := 7) rfl c_1
      have hclw : vn (nI w) = w := nI_clamp (by omega)
      refine g_aload_n C dX1_piece_40 rfl 1 rfl ?_
      refine g_aload_n C dX1_piece_41 rfl 0 rfl ?_
      refine g_iload_n C dX1_piece_42 rfl 3 rfl ?_
      refine g_callV (ci := 1) (Cn := RX1) (As := [.ref (pa k), .int (nI w)]) (rest := []) C gm0 rfl rfl (c_X1_pieceFact l D tys cI ht0 ((h, .inr (1, [.ref a1, .ref a2, .ref a3, .ref a4, .int (nI np), .int (nI hr), .ref a5, .ref a6, .ref a7])) :: (a1, .inl (cI, 80, .inl (wet))) :: (a2, .inl (cI, 80, .inl (cover))) :: (a3, .inl (cI, 8, .inl (sun))) :: (a4, .inl (cP, 100, .inr (.inr (.inr (.inr (pcs)))))) :: (a5, .inl (cI, 80, .inl (fs))) :: (a6, .inl (cI, 80, .inl (mk))) :: (a7, .inl (cI, 80, .inl (fd))) :: (plist pa P np ++ Y)) h a1 a2 a3 a4 a5 a6 a7 np hr wet (pa k) (P k) w (by omega) (hg k (by omega)) gm0 (gmT gm0) (gmT (gmT (gmT (gmT (gmT (gmT (gmT (gmT (hp k hk).2))))))))) (cwV 2 C.ts gX1_piece_X1_pieceFact rfl rfl rfl (by decide +kernel) ⟨(Nat.le_of_ble_eq_true rfl), (Nat.le_of_ble_eq_true rfl)⟩) rfl rfl (Nat.le_of_ble_eq_true rfl) dX1_piece_43 (Nat.le_of_ble_eq_true rfl) (Nat.le_of_ble_eq_true rfl) (g_is (x := .int (pfact (P k) wet w)) (W1 := ((h, .inr (1, [.ref a1, .ref a2, .ref a3, .ref a4, .int (nI np), .int (nI hr), .ref a5, .ref a6, .ref a7])) :: (a1, .inl (cI, 80, .inl (wet))) :: (a2, .inl (cI, 80, .inl (cover))) :: (a3, .inl (cI, 8, .inl (sun))) :: (a4, .inl (cP, 100, .inr (.inr (.inr (.inr (pcs)))))) :: (a5, .inl (cI, 80, .inl (fs))) :: (a6, .inl (cI, 80, .inl (mk))) :: (a7, .inl (cI, 80, .inl (fd))) :: (plist pa P np ++ Y))) ?_)
      refine g_iret C hQ (Nat.le_of_ble_eq_true rfl) (Nat.le_of_ble_eq_true rfl) dX1_piece_46 ?_
      exact ⟨by simp [cdPi, pIn, *], by simp [*], rfl⟩
    · skip
      replace c_1 := gz0.mp c_1
      refine g_throwS (own := RX1) (cls := "java/lang/IndexOutOfBoundsException") (text := "a piece has no such fact") (names := tNs) (ik := 61) (is := 146) (ic := 65) C hQX hT hl9 (by decide) (by decide) k_X1_piece_1 k_X1_piece_2 (by decide +kernel) bad_IO x_X1_piece_IO ot_IO dX1_piece_30 dX1_piece_33 dX1_piece_34 dX1_piece_36 dX1_piece_39 (Nat.le_of_ble_eq_true rfl) (Nat.le_of_ble_eq_true rfl) (Nat.le_of_ble_eq_true rfl) (Nat.le_of_ble_eq_true rfl) (Nat.le_of_ble_eq_true rfl) (Nat.le_of_ble_eq_true rfl) ?_
      exact ⟨by simp [cdPi, pIn, *], by simp [cdPi, pIn, *]⟩

theorem x_X1_count_IO : ∀ w ∈ (vx_atS RX1 65 "java/lang/IndexOutOfBoundsException" ["java/lang/RuntimeException", "java/lang/Exception"]).filter goodWord, w ∈ wsX1_count := by
  intro w h
  simp only [wsX1_count, List.mem_cons, List.mem_append, h, or_true, true_or]
theorem k_X1_count_1 : Cond.classLink RX1 61 "java/lang/IndexOutOfBoundsException" ∈ wsX1_count := by decide +kernel
theorem k_X1_count_2 : Cond.initialized "java/lang/IndexOutOfBoundsException" ∈ wsX1_count := by decide +kernel
set_option maxHeartbeats 4000000 in
set_option maxRecDepth 100000 in
theorem c_X1_count (l : Launch) (hl9 : l.stackTraces = false) (D : va_G) (tys : List (ClassId × FieldType)) (cI cP : ClassId) (ht0 : tys[0]? = some (cI, .int)) (ht1 : tys[1]? = some (cP, .object RX0)) (h a1 a2 a3 a4 a5 a6 a7 np hr : Nat) (wet cover sun fs mk fd : Nat → Int32) (pcs : Nat → Option Nat) (pa : Nat → Nat) (P : Nat → Pd) (Y : va_W) (hnp : np ≤ 100) (hpc : ∀ k, k < np → pcs k = some (pa k)) (hg : Pok np P) (w9 : Int32) : gMx l yX1_count wsX1_count ({ frames := 6, cells := 1, slots := 6, locals := 137 } : Room) D tys [.ref h, .int w9] ((h, .inr (1, [.ref a1, .ref a2, .ref a3, .ref a4, .int (nI np), .int (nI hr), .ref a5, .ref a6, .ref a7])) :: (a1, .inl (cI, 80, .inl (wet))) :: (a2, .inl (cI, 80, .inl (cover))) :: (a3, .inl (cI, 8, .inl (sun))) :: (a4, .inl (cP, 100, .inr (.inr (.inr (.inr (pcs)))))) :: (a5, .inl (cI, 80, .inl (fs))) :: (a6, .inl (cI, 80, .inl (mk))) :: (a7, .inl (cI, 80, .inl (fd))) :: (plist pa P np ++ Y)) (gIy (cdCo w9 = 0) (some (.int (cntf np hr P wet cover fd (vn w9)))) ((h, .inr (1, [.ref a1, .ref a2, .ref a3, .ref a4, .int (nI np), .int (nI hr), .ref a5, .ref a6, .ref a7])) :: (a1, .inl (cI, 80, .inl (wet))) :: (a2, .inl (cI, 80, .inl (cover))) :: (a3, .inl (cI, 8, .inl (sun))) :: (a4, .inl (cP, 100, .inr (.inr (.inr (.inr (pcs)))))) :: (a5, .inl (cI, 80, .inl (fs))) :: (a6, .inl (cI, 80, .inl ((cntW cover mk fd (vn w9)).1))) :: (a7, .inl (cI, 80, .inl ((cntW cover mk fd (vn w9)).2))) :: (plist pa P np ++ Y))) (fun E => cdE (cdCo w9) nmO E) 1 6 := by
  refine gMx_of2 (by decide +kernel) rfl (Nat.le_of_ble_eq_true rfl) ?_
  intro p e s m args below meth c A Q C hT hQ hQX
  refine g_sub [0, 1] (lv' := [(0, .ref h), (1, .int w9)]) rfl ?_
  have hp := Pin_of (Y := Y) (P := P) hpc
  refine g_iload_n C dX1_count_0 rfl 1 rfl ?_
  refine g_iconst (v := 0) C dX1_count_1 (by decide) ?_
  refine g_bipush (v := 7) C dX1_count_2 (by decide) ?_
  refine g_callS (As := [.int w9, .int 0, .int 7]) (rest := []) C (c_X1_within l D tys ((h, .inr (1, [.ref a1, .ref a2, .ref a3, .ref a4, .int (nI np), .int (nI hr), .ref a5, .ref a6, .ref a7])) :: (a1, .inl (cI, 80, .inl (wet))) :: (a2, .inl (cI, 80, .inl (cover))) :: (a3, .inl (cI, 8, .inl (sun))) :: (a4, .inl (cP, 100, .inr (.inr (.inr (.inr (pcs)))))) :: (a5, .inl (cI, 80, .inl (fs))) :: (a6, .inl (cI, 80, .inl (mk))) :: (a7, .inl (cI, 80, .inl (fd))) :: (plist pa P np ++ Y)) w9 0 7) (va_cwS 3 C.ts gX1_count_X1_within rfl rfl rfl (by decide +kernel) ⟨(Nat.le_of_ble_eq_true rfl), (Nat.le_of_ble_eq_true rfl)⟩) rfl rfl (Nat.le_of_ble_eq_true rfl) dX1_count_4 (Nat.le_of_ble_eq_true rfl) (Nat.le_of_ble_eq_true rfl) (g_is (x := .int (gz (inR 0 7 w9))) (W1 := ((h, .inr (1, [.ref a1, .ref a2, .ref a3, .ref a4, .int (nI np), .int (nI hr), .ref a5, .ref a6, .ref a7])) :: (a1, .inl (cI, 80, .inl (wet))) :: (a2, .inl (cI, 80, .inl (cover))) :: (a3, .inl (cI, 8, .inl (sun))) :: (a4, .inl (cP, 100, .inr (.inr (.inr (.inr (pcs)))))) :: (a5, .inl (cI, 80, .inl (fs))) :: (a6, .inl (cI, 80, .inl (mk))) :: (a7, .inl (cI, 80, .inl (fd))) :: (plist pa P np ++ Y))) ?_)
  refine g_if_ne (tgt := 20) C dX1_count_7 (by decide) (fun c_1 => ?_) (fun c_1 => ?_)
  · skip
    replace c_1 := gzn.mp c_1
    obtain ⟨w, hw, rfl⟩ := inR_nI (n := 7) rfl c_1
    have hclw : vn (nI w) = w := nI_clamp (by omega)
    refine g_aload_n C dX1_count_20 rfl 0 rfl ?_
    refine g_iload_n C dX1_count_21 rfl 1 rfl ?_
    refine g_callV (ci := 1) (Cn := RX1) (As := [.int (nI w)]) (rest := []) C gm0 rfl rfl (c_X1_countFact l D tys cI cP ht0 ht1 h a1 a2 a3 a4 a5 a6 a7 np hr wet cover sun fs mk fd pcs pa P Y hnp hpc hg w (by omega)) (cwV 1 C.ts gX1_count_X1_countFact rfl rfl rfl (by decide +kernel) ⟨(Nat.le_of_ble_eq_true rfl), (Nat.le_of_ble_eq_true rfl)⟩) rfl rfl (Nat.le_of_ble_eq_true rfl) dX1_count_22 (Nat.le_of_ble_eq_true rfl) (Nat.le_of_ble_eq_true rfl) (g_is (x := .int (cntf np hr P wet cover fd w)) (W1 := ((h, .inr (1, [.ref a1, .ref a2, .ref a3, .ref a4, .int (nI np), .int (nI hr), .ref a5, .ref a6, .ref a7])) :: (a1, .inl (cI, 80, .inl (wet))) :: (a2, .inl (cI, 80, .inl (cover))) :: (a3, .inl (cI, 8, .inl (sun))) :: (a4, .inl (cP, 100, .inr (.inr (.inr (.inr (pcs)))))) :: (a5, .inl (cI, 80, .inl (fs))) :: (a6, .inl (cI, 80, .inl ((cntW cover mk fd w).1))) :: (a7, .inl (cI, 80, .inl ((cntW cover mk fd w).2))) :: (plist pa P np ++ Y))) ?_)
    refine g_iret C hQ (Nat.le_of_ble_eq_true rfl) (Nat.le_of_ble_eq_true rfl) dX1_count_25 ?_
    exact ⟨by simp [cdCo, *], by simp [*], by simp [*]⟩
  · skip
    replace c_1 := gz0.mp c_1
    refine g_throwS (own := RX1) (cls := "java/lang/IndexOutOfBoundsException") (text := "no such count") (names := tNs) (ik := 61) (is := 152) (ic := 65) C hQX hT hl9 (by decide) (by decide) k_X1_count_1 k_X1_count_2 (by decide +kernel) bad_IO x_X1_count_IO ot_IO dX1_count_10 dX1_count_13 dX1_count_14 dX1_count_16 dX1_count_19 (Nat.le_of_ble_eq_true rfl) (Nat.le_of_ble_eq_true rfl) (Nat.le_of_ble_eq_true rfl) (Nat.le_of_ble_eq_true rfl) (Nat.le_of_ble_eq_true rfl) (Nat.le_of_ble_eq_true rfl) ?_
    exact ⟨by simp [cdCo, *], by simp [cdCo, *]⟩

set_option maxHeartbeats 4000000 in
set_option maxRecDepth 100000 in
theorem c_X1_off (l : Launch) (hl9 : l.stackTraces = false) (D : va_G) (tys : List (ClassId × FieldType)) (cI cP : ClassId) (ht0 : tys[0]? = some (cI, .int)) (ht1 : tys[1]? = some (cP, .object RX0)) (h a1 a2 a3 a4 a5 a6 a7 np hr : Nat) (wet cover sun fs mk fd : Nat → Int32) (pcs : Nat → Option Nat) (pa : Nat → Nat) (P : Nat → Pd) (Y : va_W) (hnp : np ≤ 100) (hpc : ∀ k, k < np → pcs k = some (pa k)) (hg : Pok np P) (k9 a b : Int32) : gMx l yX1_off wsX1_off ({ frames := 7, cells := 1, slots := 6, locals := 122 } : Room) D tys [.ref h, .int k9, .int a, .int b] ((h, .inr (1, [.ref a1, .ref a2, .ref a3, .ref a4, .int (nI np), .int (nI hr), .ref a5, .ref a6, .ref a7])) :: (a1, .inl (cI, 80, .inl (wet))) :: (a2, .inl (cI, 80, .inl (cover))) :: (a3, .inl (cI, 8, .inl (sun))) :: (a4, .inl (cP, 100, .inr (.inr (.inr (.inr (pcs)))))) :: (a5, .inl (cI, 80, .inl (fs))) :: (a6, .inl (cI, 80, .inl (mk))) :: (a7, .inl (cI, 80, .inl (fd))) :: (plist pa P np ++ Y)) (gIy (cdP k9 a b = 0) (some (.int (nI (cnt (offB np P cover (vn k9) a b) 80)))) ((h, .inr (1, [.ref a1, .ref a2, .ref a3, .ref a4, .int (nI np), .int (nI hr), .ref a5, .ref a6, .ref a7])) :: (a1, .inl (cI, 80, .inl (wet))) :: (a2, .inl (cI, 80, .inl (cover))) :: (a3, .inl (cI, 8, .inl (sun))) :: (a4, .inl (cP, 100, .inr (.inr (.inr (.inr (pcs)))))) :: (a5, .inl (cI, 80, .inl (fs))) :: (a6, .inl (cI, 80, .inl (mk))) :: (a7, .inl (cI, 80, .inl (fd))) :: (plist pa P np ++ Y))) (fun E => cdE (cdP k9 a b) nmA E) 1 6 := by
  refine gMx_of2 (by decide +kernel) rfl (Nat.le_of_ble_eq_true rfl) ?_
  intro p e s m args below meth c A Q C hT hQ hQX
  refine g_sub [0, 1, 2, 3] (lv' := [(0, .ref h), (1, .int k9), (2, .int a), (3, .int b)]) rfl ?_
  have hp := Pin_of (Y := Y) (P := P) hpc
  refine g_iload_n C dX1_off_0 rfl 1 rfl ?_
  refine g_iload_n C dX1_off_1 rfl 2 rfl ?_
  refine g_iload_n C dX1_off_2 rfl 3 rfl ?_
  refine g_callSx (As := [.int k9, .int a, .int b]) (rest := []) C hQX hT (c_X1_refuseNoPattern l hl9 D tys ((h, .inr (1, [.ref a1, .ref a2, .ref a3, .ref a4, .int (nI np), .int (nI hr), .ref a5, .ref a6, .ref a7])) :: (a1, .inl (cI, 80, .inl (wet))) :: (a2, .inl (cI, 80, .inl (cover))) :: (a3, .inl (cI, 8, .inl (sun))) :: (a4, .inl (cP, 100, .inr (.inr (.inr (.inr (pcs)))))) :: (a5, .inl (cI, 80, .inl (fs))) :: (a6, .inl (cI, 80, .inl (mk))) :: (a7, .inl (cI, 80, .inl (fd))) :: (plist pa P np ++ Y)) k9 a b) (va_cwS 3 C.ts gX1_off_X1_refuseNoPattern rfl rfl rfl (by decide +kernel) ⟨(Nat.le_of_ble_eq_true rfl), (Nat.le_of_ble_eq_true rfl)⟩) rfl rfl (Nat.le_of_ble_eq_true rfl) dX1_off_3 (Nat.le_of_ble_eq_true rfl) (Nat.le_of_ble_eq_true rfl) (Nat.le_of_ble_eq_true rfl) (Nat.le_of_ble_eq_true rfl) (fun E h => ⟨by simp [cdP, h.1], by rw [h.2]; simp [cdP, h.1]⟩) (g_isYV (W1 := ((h, .inr (1, [.ref a1, .ref a2, .ref a3, .ref a4, .int (nI np), .int (nI hr), .ref a5, .ref a6, .ref a7])) :: (a1, .inl (cI, 80, .inl (wet))) :: (a2, .inl (cI, 80, .inl (cover))) :: (a3, .inl (cI, 8, .inl (sun))) :: (a4, .inl (cP, 100, .inr (.inr (.inr (.inr (pcs)))))) :: (a5, .inl (cI, 80, .inl (fs))) :: (a6, .inl (cI, 80, .inl (mk))) :: (a7, .inl (cI, 80, .inl (fd))) :: (plist pa P np ++ Y))) (fun hpt => ?_))
  refine g_more (k2 := 1) (n2 := 6) (Nat.le_of_ble_eq_true rfl) (Nat.le_of_ble_eq_true rfl) ?_
  have hpt2 : inR 0 3 k9 = true ∧ inR 0 6 a = true ∧ inR 0 6 b = true := by simpa [patB] using hpt
  obtain ⟨kk, hkk, rfl⟩ := inR_nI (n := 3) rfl hpt2.1
  have hclkk : vn (nI kk) = kk := nI_clamp (by omega)
  refine g_aload_n C dX1_off_6 rfl 0 rfl ?_
  refine g_iload_n C dX1_off_7 rfl 1 rfl ?_
  refine g_iload_n C dX1_off_8 rfl 2 rfl ?_
  refine g_iload_n C dX1_off_9 rfl 3 rfl ?_
  refine g_callV (ci := 1) (Cn := RX1) (As := [.int (nI kk), .int a, .int b]) (rest := []) C gm0 rfl rfl (c_X1_cellsOff l D tys cI ht0 cP ht1 ((h, .inr (1, [.ref a1, .ref a2, .ref a3, .ref a4, .int (nI np), .int (nI hr), .ref a5, .ref a6, .ref a7])) :: (a1, .inl (cI, 80, .inl (wet))) :: (a2, .inl (cI, 80, .inl (cover))) :: (a3, .inl (cI, 8, .inl (sun))) :: (a4, .inl (cP, 100, .inr (.inr (.inr (.inr (pcs)))))) :: (a5, .inl (cI, 80, .inl (fs))) :: (a6, .inl (cI, 80, .inl (mk))) :: (a7, .inl (cI, 80, .inl (fd))) :: (plist pa P np ++ Y)) h a1 a2 a3 a4 a5 a6 a7 np hr cover pcs pa P kk a b (by omega) hnp (fun k9 hk9 => ⟨(hp k9 hk9).1, gmT (gmT (gmT (gmT (gmT (gmT (gmT (gmT (hp k9 hk9).2)))))))⟩) gm0 (gmT (gmT gm0)) (gmT (gmT (gmT (gmT gm0))))) (cwV 3 C.ts gX1_off_X1_cellsOff rfl rfl rfl (by decide +kernel) ⟨(Nat.le_of_ble_eq_true rfl), (Nat.le_of_ble_eq_true rfl)⟩) rfl rfl (Nat.le_of_ble_eq_true rfl) dX1_off_10 (Nat.le_of_ble_eq_true rfl) (Nat.le_of_ble_eq_true rfl) (g_is (x := .int (nI (cnt (offB np P cover kk a b) 80))) (W1 := ((h, .inr (1, [.ref a1, .ref a2, .ref a3, .ref a4, .int (nI np), .int (nI hr), .ref a5, .ref a6, .ref a7])) :: (a1, .inl (cI, 80, .inl (wet))) :: (a2, .inl (cI, 80, .inl (cover))) :: (a3, .inl (cI, 8, .inl (sun))) :: (a4, .inl (cP, 100, .inr (.inr (.inr (.inr (pcs)))))) :: (a5, .inl (cI, 80, .inl (fs))) :: (a6, .inl (cI, 80, .inl (mk))) :: (a7, .inl (cI, 80, .inl (fd))) :: (plist pa P np ++ Y))) ?_)
  refine g_iret C hQ (Nat.le_of_ble_eq_true rfl) (Nat.le_of_ble_eq_true rfl) dX1_off_13 ?_
  exact ⟨by simp [cdP, *], by simp [*], rfl⟩

set_option maxHeartbeats 4000000 in
set_option maxRecDepth 100000 in
theorem c_X1_gap (l : Launch) (hl9 : l.stackTraces = false) (D : va_G) (tys : List (ClassId × FieldType)) (cI cP : ClassId) (ht0 : tys[0]? = some (cI, .int)) (ht1 : tys[1]? = some (cP, .object RX0)) (h a1 a2 a3 a4 a5 a6 a7 np hr : Nat) (wet cover sun fs mk fd : Nat → Int32) (pcs : Nat → Option Nat) (pa : Nat → Nat) (P : Nat → Pd) (Y : va_W) (hnp : np ≤ 100) (hpc : ∀ k, k < np → pcs k = some (pa k)) (hg : Pok np P) (x y : Int32) : gMx l yX1_gap wsX1_gap ({ frames := 7, cells := 1, slots := 6, locals := 121 } : Room) D tys [.ref h, .int x, .int y] ((h, .inr (1, [.ref a1, .ref a2, .ref a3, .ref a4, .int (nI np), .int (nI hr), .ref a5, .ref a6, .ref a7])) :: (a1, .inl (cI, 80, .inl (wet))) :: (a2, .inl (cI, 80, .inl (cover))) :: (a3, .inl (cI, 8, .inl (sun))) :: (a4, .inl (cP, 100, .inr (.inr (.inr (.inr (pcs)))))) :: (a5, .inl (cI, 80, .inl (fs))) :: (a6, .inl (cI, 80, .inl (mk))) :: (a7, .inl (cI, 80, .inl (fd))) :: (plist pa P np ++ Y)) (gIy (cdO x y = 0) (some (.int (nI (mgp cover x y (fun _ => 0) fd).2.2))) ((h, .inr (1, [.ref a1, .ref a2, .ref a3, .ref a4, .int (nI np), .int (nI hr), .ref a5, .ref a6, .ref a7])) :: (a1, .inl (cI, 80, .inl (wet))) :: (a2, .inl (cI, 80, .inl (cover))) :: (a3, .inl (cI, 8, .inl (sun))) :: (a4, .inl (cP, 100, .inr (.inr (.inr (.inr (pcs)))))) :: (a5, .inl (cI, 80, .inl (fs))) :: (a6, .inl (cI, 80, .inl ((mgp cover x y (fun _ => 0) fd).1))) :: (a7, .inl (cI, 80, .inl ((mgp cover x y (fun _ => 0) fd).2.1))) :: (plist pa P np ++ Y))) (fun E => cdE (cdO x y) nmO E) 1 6 := by
  refine gMx_of2 (by decide +kernel) rfl (Nat.le_of_ble_eq_true rfl) ?_
  intro p e s m args below meth c A Q C hT hQ hQX
  refine g_sub [0, 1, 2] (lv' := [(0, .ref h), (1, .int x), (2, .int y)]) rfl ?_
  refine g_iload_n C dX1_gap_0 rfl 1 rfl ?_
  refine g_iload_n C dX1_gap_1 rfl 2 rfl ?_
  refine g_callSx (As := [.int x, .int y]) (rest := []) C hQX hT (c_X1_refuseOutside l hl9 D tys ((h, .inr (1, [.ref a1, .ref a2, .ref a3, .ref a4, .int (nI np), .int (nI hr), .ref a5, .ref a6, .ref a7])) :: (a1, .inl (cI, 80, .inl (wet))) :: (a2, .inl (cI, 80, .inl (cover))) :: (a3, .inl (cI, 8, .inl (sun))) :: (a4, .inl (cP, 100, .inr (.inr (.inr (.inr (pcs)))))) :: (a5, .inl (cI, 80, .inl (fs))) :: (a6, .inl (cI, 80, .inl (mk))) :: (a7, .inl (cI, 80, .inl (fd))) :: (plist pa P np ++ Y)) x y) (va_cwS 2 C.ts gX1_gap_X1_refuseOutside rfl rfl rfl (by decide +kernel) ⟨(Nat.le_of_ble_eq_true rfl), (Nat.le_of_ble_eq_true rfl)⟩) rfl rfl (Nat.le_of_ble_eq_true rfl) dX1_gap_2 (Nat.le_of_ble_eq_true rfl) (Nat.le_of_ble_eq_true rfl) (Nat.le_of_ble_eq_true rfl) (Nat.le_of_ble_eq_true rfl) (fun E h => ⟨by simp [cdO, h.1], by rw [h.2]; simp [cdO, h.1]⟩) (g_isYV (W1 := ((h, .inr (1, [.ref a1, .ref a2, .ref a3, .ref a4, .int (nI np), .int (nI hr), .ref a5, .ref a6, .ref a7])) :: (a1, .inl (cI, 80, .inl (wet))) :: (a2, .inl (cI, 80, .inl (cover))) :: (a3, .inl (cI, 8, .inl (sun))) :: (a4, .inl (cP, 100, .inr (.inr (.inr (.inr (pcs)))))) :: (a5, .inl (cI, 80, .inl (fs))) :: (a6, .inl (cI, 80, .inl (mk))) :: (a7, .inl (cI, 80, .inl (fd))) :: (plist pa P np ++ Y))) (fun how => ?_))
  refine g_more (k2 := 1) (n2 := 6) (Nat.le_of_ble_eq_true rfl) (Nat.le_of_ble_eq_true rfl) ?_
  refine g_aload_n C dX1_gap_5 rfl 0 rfl ?_
  refine g_callV (ci := 1) (Cn := RX1) (As := []) (rest := []) C gm0 rfl rfl (c_X1_clearMarks l D tys cI cP ht0 h a1 a2 a3 a4 a5 a6 a7 np hr wet cover sun fs mk fd pcs (plist pa P np ++ Y)) (cwV 0 C.ts gX1_gap_X1_clearMarks rfl rfl rfl (by decide +kernel) ⟨(Nat.le_of_ble_eq_true rfl), (Nat.le_of_ble_eq_true rfl)⟩) rfl rfl (Nat.le_of_ble_eq_true rfl) dX1_gap_6 (Nat.le_of_ble_eq_true rfl) (Nat.le_of_ble_eq_true rfl) (g_isV (W1 := ((h, .inr (1, [.ref a1, .ref a2, .ref a3, .ref a4, .int (nI np), .int (nI hr), .ref a5, .ref a6, .ref a7])) :: (a1, .inl (cI, 80, .inl (wet))) :: (a2, .inl (cI, 80, .inl (cover))) :: (a3, .inl (cI, 8, .inl (sun))) :: (a4, .inl (cP, 100, .inr (.inr (.inr (.inr (pcs)))))) :: (a5, .inl (cI, 80, .inl (fs))) :: (a6, .inl (cI, 80, .inl (fun _ => 0))) :: (a7, .inl (cI, 80, .inl (fd))) :: (plist pa P np ++ Y))) ?_)
  refine g_aload_n C dX1_gap_9 rfl 0 rfl ?_
  refine g_iload_n C dX1_gap_10 rfl 1 rfl ?_
  refine g_iload_n C dX1_gap_11 rfl 2 rfl ?_
  refine g_callV (ci := 1) (Cn := RX1) (As := [.int x, .int y]) (rest := []) C gm0 rfl rfl (c_X1_markGap l D tys cI cP ht0 h a1 a2 a3 a4 a5 a6 a7 np hr wet cover sun fs (fun _ => 0) fd pcs (plist pa P np ++ Y) x y) (cwV 2 C.ts gX1_gap_X1_markGap rfl rfl rfl (by decide +kernel) ⟨(Nat.le_of_ble_eq_true rfl), (Nat.le_of_ble_eq_true rfl)⟩) rfl rfl (Nat.le_of_ble_eq_true rfl) dX1_gap_12 (Nat.le_of_ble_eq_true rfl) (Nat.le_of_ble_eq_true rfl) (g_is (x := .int (nI (mgp cover x y (fun _ => 0) fd).2.2)) (W1 := ((h, .inr (1, [.ref a1, .ref a2, .ref a3, .ref a4, .int (nI np), .int (nI hr), .ref a5, .ref a6, .ref a7])) :: (a1, .inl (cI, 80, .inl (wet))) :: (a2, .inl (cI, 80, .inl (cover))) :: (a3, .inl (cI, 8, .inl (sun))) :: (a4, .inl (cP, 100, .inr (.inr (.inr (.inr (pcs)))))) :: (a5, .inl (cI, 80, .inl (fs))) :: (a6, .inl (cI, 80, .inl ((mgp cover x y (fun _ => 0) fd).1))) :: (a7, .inl (cI, 80, .inl ((mgp cover x y (fun _ => 0) fd).2.1))) :: (plist pa P np ++ Y))) ?_)
  have hmn := mgp_n cover x y (fun _ => 0) fd
  refine g_iret C hQ (Nat.le_of_ble_eq_true rfl) (Nat.le_of_ble_eq_true rfl) dX1_gap_15 ?_
  exact ⟨by simp [cdO, *], rfl, rfl⟩

set_option maxHeartbeats 4000000 in
set_option maxRecDepth 100000 in
theorem c_X1_mends (l : Launch) (hl9 : l.stackTraces = false) (D : va_G) (tys : List (ClassId × FieldType)) (cI cP : ClassId) (ht0 : tys[0]? = some (cI, .int)) (ht1 : tys[1]? = some (cP, .object RX0)) (h a1 a2 a3 a4 a5 a6 a7 np hr : Nat) (wet cover sun fs mk fd : Nat → Int32) (pcs : Nat → Option Nat) (pa : Nat → Nat) (P : Nat → Pd) (Y : va_W) (hnp : np ≤ 100) (hpc : ∀ k, k < np → pcs k = some (pa k)) (hg : Pok np P) (x y : Int32) (ac : Bool) : gMx l yX1_mends wsX1_mends ({ frames := 7, cells := 1, slots := 6, locals := 121 } : Room) D tys [.ref h, .int x, .int y, .int (gz ac)] ((h, .inr (1, [.ref a1, .ref a2, .ref a3, .ref a4, .int (nI np), .int (nI hr), .ref a5, .ref a6, .ref a7])) :: (a1, .inl (cI, 80, .inl (wet))) :: (a2, .inl (cI, 80, .inl (cover))) :: (a3, .inl (cI, 8, .inl (sun))) :: (a4, .inl (cP, 100, .inr (.inr (.inr (.inr (pcs)))))) :: (a5, .inl (cI, 80, .inl (fs))) :: (a6, .inl (cI, 80, .inl (mk))) :: (a7, .inl (cI, 80, .inl (fd))) :: (plist pa P np ++ Y)) (gIy (cdO x y = 0) (some (.int (nI (pfm (mgp cover x y (fun _ => 0) fd).1 ac)))) ((h, .inr (1, [.ref a1, .ref a2, .ref a3, .ref a4, .int (nI np), .int (nI hr), .ref a5, .ref a6, .ref a7])) :: (a1, .inl (cI, 80, .inl (wet))) :: (a2, .inl (cI, 80, .inl (cover))) :: (a3, .inl (cI, 8, .inl (sun))) :: (a4, .inl (cP, 100, .inr (.inr (.inr (.inr (pcs)))))) :: (a5, .inl (cI, 80, .inl (fs))) :: (a6, .inl (cI, 80, .inl ((mgp cover x y (fun _ => 0) fd).1))) :: (a7, .inl (cI, 80, .inl ((mgp cover x y (fun _ => 0) fd).2.1))) :: (plist pa P np ++ Y))) (fun E => cdE (cdO x y) nmO E) 1 6 := by
  refine gMx_of2 (by decide +kernel) rfl (Nat.le_of_ble_eq_true rfl) ?_
  intro p e s m args below meth c A Q C hT hQ hQX
  refine g_sub [0, 1, 2, 3] (lv' := [(0, .ref h), (1, .int x), (2, .int y), (3, .int (gz ac))]) rfl ?_
  refine g_iload_n C dX1_mends_0 rfl 1 rfl ?_
  refine g_iload_n C dX1_mends_1 rfl 2 rfl ?_
  refine g_callSx (As := [.int x, .int y]) (rest := []) C hQX hT (c_X1_refuseOutside l hl9 D tys ((h, .inr (1, [.ref a1, .ref a2, .ref a3, .ref a4, .int (nI np), .int (nI hr), .ref a5, .ref a6, .ref a7])) :: (a1, .inl (cI, 80, .inl (wet))) :: (a2, .inl (cI, 80, .inl (cover))) :: (a3, .inl (cI, 8, .inl (sun))) :: (a4, .inl (cP, 100, .inr (.inr (.inr (.inr (pcs)))))) :: (a5, .inl (cI, 80, .inl (fs))) :: (a6, .inl (cI, 80, .inl (mk))) :: (a7, .inl (cI, 80, .inl (fd))) :: (plist pa P np ++ Y)) x y) (va_cwS 2 C.ts gX1_mends_X1_refuseOutside rfl rfl rfl (by decide +kernel) ⟨(Nat.le_of_ble_eq_true rfl), (Nat.le_of_ble_eq_true rfl)⟩) rfl rfl (Nat.le_of_ble_eq_true rfl) dX1_mends_2 (Nat.le_of_ble_eq_true rfl) (Nat.le_of_ble_eq_true rfl) (Nat.le_of_ble_eq_true rfl) (Nat.le_of_ble_eq_true rfl) (fun E h => ⟨by simp [cdO, h.1], by rw [h.2]; simp [cdO, h.1]⟩) (g_isYV (W1 := ((h, .inr (1, [.ref a1, .ref a2, .ref a3, .ref a4, .int (nI np), .int (nI hr), .ref a5, .ref a6, .ref a7])) :: (a1, .inl (cI, 80, .inl (wet))) :: (a2, .inl (cI, 80, .inl (cover))) :: (a3, .inl (cI, 8, .inl (sun))) :: (a4, .inl (cP, 100, .inr (.inr (.inr (.inr (pcs)))))) :: (a5, .inl (cI, 80, .inl (fs))) :: (a6, .inl (cI, 80, .inl (mk))) :: (a7, .inl (cI, 80, .inl (fd))) :: (plist pa P np ++ Y))) (fun how => ?_))
  refine g_more (k2 := 1) (n2 := 6) (Nat.le_of_ble_eq_true rfl) (Nat.le_of_ble_eq_true rfl) ?_
  refine g_aload_n C dX1_mends_5 rfl 0 rfl ?_
  refine g_callV (ci := 1) (Cn := RX1) (As := []) (rest := []) C gm0 rfl rfl (c_X1_clearMarks l D tys cI cP ht0 h a1 a2 a3 a4 a5 a6 a7 np hr wet cover sun fs mk fd pcs (plist pa P np ++ Y)) (cwV 0 C.ts gX1_mends_X1_clearMarks rfl rfl rfl (by decide +kernel) ⟨(Nat.le_of_ble_eq_true rfl), (Nat.le_of_ble_eq_true rfl)⟩) rfl rfl (Nat.le_of_ble_eq_true rfl) dX1_mends_6 (Nat.le_of_ble_eq_true rfl) (Nat.le_of_ble_eq_true rfl) (g_isV (W1 := ((h, .inr (1, [.ref a1, .ref a2, .ref a3, .ref a4, .int (nI np), .int (nI hr), .ref a5, .ref a6, .ref a7])) :: (a1, .inl (cI, 80, .inl (wet))) :: (a2, .inl (cI, 80, .inl (cover))) :: (a3, .inl (cI, 8, .inl (sun))) :: (a4, .inl (cP, 100, .inr (.inr (.inr (.inr (pcs)))))) :: (a5, .inl (cI, 80, .inl (fs))) :: (a6, .inl (cI, 80, .inl (fun _ => 0))) :: (a7, .inl (cI, 80, .inl (fd))) :: (plist pa P np ++ Y))) ?_)
  refine g_aload_n C dX1_mends_9 rfl 0 rfl ?_
  refine g_iload_n C dX1_mends_10 rfl 1 rfl ?_
  refine g_iload_n C dX1_mends_11 rfl 2 rfl ?_
  refine g_callV (ci := 1) (Cn := RX1) (As := [.int x, .int y]) (rest := []) C gm0 rfl rfl (c_X1_markGap l D tys cI cP ht0 h a1 a2 a3 a4 a5 a6 a7 np hr wet cover sun fs (fun _ => 0) fd pcs (plist pa P np ++ Y) x y) (cwV 2 C.ts gX1_mends_X1_markGap rfl rfl rfl (by decide +kernel) ⟨(Nat.le_of_ble_eq_true rfl), (Nat.le_of_ble_eq_true rfl)⟩) rfl rfl (Nat.le_of_ble_eq_true rfl) dX1_mends_12 (Nat.le_of_ble_eq_true rfl) (Nat.le_of_ble_eq_true rfl) (g_is (x := .int (nI (mgp cover x y (fun _ => 0) fd).2.2)) (W1 := ((h, .inr (1, [.ref a1, .ref a2, .ref a3, .ref a4, .int (nI np), .int (nI hr), .ref a5, .ref a6, .ref a7])) :: (a1, .inl (cI, 80, .inl (wet))) :: (a2, .inl (cI, 80, .inl (cover))) :: (a3, .inl (cI, 8, .inl (sun))) :: (a4, .inl (cP, 100, .inr (.inr (.inr (.inr (pcs)))))) :: (a5, .inl (cI, 80, .inl (fs))) :: (a6, .inl (cI, 80, .inl ((mgp cover x y (fun _ => 0) fd).1))) :: (a7, .inl (cI, 80, .inl ((mgp cover x y (fun _ => 0) fd).2.1))) :: (plist pa P np ++ Y))) ?_)
  have hmn := mgp_n cover x y (fun _ => 0) fd
  refine g_pop C dX1_mends_15 rfl ?_
  refine g_aload_n C dX1_mends_16 rfl 0 rfl ?_
  refine g_iload_n C dX1_mends_17 rfl 3 rfl ?_
  refine g_callV (ci := 1) (Cn := RX1) (As := [.int (gz ac)]) (rest := []) C gm0 rfl rfl (c_X1_piecesForMarks l D tys cI ht0 ((h, .inr (1, [.ref a1, .ref a2, .ref a3, .ref a4, .int (nI np), .int (nI hr), .ref a5, .ref a6, .ref a7])) :: (a1, .inl (cI, 80, .inl (wet))) :: (a2, .inl (cI, 80, .inl (cover))) :: (a3, .inl (cI, 8, .inl (sun))) :: (a4, .inl (cP, 100, .inr (.inr (.inr (.inr (pcs)))))) :: (a5, .inl (cI, 80, .inl (fs))) :: (a6, .inl (cI, 80, .inl ((mgp cover x y (fun _ => 0) fd).1))) :: (a7, .inl (cI, 80, .inl ((mgp cover x y (fun _ => 0) fd).2.1))) :: (plist pa P np ++ Y)) h a1 a2 a3 a4 a5 a6 a7 np hr ((mgp cover x y (fun _ => 0) fd).1) ac gm0 (gmT (gmT (gmT (gmT (gmT (gmT gm0))))))) (cwV 1 C.ts gX1_mends_X1_piecesForMarks rfl rfl rfl (by decide +kernel) ⟨(Nat.le_of_ble_eq_true rfl), (Nat.le_of_ble_eq_true rfl)⟩) rfl rfl (Nat.le_of_ble_eq_true rfl) dX1_mends_18 (Nat.le_of_ble_eq_true rfl) (Nat.le_of_ble_eq_true rfl) (g_is (x := .int (nI (pfm ((mgp cover x y (fun _ => 0) fd).1) ac))) (W1 := ((h, .inr (1, [.ref a1, .ref a2, .ref a3, .ref a4, .int (nI np), .int (nI hr), .ref a5, .ref a6, .ref a7])) :: (a1, .inl (cI, 80, .inl (wet))) :: (a2, .inl (cI, 80, .inl (cover))) :: (a3, .inl (cI, 8, .inl (sun))) :: (a4, .inl (cP, 100, .inr (.inr (.inr (.inr (pcs)))))) :: (a5, .inl (cI, 80, .inl (fs))) :: (a6, .inl (cI, 80, .inl ((mgp cover x y (fun _ => 0) fd).1))) :: (a7, .inl (cI, 80, .inl ((mgp cover x y (fun _ => 0) fd).2.1))) :: (plist pa P np ++ Y))) ?_)
  refine g_iret C hQ (Nat.le_of_ble_eq_true rfl) (Nat.le_of_ble_eq_true rfl) dX1_mends_21 ?_
  exact ⟨by simp [cdO, *], rfl, rfl⟩
