theorem k_X1_cellsOffFlipped_inX0 : ∀ w ∈ wsX00, w ∈ wsX1_cellsOffFlipped := by decide +kernel
theorem k_X1_cellsOffFlipped_1 : Cond.fieldLink RX1 106 "WetMosaic$Piece" "showsBack" "Z" ∈ wsX1_cellsOffFlipped := by decide +kernel
set_option maxHeartbeats 4000000 in
set_option maxRecDepth 100000 in
theorem c_X1_cellsOffFlipped (l : Launch) (D : va_G) (tys : List (ClassId × FieldType)) (cI cP : ClassId) (ht0 : tys[0]? = some (cI, .int)) (ht1 : tys[1]? = some (cP, .object RX0)) (h a1 a2 a3 a4 a5 a6 a7 np hr : Nat) (wet cover sun fs mk fd : Nat → Int32) (pcs : Nat → Option Nat) (pa : Nat → Nat) (P : Nat → Pd) (Y : va_W) (hnp : np ≤ 100) (hpc : ∀ k, k < np → pcs k = some (pa k)) (hg : Pok np P) (k k9 : Nat) (a b : Int32) (hk : k < np) (hk9 : k9 ≤ 3) : gM l yX1_cellsOffFlipped wsX1_cellsOffFlipped ({ frames := 5, cells := 0, slots := 0, locals := 117 } : Room) D tys [.ref h, .ref (pa k), .int (nI k9), .int a, .int b] ((h, .inr (1, [.ref a1, .ref a2, .ref a3, .ref a4, .int (nI np), .int (nI hr), .ref a5, .ref a6, .ref a7])) :: (a1, .inl (cI, 80, .inl (wet))) :: (a2, .inl (cI, 80, .inl (cover))) :: (a3, .inl (cI, 8, .inl (sun))) :: (a4, .inl (cP, 100, .inr (.inr (.inr (.inr (pcs)))))) :: (a5, .inl (cI, 80, .inl (fs))) :: (a6, .inl (cI, 80, .inl (mk))) :: (a7, .inl (cI, 80, .inl (fd))) :: (plist pa P np ++ Y)) (gIs (some (.int (nI (cnt (offB np (pup P k (flp (P k))) cover k9 a b) 80)))) ((h, .inr (1, [.ref a1, .ref a2, .ref a3, .ref a4, .int (nI np), .int (nI hr), .ref a5, .ref a6, .ref a7])) :: (a1, .inl (cI, 80, .inl (wet))) :: (a2, .inl (cI, 80, .inl (cover))) :: (a3, .inl (cI, 8, .inl (sun))) :: (a4, .inl (cP, 100, .inr (.inr (.inr (.inr (pcs)))))) :: (a5, .inl (cI, 80, .inl (fs))) :: (a6, .inl (cI, 80, .inl (mk))) :: (a7, .inl (cI, 80, .inl (fd))) :: (plist pa P np ++ Y))) 0 0 := by
  refine gM_of (by decide +kernel) rfl (Nat.le_of_ble_eq_true rfl) ?_
  intro p e s m args below meth c A Q hin C hQ
  refine g_sub [0, 1, 2, 3, 4] (lv' := [(0, .ref h), (1, .ref (pa k)), (2, .int (nI k9)), (3, .int a), (4, .int b)]) rfl ?_
  have hp := Pin_of (Y := Y) (P := P) hpc
  refine g_aload_n C dX1_cellsOffFlipped_0 rfl 1 rfl ?_
  refine g_aload_n C dX1_cellsOffFlipped_1 rfl 1 rfl ?_
  refine g_get (v := .int (gz ((qs (P k))))) (ci := 0) (Cn := RX0) (T := TX0) (N := 8) C k_X1_cellsOffFlipped_inX0 (gmT (gmT (gmT (gmT (gmT (gmT (gmT (gmT (hp k hk).2)))))))) rfl 6 (by decide) k_X1_cellsOffFlipped_1 rfl rfl dX1_cellsOffFlipped_2 ?_
  refine g_if_ne (tgt := 12) C dX1_cellsOffFlipped_5 (by decide) (fun c_1 => ?_) (fun c_1 => ?_)
  · skip
    replace c_1 := gzn.mp c_1
    refine g_iconst (v := 0) C dX1_cellsOffFlipped_12 (by decide) ?_
    refine g_eqi (x := 0) (y := gz (!qs (P k))) (by first | (simp [gz, *]; done) | (simp_all [gz]; done)) ?_
    refine g_put (ci := 0) (Cn := RX0) (T := TX0) (N := 8) (ty := .boolean) (ws' := ((h, .inr (1, [.ref a1, .ref a2, .ref a3, .ref a4, .int (nI np), .int (nI hr), .ref a5, .ref a6, .ref a7])) :: (a1, .inl (cI, 80, .inl (wet))) :: (a2, .inl (cI, 80, .inl (cover))) :: (a3, .inl (cI, 8, .inl (sun))) :: (a4, .inl (cP, 100, .inr (.inr (.inr (.inr (pcs)))))) :: (a5, .inl (cI, 80, .inl (fs))) :: (a6, .inl (cI, 80, .inl (mk))) :: (a7, .inl (cI, 80, .inl (fd))) :: (plist pa (pup P k (flp (P k))) np ++ Y))) C k_X1_cellsOffFlipped_inX0 tyX0 tyX0_ok nmX0 (k + 8) (plist_get (P := P) (Y := Y) hk) rfl 6 (by decide) k_X1_cellsOffFlipped_1 rfl rfl (by decide +kernel) (bo1 _) (bo2 _) (Nat.le_of_ble_eq_true rfl) dX1_cellsOffFlipped_13 (congrArg (fun t : va_W => ((h, .inr (1, [.ref a1, .ref a2, .ref a3, .ref a4, .int (nI np), .int (nI hr), .ref a5, .ref a6, .ref a7])) :: (a1, .inl (cI, 80, .inl (wet))) :: (a2, .inl (cI, 80, .inl (cover))) :: (a3, .inl (cI, 8, .inl (sun))) :: (a4, .inl (cP, 100, .inr (.inr (.inr (.inr (pcs)))))) :: (a5, .inl (cI, 80, .inl (fs))) :: (a6, .inl (cI, 80, .inl (mk))) :: (a7, .inl (cI, 80, .inl (fd))) :: t : va_W)) (plist_set (q := (flp (P k))) (Y := Y) hk)) ?_
    have hpk2 : (pa k, pcE (flp (P k))) ∈ (plist pa (pup P k (flp (P k))) np ++ Y) := by
      have h9 := plist_mem (pa := pa) (P := (pup P k (flp (P k)))) (Y := Y) hk
      rw [pup_s] at h9
      exact h9
    have hp2 := Pin_of (Y := Y) (P := (pup P k (flp (P k)))) hpc
    refine g_aload_n C dX1_cellsOffFlipped_16 rfl 0 rfl ?_
    refine g_iload_n C dX1_cellsOffFlipped_17 rfl 2 rfl ?_
    refine g_iload_n C dX1_cellsOffFlipped_18 rfl 3 rfl ?_
    refine g_iload C dX1_cellsOffFlipped_19 4 rfl ?_
    refine g_callV (ci := 1) (Cn := RX1) (As := [.int (nI k9), .int a, .int b]) (rest := []) C gm0 rfl rfl (c_X1_cellsOff l D tys cI ht0 cP ht1 ((h, .inr (1, [.ref a1, .ref a2, .ref a3, .ref a4, .int (nI np), .int (nI hr), .ref a5, .ref a6, .ref a7])) :: (a1, .inl (cI, 80, .inl (wet))) :: (a2, .inl (cI, 80, .inl (cover))) :: (a3, .inl (cI, 8, .inl (sun))) :: (a4, .inl (cP, 100, .inr (.inr (.inr (.inr (pcs)))))) :: (a5, .inl (cI, 80, .inl (fs))) :: (a6, .inl (cI, 80, .inl (mk))) :: (a7, .inl (cI, 80, .inl (fd))) :: (plist pa (pup P k (flp (P k))) np ++ Y)) h a1 a2 a3 a4 a5 a6 a7 np hr cover pcs pa (pup P k (flp (P k))) k9 a b (by omega) hnp (fun k9 hk9 => ⟨(hp2 k9 hk9).1, gmT (gmT (gmT (gmT (gmT (gmT (gmT (gmT (hp2 k9 hk9).2)))))))⟩) gm0 (gmT (gmT gm0)) (gmT (gmT (gmT (gmT gm0))))) (cwV 3 C.ts gX1_cellsOffFlipped_X1_cellsOff rfl rfl rfl (by decide +kernel) ⟨(Nat.le_of_ble_eq_true rfl), (Nat.le_of_ble_eq_true rfl)⟩) rfl rfl (Nat.le_of_ble_eq_true rfl) dX1_cellsOffFlipped_21 (Nat.le_of_ble_eq_true rfl) (Nat.le_of_ble_eq_true rfl) (g_is (x := .int (nI (cnt (offB np (pup P k (flp (P k))) cover k9 a b) 80))) (W1 := ((h, .inr (1, [.ref a1, .ref a2, .ref a3, .ref a4, .int (nI np), .int (nI hr), .ref a5, .ref a6, .ref a7])) :: (a1, .inl (cI, 80, .inl (wet))) :: (a2, .inl (cI, 80, .inl (cover))) :: (a3, .inl (cI, 8, .inl (sun))) :: (a4, .inl (cP, 100, .inr (.inr (.inr (.inr (pcs)))))) :: (a5, .inl (cI, 80, .inl (fs))) :: (a6, .inl (cI, 80, .inl (mk))) :: (a7, .inl (cI, 80, .inl (fd))) :: (plist pa (pup P k (flp (P k))) np ++ Y))) ?_)
    refine g_istore (lv' := [(5, .int (nI (cnt (offB np (pup P k (flp (P k))) cover k9 a b) 80))), (0, .ref h), (1, .ref (pa k)), (2, .int (nI k9)), (3, .int a), (4, .int b)]) C dX1_cellsOffFlipped_24 (by decide) rfl ?_
    refine g_aload_n C dX1_cellsOffFlipped_26 rfl 2 rfl ?_
    refine g_aload_n C dX1_cellsOffFlipped_27 rfl 2 rfl ?_
    refine g_get (v := .int (gz ((!qs (P k))))) (ci := 0) (Cn := RX0) (T := TX0) (N := 8) C k_X1_cellsOffFlipped_inX0 (gmT (gmT (gmT (gmT (gmT (gmT (gmT (gmT hpk2)))))))) rfl 6 (by decide) k_X1_cellsOffFlipped_1 rfl rfl dX1_cellsOffFlipped_28 ?_
    refine g_if_ne (tgt := 38) C dX1_cellsOffFlipped_31 (by decide) (fun c_2 => ?_) (fun c_2 => ?_)
    · skip
      replace c_2 := gzn.mp c_2
      refine g_iconst (v := 0) C dX1_cellsOffFlipped_38 (by decide) ?_
      refine g_eqi (x := 0) (y := gz (!(!qs (P k)))) (by first | (simp [gz, *]; done) | (simp_all [gz]; done)) ?_
      have hq2 : (plist pa (pup P k (flp (P k))) np ++ Y)[k]? = some (pa k, pcE (flp (P k))) := by rw [plist_get hk, pup_s]
      refine g_put (ci := 0) (Cn := RX0) (T := TX0) (N := 8) (ty := .boolean) (ws' := ((h, .inr (1, [.ref a1, .ref a2, .ref a3, .ref a4, .int (nI np), .int (nI hr), .ref a5, .ref a6, .ref a7])) :: (a1, .inl (cI, 80, .inl (wet))) :: (a2, .inl (cI, 80, .inl (cover))) :: (a3, .inl (cI, 8, .inl (sun))) :: (a4, .inl (cP, 100, .inr (.inr (.inr (.inr (pcs)))))) :: (a5, .inl (cI, 80, .inl (fs))) :: (a6, .inl (cI, 80, .inl (mk))) :: (a7, .inl (cI, 80, .inl (fd))) :: (plist pa (pup (pup P k (flp (P k))) k (flp (flp (P k)))) np ++ Y))) C k_X1_cellsOffFlipped_inX0 tyX0 tyX0_ok nmX0 (k + 8) hq2 rfl 6 (by decide) k_X1_cellsOffFlipped_1 rfl rfl (by decide +kernel) (bo1 _) (bo2 _) (Nat.le_of_ble_eq_true rfl) dX1_cellsOffFlipped_39 (congrArg (fun t : va_W => ((h, .inr (1, [.ref a1, .ref a2, .ref a3, .ref a4, .int (nI np), .int (nI hr), .ref a5, .ref a6, .ref a7])) :: (a1, .inl (cI, 80, .inl (wet))) :: (a2, .inl (cI, 80, .inl (cover))) :: (a3, .inl (cI, 8, .inl (sun))) :: (a4, .inl (cP, 100, .inr (.inr (.inr (.inr (pcs)))))) :: (a5, .inl (cI, 80, .inl (fs))) :: (a6, .inl (cI, 80, .inl (mk))) :: (a7, .inl (cI, 80, .inl (fd))) :: t : va_W)) (plist_set (q := (flp (flp (P k)))) (Y := Y) hk)) ?_
      refine g_eqw (ws' := ((h, .inr (1, [.ref a1, .ref a2, .ref a3, .ref a4, .int (nI np), .int (nI hr), .ref a5, .ref a6, .ref a7])) :: (a1, .inl (cI, 80, .inl (wet))) :: (a2, .inl (cI, 80, .inl (cover))) :: (a3, .inl (cI, 8, .inl (sun))) :: (a4, .inl (cP, 100, .inr (.inr (.inr (.inr (pcs)))))) :: (a5, .inl (cI, 80, .inl (fs))) :: (a6, .inl (cI, 80, .inl (mk))) :: (a7, .inl (cI, 80, .inl (fd))) :: (plist pa P np ++ Y))) (by rw [pup_pup, flp2, pup_same]) ?_
      refine g_iload C dX1_cellsOffFlipped_42 0 rfl ?_
      refine g_iret C hQ (Nat.le_of_ble_eq_true rfl) (Nat.le_of_ble_eq_true rfl) dX1_cellsOffFlipped_44 ?_
      exact ⟨rfl, rfl⟩
    · skip
      replace c_2 := gz0.mp c_2
      refine g_iconst (v := 1) C dX1_cellsOffFlipped_34 (by decide) ?_
      refine g_goto (tgt := 39) C dX1_cellsOffFlipped_35 (by decide) ?_
      refine g_eqi (x := 1) (y := gz (!(!qs (P k)))) (by first | (simp [gz, *]; done) | (simp_all [gz]; done)) ?_
      have hq2 : (plist pa (pup P k (flp (P k))) np ++ Y)[k]? = some (pa k, pcE (flp (P k))) := by rw [plist_get hk, pup_s]
      refine g_put (ci := 0) (Cn := RX0) (T := TX0) (N := 8) (ty := .boolean) (ws' := ((h, .inr (1, [.ref a1, .ref a2, .ref a3, .ref a4, .int (nI np), .int (nI hr), .ref a5, .ref a6, .ref a7])) :: (a1, .inl (cI, 80, .inl (wet))) :: (a2, .inl (cI, 80, .inl (cover))) :: (a3, .inl (cI, 8, .inl (sun))) :: (a4, .inl (cP, 100, .inr (.inr (.inr (.inr (pcs)))))) :: (a5, .inl (cI, 80, .inl (fs))) :: (a6, .inl (cI, 80, .inl (mk))) :: (a7, .inl (cI, 80, .inl (fd))) :: (plist pa (pup (pup P k (flp (P k))) k (flp (flp (P k)))) np ++ Y))) C k_X1_cellsOffFlipped_inX0 tyX0 tyX0_ok nmX0 (k + 8) hq2 rfl 6 (by decide) k_X1_cellsOffFlipped_1 rfl rfl (by decide +kernel) (bo1 _) (bo2 _) (Nat.le_of_ble_eq_true rfl) dX1_cellsOffFlipped_39 (congrArg (fun t : va_W => ((h, .inr (1, [.ref a1, .ref a2, .ref a3, .ref a4, .int (nI np), .int (nI hr), .ref a5, .ref a6, .ref a7])) :: (a1, .inl (cI, 80, .inl (wet))) :: (a2, .inl (cI, 80, .inl (cover))) :: (a3, .inl (cI, 8, .inl (sun))) :: (a4, .inl (cP, 100, .inr (.inr (.inr (.inr (pcs)))))) :: (a5, .inl (cI, 80, .inl (fs))) :: (a6, .inl (cI, 80, .inl (mk))) :: (a7, .inl (cI, 80, .inl (fd))) :: t : va_W)) (plist_set (q := (flp (flp (P k)))) (Y := Y) hk)) ?_
      refine g_eqw (ws' := ((h, .inr (1, [.ref a1, .ref a2, .ref a3, .ref a4, .int (nI np), .int (nI hr), .ref a5, .ref a6, .ref a7])) :: (a1, .inl (cI, 80, .inl (wet))) :: (a2, .inl (cI, 80, .inl (cover))) :: (a3, .inl (cI, 8, .inl (sun))) :: (a4, .inl (cP, 100, .inr (.inr (.inr (.inr (pcs)))))) :: (a5, .inl (cI, 80, .inl (fs))) :: (a6, .inl (cI, 80, .inl (mk))) :: (a7, .inl (cI, 80, .inl (fd))) :: (plist pa P np ++ Y))) (by rw [pup_pup, flp2, pup_same]) ?_
      refine g_iload C dX1_cellsOffFlipped_42 0 rfl ?_
      refine g_iret C hQ (Nat.le_of_ble_eq_true rfl) (Nat.le_of_ble_eq_true rfl) dX1_cellsOffFlipped_44 ?_
      exact ⟨rfl, rfl⟩
  · skip
    replace c_1 := gz0.mp c_1
    refine g_iconst (v := 1) C dX1_cellsOffFlipped_8 (by decide) ?_
    refine g_goto (tgt := 13) C dX1_cellsOffFlipped_9 (by decide) ?_
    refine g_eqi (x := 1) (y := gz (!qs (P k))) (by first | (simp [gz, *]; done) | (simp_all [gz]; done)) ?_
    refine g_put (ci := 0) (Cn := RX0) (T := TX0) (N := 8) (ty := .boolean) (ws' := ((h, .inr (1, [.ref a1, .ref a2, .ref a3, .ref a4, .int (nI np), .int (nI hr), .ref a5, .ref a6, .ref a7])) :: (a1, .inl (cI, 80, .inl (wet))) :: (a2, .inl (cI, 80, .inl (cover))) :: (a3, .inl (cI, 8, .inl (sun))) :: (a4, .inl (cP, 100, .inr (.inr (.inr (.inr (pcs)))))) :: (a5, .inl (cI, 80, .inl (fs))) :: (a6, .inl (cI, 80, .inl (mk))) :: (a7, .inl (cI, 80, .inl (fd))) :: (plist pa (pup P k (flp (P k))) np ++ Y))) C k_X1_cellsOffFlipped_inX0 tyX0 tyX0_ok nmX0 (k + 8) (plist_get (P := P) (Y := Y) hk) rfl 6 (by decide) k_X1_cellsOffFlipped_1 rfl rfl (by decide +kernel) (bo1 _) (bo2 _) (Nat.le_of_ble_eq_true rfl) dX1_cellsOffFlipped_13 (congrArg (fun t : va_W => ((h, .inr (1, [.ref a1, .ref a2, .ref a3, .ref a4, .int (nI np), .int (nI hr), .ref a5, .ref a6, .ref a7])) :: (a1, .inl (cI, 80, .inl (wet))) :: (a2, .inl (cI, 80, .inl (cover))) :: (a3, .inl (cI, 8, .inl (sun))) :: (a4, .inl (cP, 100, .inr (.inr (.inr (.inr (pcs)))))) :: (a5, .inl (cI, 80, .inl (fs))) :: (a6, .inl (cI, 80, .inl (mk))) :: (a7, .inl (cI, 80, .inl (fd))) :: t : va_W)) (plist_set (q := (flp (P k))) (Y := Y) hk)) ?_
    have hpk2 : (pa k, pcE (flp (P k))) ∈ (plist pa (pup P k (flp (P k))) np ++ Y) := by
      have h9 := plist_mem (pa := pa) (P := (pup P k (flp (P k)))) (Y := Y) hk
      rw [pup_s] at h9
      exact h9
    have hp2 := Pin_of (Y := Y) (P := (pup P k (flp (P k)))) hpc
    refine g_aload_n C dX1_cellsOffFlipped_16 rfl 0 rfl ?_
    refine g_iload_n C dX1_cellsOffFlipped_17 rfl 2 rfl ?_
    refine g_iload_n C dX1_cellsOffFlipped_18 rfl 3 rfl ?_
    refine g_iload C dX1_cellsOffFlipped_19 4 rfl ?_
    refine g_callV (ci := 1) (Cn := RX1) (As := [.int (nI k9), .int a, .int b]) (rest := []) C gm0 rfl rfl (c_X1_cellsOff l D tys cI ht0 cP ht1 ((h, .inr (1, [.ref a1, .ref a2, .ref a3, .ref a4, .int (nI np), .int (nI hr), .ref a5, .ref a6, .ref a7])) :: (a1, .inl (cI, 80, .inl (wet))) :: (a2, .inl (cI, 80, .inl (cover))) :: (a3, .inl (cI, 8, .inl (sun))) :: (a4, .inl (cP, 100, .inr (.inr (.inr (.inr (pcs)))))) :: (a5, .inl (cI, 80, .inl (fs))) :: (a6, .inl (cI, 80, .inl (mk))) :: (a7, .inl (cI, 80, .inl (fd))) :: (plist pa (pup P k (flp (P k))) np ++ Y)) h a1 a2 a3 a4 a5 a6 a7 np hr cover pcs pa (pup P k (flp (P k))) k9 a b (by omega) hnp (fun k9 hk9 => ⟨(hp2 k9 hk9).1, gmT (gmT (gmT (gmT (gmT (gmT (gmT (gmT (hp2 k9 hk9).2)))))))⟩) gm0 (gmT (gmT gm0)) (gmT (gmT (gmT (gmT gm0))))) (cwV 3 C.ts gX1_cellsOffFlipped_X1_cellsOff rfl rfl rfl (by decide +kernel) ⟨(Nat.le_of_ble_eq_true rfl), (Nat.le_of_ble_eq_true rfl)⟩) rfl rfl (Nat.le_of_ble_eq_true rfl) dX1_cellsOffFlipped_21 (Nat.le_of_ble_eq_true rfl) (Nat.le_of_ble_eq_true rfl) (g_is (x := .int (nI (cnt (offB np (pup P k (flp (P k))) cover k9 a b) 80))) (W1 := ((h, .inr (1, [.ref a1, .ref a2, .ref a3, .ref a4, .int (nI np), .int (nI hr), .ref a5, .ref a6, .ref a7])) :: (a1, .inl (cI, 80, .inl (wet))) :: (a2, .inl (cI, 80, .inl (cover))) :: (a3, .inl (cI, 8, .inl (sun))) :: (a4, .inl (cP, 100, .inr (.inr (.inr (.inr (pcs)))))) :: (a5, .inl (cI, 80, .inl (fs))) :: (a6, .inl (cI, 80, .inl (mk))) :: (a7, .inl (cI, 80, .inl (fd))) :: (plist pa (pup P k (flp (P k))) np ++ Y))) ?_)
    refine g_istore (lv' := [(5, .int (nI (cnt (offB np (pup P k (flp (P k))) cover k9 a b) 80))), (0, .ref h), (1, .ref (pa k)), (2, .int (nI k9)), (3, .int a), (4, .int b)]) C dX1_cellsOffFlipped_24 (by decide) rfl ?_
    refine g_aload_n C dX1_cellsOffFlipped_26 rfl 2 rfl ?_
    refine g_aload_n C dX1_cellsOffFlipped_27 rfl 2 rfl ?_
    refine g_get (v := .int (gz ((!qs (P k))))) (ci := 0) (Cn := RX0) (T := TX0) (N := 8) C k_X1_cellsOffFlipped_inX0 (gmT (gmT (gmT (gmT (gmT (gmT (gmT (gmT hpk2)))))))) rfl 6 (by decide) k_X1_cellsOffFlipped_1 rfl rfl dX1_cellsOffFlipped_28 ?_
    refine g_if_ne (tgt := 38) C dX1_cellsOffFlipped_31 (by decide) (fun c_3 => ?_) (fun c_3 => ?_)
    · skip
      replace c_3 := gzn.mp c_3
      refine g_iconst (v := 0) C dX1_cellsOffFlipped_38 (by decide) ?_
      refine g_eqi (x := 0) (y := gz (!(!qs (P k)))) (by first | (simp [gz, *]; done) | (simp_all [gz]; done)) ?_
      have hq2 : (plist pa (pup P k (flp (P k))) np ++ Y)[k]? = some (pa k, pcE (flp (P k))) := by rw [plist_get hk, pup_s]
      refine g_put (ci := 0) (Cn := RX0) (T := TX0) (N := 8) (ty := .boolean) (ws' := ((h, .inr (1, [.ref a1, .ref a2, .ref a3, .ref a4, .int (nI np), .int (nI hr), .ref a5, .ref a6, .ref a7])) :: (a1, .inl (cI, 80, .inl (wet))) :: (a2, .inl (cI, 80, .inl (cover))) :: (a3, .inl (cI, 8, .inl (sun))) :: (a4, .inl (cP, 100, .inr (.inr (.inr (.inr (pcs)))))) :: (a5, .inl (cI, 80, .inl (fs))) :: (a6, .inl (cI, 80, .inl (mk))) :: (a7, .inl (cI, 80, .inl (fd))) :: (plist pa (pup (pup P k (flp (P k))) k (flp (flp (P k)))) np ++ Y))) C k_X1_cellsOffFlipped_inX0 tyX0 tyX0_ok nmX0 (k + 8) hq2 rfl 6 (by decide) k_X1_cellsOffFlipped_1 rfl rfl (by decide +kernel) (bo1 _) (bo2 _) (Nat.le_of_ble_eq_true rfl) dX1_cellsOffFlipped_39 (congrArg (fun t : va_W => ((h, .inr (1, [.ref a1, .ref a2, .ref a3, .ref a4, .int (nI np), .int (nI hr), .ref a5, .ref a6, .ref a7])) :: (a1, .inl (cI, 80, .inl (wet))) :: (a2, .inl (cI, 80, .inl (cover))) :: (a3, .inl (cI, 8, .inl (sun))) :: (a4, .inl (cP, 100, .inr (.inr (.inr (.inr (pcs)))))) :: (a5, .inl (cI, 80, .inl (fs))) :: (a6, .inl (cI, 80, .inl (mk))) :: (a7, .inl (cI, 80, .inl (fd))) :: t : va_W)) (plist_set (q := (flp (flp (P k)))) (Y := Y) hk)) ?_
      refine g_eqw (ws' := ((h, .inr (1, [.ref a1, .ref a2, .ref a3, .ref a4, .int (nI np), .int (nI hr), .ref a5, .ref a6, .ref a7])) :: (a1, .inl (cI, 80, .inl (wet))) :: (a2, .inl (cI, 80, .inl (cover))) :: (a3, .inl (cI, 8, .inl (sun))) :: (a4, .inl (cP, 100, .inr (.inr (.inr (.inr (pcs)))))) :: (a5, .inl (cI, 80, .inl (fs))) :: (a6, .inl (cI, 80, .inl (mk))) :: (a7, .inl (cI, 80, .inl (fd))) :: (plist pa P np ++ Y))) (by rw [pup_pup, flp2, pup_same]) ?_
      refine g_iload C dX1_cellsOffFlipped_42 0 rfl ?_
      refine g_iret C hQ (Nat.le_of_ble_eq_true rfl) (Nat.le_of_ble_eq_true rfl) dX1_cellsOffFlipped_44 ?_
      exact ⟨rfl, rfl⟩
    · skip
      replace c_3 := gz0.mp c_3
      refine g_iconst (v := 1) C dX1_cellsOffFlipped_34 (by decide) ?_
      refine g_goto (tgt := 39) C dX1_cellsOffFlipped_35 (by decide) ?_
      refine g_eqi (x := 1) (y := gz (!(!qs (P k)))) (by first | (simp [gz, *]; done) | (simp_all [gz]; done)) ?_
      have hq2 : (plist pa (pup P k (flp (P k))) np ++ Y)[k]? = some (pa k, pcE (flp (P k))) := by rw [plist_get hk, pup_s]
      refine g_put (ci := 0) (Cn := RX0) (T := TX0) (N := 8) (ty := .boolean) (ws' := ((h, .inr (1, [.ref a1, .ref a2, .ref a3, .ref a4, .int (nI np), .int (nI hr), .ref a5, .ref a6, .ref a7])) :: (a1, .inl (cI, 80, .inl (wet))) :: (a2, .inl (cI, 80, .inl (cover))) :: (a3, .inl (cI, 8, .inl (sun))) :: (a4, .inl (cP, 100, .inr (.inr (.inr (.inr (pcs)))))) :: (a5, .inl (cI, 80, .inl (fs))) :: (a6, .inl (cI, 80, .inl (mk))) :: (a7, .inl (cI, 80, .inl (fd))) :: (plist pa (pup (pup P k (flp (P k))) k (flp (flp (P k)))) np ++ Y))) C k_X1_cellsOffFlipped_inX0 tyX0 tyX0_ok nmX0 (k + 8) hq2 rfl 6 (by decide) k_X1_cellsOffFlipped_1 rfl rfl (by decide +kernel) (bo1 _) (bo2 _) (Nat.le_of_ble_eq_true rfl) dX1_cellsOffFlipped_39 (congrArg (fun t : va_W => ((h, .inr (1, [.ref a1, .ref a2, .ref a3, .ref a4, .int (nI np), .int (nI hr), .ref a5, .ref a6, .ref a7])) :: (a1, .inl (cI, 80, .inl (wet))) :: (a2, .inl (cI, 80, .inl (cover))) :: (a3, .inl (cI, 8, .inl (sun))) :: (a4, .inl (cP, 100, .inr (.inr (.inr (.inr (pcs)))))) :: (a5, .inl (cI, 80, .inl (fs))) :: (a6, .inl (cI, 80, .inl (mk))) :: (a7, .inl (cI, 80, .inl (fd))) :: t : va_W)) (plist_set (q := (flp (flp (P k)))) (Y := Y) hk)) ?_
      refine g_eqw (ws' := ((h, .inr (1, [.ref a1, .ref a2, .ref a3, .ref a4, .int (nI np), .int (nI hr), .ref a5, .ref a6, .ref a7])) :: (a1, .inl (cI, 80, .inl (wet))) :: (a2, .inl (cI, 80, .inl (cover))) :: (a3, .inl (cI, 8, .inl (sun))) :: (a4, .inl (cP, 100, .inr (.inr (.inr (.inr (pcs)))))) :: (a5, .inl (cI, 80, .inl (fs))) :: (a6, .inl (cI, 80, .inl (mk))) :: (a7, .inl (cI, 80, .inl (fd))) :: (plist pa P np ++ Y))) (by rw [pup_pup, flp2, pup_same]) ?_
      refine g_iload C dX1_cellsOffFlipped_42 0 rfl ?_
      refine g_iret C hQ (Nat.le_of_ble_eq_true rfl) (Nat.le_of_ble_eq_true rfl) dX1_cellsOffFlipped_44 ?_
      exact ⟨rfl, rfl⟩

theorem k_X1_advise_inX1 : ∀ w ∈ wsX10, w ∈ wsX1_advise := by decide +kernel
theorem k_X1_advise_1 : Cond.fieldLink RX1 74 "WetMosaic" "pressed" "I" ∈ wsX1_advise := by decide +kernel
theorem k_X1_advise_2 : Cond.fieldLink RX1 9 "WetMosaic" "wet" "[I" ∈ wsX1_advise := by decide +kernel
set_option maxHeartbeats 4000000 in
set_option maxRecDepth 100000 in
theorem c_X1_advise (l : Launch) (hl9 : l.stackTraces = false) (D : va_G) (tys : List (ClassId × FieldType)) (cI cP : ClassId) (ht0 : tys[0]? = some (cI, .int)) (ht1 : tys[1]? = some (cP, .object RX0)) (h a1 a2 a3 a4 a5 a6 a7 np hr : Nat) (wet cover sun fs mk fd : Nat → Int32) (pcs : Nat → Option Nat) (pa : Nat → Nat) (P : Nat → Pd) (Y : va_W) (hnp : np ≤ 100) (hpc : ∀ k, k < np → pcs k = some (pa k)) (hg : Pok np P) (k9 a b : Int32) : gMx l yX1_advise wsX1_advise ({ frames := 7, cells := 1, slots := 6, locals := 142 } : Room) D tys [.ref h, .int k9, .int a, .int b] ((h, .inr (1, [.ref a1, .ref a2, .ref a3, .ref a4, .int (nI np), .int (nI hr), .ref a5, .ref a6, .ref a7])) :: (a1, .inl (cI, 80, .inl (wet))) :: (a2, .inl (cI, 80, .inl (cover))) :: (a3, .inl (cI, 8, .inl (sun))) :: (a4, .inl (cP, 100, .inr (.inr (.inr (.inr (pcs)))))) :: (a5, .inl (cI, 80, .inl (fs))) :: (a6, .inl (cI, 80, .inl (mk))) :: (a7, .inl (cI, 80, .inl (fd))) :: (plist pa P np ++ Y)) (gIy (cdP k9 a b = 0) (some (.int ((advS np P wet cover (vn k9) a b np).1))) ((h, .inr (1, [.ref a1, .ref a2, .ref a3, .ref a4, .int (nI np), .int (nI hr), .ref a5, .ref a6, .ref a7])) :: (a1, .inl (cI, 80, .inl (wet))) :: (a2, .inl (cI, 80, .inl (cover))) :: (a3, .inl (cI, 8, .inl (sun))) :: (a4, .inl (cP, 100, .inr (.inr (.inr (.inr (pcs)))))) :: (a5, .inl (cI, 80, .inl (fs))) :: (a6, .inl (cI, 80, .inl (mk))) :: (a7, .inl (cI, 80, .inl (fd))) :: (plist pa P np ++ Y))) (fun E => cdE (cdP k9 a b) nmA E) 1 6 := by
  refine gMx_of2 (by decide +kernel) rfl (Nat.le_of_ble_eq_true rfl) ?_
  intro p e s m args below meth c A Q C hT hQ hQX
  refine g_sub [0, 1, 2, 3] (lv' := [(0, .ref h), (1, .int k9), (2, .int a), (3, .int b)]) rfl ?_
  have hp := Pin_of (Y := Y) (P := P) hpc
  refine g_iload_n C dX1_advise_0 rfl 1 rfl ?_
  refine g_iload_n C dX1_advise_1 rfl 2 rfl ?_
  refine g_iload_n C dX1_advise_2 rfl 3 rfl ?_
  refine g_callSx (As := [.int k9, .int a, .int b]) (rest := []) C hQX hT (c_X1_refuseNoPattern l hl9 D tys ((h, .inr (1, [.ref a1, .ref a2, .ref a3, .ref a4, .int (nI np), .int (nI hr), .ref a5, .ref a6, .ref a7])) :: (a1, .inl (cI, 80, .inl (wet))) :: (a2, .inl (cI, 80, .inl (cover))) :: (a3, .inl (cI, 8, .inl (sun))) :: (a4, .inl (cP, 100, .inr (.inr (.inr (.inr (pcs)))))) :: (a5, .inl (cI, 80, .inl (fs))) :: (a6, .inl (cI, 80, .inl (mk))) :: (a7, .inl (cI, 80, .inl (fd))) :: (plist pa P np ++ Y)) k9 a b) (va_cwS 3 C.ts gX1_advise_X1_refuseNoPattern rfl rfl rfl (by decide +kernel) ⟨(Nat.le_of_ble_eq_true rfl), (Nat.le_of_ble_eq_true rfl)⟩) rfl rfl (Nat.le_of_ble_eq_true rfl) dX1_advise_3 (Nat.le_of_ble_eq_true rfl) (Nat.le_of_ble_eq_true rfl) (Nat.le_of_ble_eq_true rfl) (Nat.le_of_ble_eq_true rfl) (fun E h => ⟨by simp [cdP, h.1], by rw [h.2]; simp [cdP, h.1]⟩) (g_isYV (W1 := ((h, .inr (1, [.ref a1, .ref a2, .ref a3, .ref a4, .int (nI np), .int (nI hr), .ref a5, .ref a6, .ref a7])) :: (a1, .inl (cI, 80, .inl (wet))) :: (a2, .inl (cI, 80, .inl (cover))) :: (a3, .inl (cI, 8, .inl (sun))) :: (a4, .inl (cP, 100, .inr (.inr (.inr (.inr (pcs)))))) :: (a5, .inl (cI, 80, .inl (fs))) :: (a6, .inl (cI, 80, .inl (mk))) :: (a7, .inl (cI, 80, .inl (fd))) :: (plist pa P np ++ Y))) (fun hpt => ?_))
  refine g_more (k2 := 1) (n2 := 6) (Nat.le_of_ble_eq_true rfl) (Nat.le_of_ble_eq_true rfl) ?_
  have hpt2 : inR 0 3 k9 = true ∧ inR 0 6 a = true ∧ inR 0 6 b = true := by simpa [patB] using hpt
  obtain ⟨kk, hkk, rfl⟩ := inR_nI (n := 3) rfl hpt2.1
  have hclkk : vn (nI kk) = kk := nI_clamp (by omega)
  refine g_iconst (v := (-1)) C dX1_advise_6 (by decide) ?_
  refine g_istore (lv' := [(4, .int ((-1))), (0, .ref h), (1, .int (nI kk)), (2, .int a), (3, .int b)]) C dX1_advise_7 (by decide) rfl ?_
  refine g_aload_n C dX1_advise_9 rfl 1 rfl ?_
  refine g_iload_n C dX1_advise_10 rfl 2 rfl ?_
  refine g_iload_n C dX1_advise_11 rfl 3 rfl ?_
  refine g_iload_n C dX1_advise_12 rfl 4 rfl ?_
  refine g_callV (ci := 1) (Cn := RX1) (As := [.int (nI kk), .int a, .int b]) (rest := []) C gm0 rfl rfl (c_X1_cellsOff l D tys cI ht0 cP ht1 ((h, .inr (1, [.ref a1, .ref a2, .ref a3, .ref a4, .int (nI np), .int (nI hr), .ref a5, .ref a6, .ref a7])) :: (a1, .inl (cI, 80, .inl (wet))) :: (a2, .inl (cI, 80, .inl (cover))) :: (a3, .inl (cI, 8, .inl (sun))) :: (a4, .inl (cP, 100, .inr (.inr (.inr (.inr (pcs)))))) :: (a5, .inl (cI, 80, .inl (fs))) :: (a6, .inl (cI, 80, .inl (mk))) :: (a7, .inl (cI, 80, .inl (fd))) :: (plist pa P np ++ Y)) h a1 a2 a3 a4 a5 a6 a7 np hr cover pcs pa P kk a b (by omega) hnp (fun k9 hk9 => ⟨(hp k9 hk9).1, gmT (gmT (gmT (gmT (gmT (gmT (gmT (gmT (hp k9 hk9).2)))))))⟩) gm0 (gmT (gmT gm0)) (gmT (gmT (gmT (gmT gm0))))) (cwV 3 C.ts gX1_advise_X1_cellsOff rfl rfl rfl (by decide +kernel) ⟨(Nat.le_of_ble_eq_true rfl), (Nat.le_of_ble_eq_true rfl)⟩) rfl rfl (Nat.le_of_ble_eq_true rfl) dX1_advise_13 (Nat.le_of_ble_eq_true rfl) (Nat.le_of_ble_eq_true rfl) (g_is (x := .int (nI (cnt (offB np P cover kk a b) 80))) (W1 := ((h, .inr (1, [.ref a1, .ref a2, .ref a3, .ref a4, .int (nI np), .int (nI hr), .ref a5, .ref a6, .ref a7])) :: (a1, .inl (cI, 80, .inl (wet))) :: (a2, .inl (cI, 80, .inl (cover))) :: (a3, .inl (cI, 8, .inl (sun))) :: (a4, .inl (cP, 100, .inr (.inr (.inr (.inr (pcs)))))) :: (a5, .inl (cI, 80, .inl (fs))) :: (a6, .inl (cI, 80, .inl (mk))) :: (a7, .inl (cI, 80, .inl (fd))) :: (plist pa P np ++ Y))) ?_)
  refine g_istore (lv' := [(5, .int (nI (cnt (offB np P cover kk a b) 80))), (4, .int ((-1))), (0, .ref h), (1, .int (nI kk)), (2, .int a), (3, .int b)]) C dX1_advise_16 (by decide) rfl ?_
  refine g_iconst (v := 0) C dX1_advise_18 (by decide) ?_
  refine g_istore (lv' := [(6, .int 0), (5, .int (nI (cnt (offB np P cover kk a b) 80))), (4, .int ((-1))), (0, .ref h), (1, .int (nI kk)), (2, .int a), (3, .int b)]) C dX1_advise_19 (by decide) rfl ?_
  have lp21 : ∀ (n9 : Nat) (i fe : Nat) (be : Int32) (hb : (advS np P wet cover kk a b i).1 = be) (hf : (advS np P wet cover kk a b i).2 = fe) (hi : i ≤ np) (hn : np + 1 ≤ i + n9), G p l e ({ frames := 7, cells := 1, slots := 6, locals := 142 } : Room) s m args below meth c D A s.heap 9 1 6 Q 21 [(0, .ref h), (1, .int (nI kk)), (2, .int a), (3, .int b), (4, .int be), (5, .int (nI fe)), (6, .int (nI i))] [] ((h, .inr (1, [.ref a1, .ref a2, .ref a3, .ref a4, .int (nI np), .int (nI hr), .ref a5, .ref a6, .ref a7])) :: (a1, .inl (cI, 80, .inl (wet))) :: (a2, .inl (cI, 80, .inl (cover))) :: (a3, .inl (cI, 8, .inl (sun))) :: (a4, .inl (cP, 100, .inr (.inr (.inr (.inr (pcs)))))) :: (a5, .inl (cI, 80, .inl (fs))) :: (a6, .inl (cI, 80, .inl (mk))) :: (a7, .inl (cI, 80, .inl (fd))) :: (plist pa P np ++ Y)) := by
    intro n9
    induction n9 with
    | zero =>
      intro i fe be hb hf hi hn
      exfalso; omega
    | succ n9 ih =>
      intro i fe be hb hf hi hn
      have hfe := advS_n np P wet cover kk a b i
      refine g_iload C dX1_advise_21 6 rfl ?_
      refine g_aload_n C dX1_advise_23 rfl 0 rfl ?_
      refine g_get (v := .int (nI np)) (ci := 1) (Cn := RX1) (T := TX1) (N := 9) C k_X1_advise_inX1 gm0 rfl 4 (by decide) k_X1_advise_1 rfl rfl dX1_advise_24 ?_
      refine g_icmp_ge (tgt := 87) C dX1_advise_27 (by decide) (fun c_1 => ?_) (fun c_1 => ?_)
      · skip
        rw [nI_leI (by omega) (by omega)] at c_1
        refine g_iload C dX1_advise_87 4 rfl ?_
        refine g_iret C hQ (Nat.le_of_ble_eq_true rfl) (Nat.le_of_ble_eq_true rfl) dX1_advise_89 ?_
        have e : i = np := by omega
        subst e
        exact ⟨by simp [cdP, *], by rw [hclkk, hb], rfl⟩
      · skip
        rw [nI_leI (by omega) (by omega)] at c_1
        refine g_aload_n C dX1_advise_30 rfl 0 rfl ?_
        refine g_iload C dX1_advise_31 6 rfl ?_
        refine g_callV (ci := 1) (Cn := RX1) (As := [.int (nI i)]) (rest := []) C gm0 rfl rfl (c_X1_find l D tys cP ht1 ((h, .inr (1, [.ref a1, .ref a2, .ref a3, .ref a4, .int (nI np), .int (nI hr), .ref a5, .ref a6, .ref a7])) :: (a1, .inl (cI, 80, .inl (wet))) :: (a2, .inl (cI, 80, .inl (cover))) :: (a3, .inl (cI, 8, .inl (sun))) :: (a4, .inl (cP, 100, .inr (.inr (.inr (.inr (pcs)))))) :: (a5, .inl (cI, 80, .inl (fs))) :: (a6, .inl (cI, 80, .inl (mk))) :: (a7, .inl (cI, 80, .inl (fd))) :: (plist pa P np ++ Y)) h a1 a2 a3 a4 a5 a6 a7 np hr pcs (nI i) hnp gm0 (gmT (gmT (gmT (gmT gm0))))) (cwV 1 C.ts gX1_advise_X1_find rfl rfl rfl (by decide +kernel) ⟨(Nat.le_of_ble_eq_true rfl), (Nat.le_of_ble_eq_true rfl)⟩) rfl rfl (Nat.le_of_ble_eq_true rfl) dX1_advise_33 (Nat.le_of_ble_eq_true rfl) (Nat.le_of_ble_eq_true rfl) (g_is (x := va_rf (fnd np pcs (nI i))) (W1 := ((h, .inr (1, [.ref a1, .ref a2, .ref a3, .ref a4, .int (nI np), .int (nI hr), .ref a5, .ref a6, .ref a7])) :: (a1, .inl (cI, 80, .inl (wet))) :: (a2, .inl (cI, 80, .inl (cover))) :: (a3, .inl (cI, 8, .inl (sun))) :: (a4, .inl (cP, 100, .inr (.inr (.inr (.inr (pcs)))))) :: (a5, .inl (cI, 80, .inl (fs))) :: (a6, .inl (cI, 80, .inl (mk))) :: (a7, .inl (cI, 80, .inl (fd))) :: (plist pa P np ++ Y))) ?_)
        refine g_eqv (x := va_rf (fnd np pcs (nI i))) (y := .ref (pa i)) (fnd_nI (by omega) hnp (hp i (by omega)).1) ?_
        refine g_astore (lv' := [(7, .ref (pa i)), (0, .ref h), (1, .int (nI kk)), (2, .int a), (3, .int b), (4, .int be), (5, .int (nI fe)), (6, .int (nI i))]) C dX1_advise_36 (by decide) rfl ?_
        refine g_aload C dX1_advise_38 0 rfl ?_
        refine g_ifnull C dX1_advise_40 ?_
        refine g_aload C dX1_advise_43 0 rfl ?_
        refine g_aload_n C dX1_advise_45 rfl 1 rfl ?_
        refine g_get (v := .ref a1) (ci := 1) (Cn := RX1) (T := TX1) (N := 9) C k_X1_advise_inX1 gm0 rfl 0 (by decide) k_X1_advise_2 rfl rfl dX1_advise_46 ?_
        refine g_callS (As := [.ref (pa i), .ref a1]) (rest := []) C (c_X1_isLoose l D tys cI ht0 ((h, .inr (1, [.ref a1, .ref a2, .ref a3, .ref a4, .int (nI np), .int (nI hr), .ref a5, .ref a6, .ref a7])) :: (a1, .inl (cI, 80, .inl (wet))) :: (a2, .inl (cI, 80, .inl (cover))) :: (a3, .inl (cI, 8, .inl (sun))) :: (a4, .inl (cP, 100, .inr (.inr (.inr (.inr (pcs)))))) :: (a5, .inl (cI, 80, .inl (fs))) :: (a6, .inl (cI, 80, .inl (mk))) :: (a7, .inl (cI, 80, .inl (fd))) :: (plist pa P np ++ Y)) (pa i) (qx (P i)) (qy (P i)) (ql (P i)) (qf (P i)) (qb (P i)) (qc (P i)) (qs (P i)) (qo (P i)) a1 wet (hg i (by omega)).2.1 (hg i (by omega)).2.2.2.2 (gmT (gmT (gmT (gmT (gmT (gmT (gmT (gmT (hp i (by omega)).2)))))))) (gmT gm0)) (va_cwS 2 C.ts gX1_advise_X1_isLoose rfl rfl rfl (by decide +kernel) ⟨(Nat.le_of_ble_eq_true rfl), (Nat.le_of_ble_eq_true rfl)⟩) rfl rfl (Nat.le_of_ble_eq_true rfl) dX1_advise_49 (Nat.le_of_ble_eq_true rfl) (Nat.le_of_ble_eq_true rfl) (g_is (x := .int (gz (lsp (P i) wet))) (W1 := ((h, .inr (1, [.ref a1, .ref a2, .ref a3, .ref a4, .int (nI np), .int (nI hr), .ref a5, .ref a6, .ref a7])) :: (a1, .inl (cI, 80, .inl (wet))) :: (a2, .inl (cI, 80, .inl (cover))) :: (a3, .inl (cI, 8, .inl (sun))) :: (a4, .inl (cP, 100, .inr (.inr (.inr (.inr (pcs)))))) :: (a5, .inl (cI, 80, .inl (fs))) :: (a6, .inl (cI, 80, .inl (mk))) :: (a7, .inl (cI, 80, .inl (fd))) :: (plist pa P np ++ Y))) ?_)
        refine g_if_eq (tgt := 81) C dX1_advise_52 (by decide) (fun c_2 => ?_) (fun c_2 => ?_)
        · skip
          replace c_2 := gz0.mp c_2
          refine g_iinc (v := nI (i + 1)) (lv' := [(6, .int (nI (i + 1))), (7, .ref (pa i)), (0, .ref h), (1, .int (nI kk)), (2, .int a), (3, .int b), (4, .int be), (5, .int (nI fe))]) C dX1_advise_81 7 rfl (by exact nI_add _ 1) (by decide) rfl ?_
          refine g_goto (tgt := 21) C dX1_advise_84 (by decide) ?_
          refine g_sub [2, 3, 4, 5, 6, 7, 0] (lv' := [(0, .ref h), (1, .int (nI kk)), (2, .int a), (3, .int b), (4, .int be), (5, .int (nI fe)), (6, .int (nI (i + 1)))]) rfl ?_
          exact ih (i + 1) _ _ (by rw [advS]; first | (simp [*]; done) | (simp [*]; rw [if_pos (by omega)]) | (simp [*]; rw [if_neg (by omega)]; assumption)) (by rw [advS]; first | (simp [*]; done) | (simp [*]; rw [if_pos (by omega)]) | (simp [*]; rw [if_neg (by omega)]; assumption)) (by omega) (by omega)
        · skip
          replace c_2 := gzn.mp c_2
          refine g_aload_n C dX1_advise_55 rfl 1 rfl ?_
          refine g_aload C dX1_advise_56 0 rfl ?_
          refine g_iload_n C dX1_advise_58 rfl 2 rfl ?_
          refine g_iload_n C dX1_advise_59 rfl 3 rfl ?_
          refine g_iload_n C dX1_advise_60 rfl 4 rfl ?_
          refine g_callV (ci := 1) (Cn := RX1) (As := [.ref (pa i), .int (nI kk), .int a, .int b]) (rest := []) C gm0 rfl rfl (c_X1_cellsOffFlipped l D tys cI cP ht0 ht1 h a1 a2 a3 a4 a5 a6 a7 np hr wet cover sun fs mk fd pcs pa P Y hnp hpc hg i kk a b (by omega) (by omega)) (cwV 4 C.ts gX1_advise_X1_cellsOffFlipped rfl rfl rfl (by decide +kernel) ⟨(Nat.le_of_ble_eq_true rfl), (Nat.le_of_ble_eq_true rfl)⟩) rfl rfl (Nat.le_of_ble_eq_true rfl) dX1_advise_61 (Nat.le_of_ble_eq_true rfl) (Nat.le_of_ble_eq_true rfl) (g_is (x := .int (nI (cnt (offB np (pup P i (flp (P i))) cover kk a b) 80))) (W1 := ((h, .inr (1, [.ref a1, .ref a2, .ref a3, .ref a4, .int (nI np), .int (nI hr), .ref a5, .ref a6, .ref a7])) :: (a1, .inl (cI, 80, .inl (wet))) :: (a2, .inl (cI, 80, .inl (cover))) :: (a3, .inl (cI, 8, .inl (sun))) :: (a4, .inl (cP, 100, .inr (.inr (.inr (.inr (pcs)))))) :: (a5, .inl (cI, 80, .inl (fs))) :: (a6, .inl (cI, 80, .inl (mk))) :: (a7, .inl (cI, 80, .inl (fd))) :: (plist pa P np ++ Y))) ?_)
          have hcn := cnt_le (offB np (pup P i (flp (P i))) cover kk a b) 80
          refine g_istore (lv' := [(8, .int (nI (cnt (offB np (pup P i (flp (P i))) cover kk a b) 80))), (7, .ref (pa i)), (0, .ref h), (1, .int (nI kk)), (2, .int a), (3, .int b), (4, .int be), (5, .int (nI fe)), (6, .int (nI i))]) C dX1_advise_64 (by decide) rfl ?_
          refine g_iload C dX1_advise_66 0 rfl ?_
          refine g_iload C dX1_advise_68 7 rfl ?_
          refine g_icmp_ge (tgt := 81) C dX1_advise_70 (by decide) (fun c_3 => ?_) (fun c_3 => ?_)
          · skip
            rw [nI_leI (by omega) (by omega)] at c_3
            refine g_iinc (v := nI (i + 1)) (lv' := [(6, .int (nI (i + 1))), (8, .int (nI (cnt (offB np (pup P i (flp (P i))) cover kk a b) 80))), (7, .ref (pa i)), (0, .ref h), (1, .int (nI kk)), (2, .int a), (3, .int b), (4, .int be), (5, .int (nI fe))]) C dX1_advise_81 8 rfl (by exact nI_add _ 1) (by decide) rfl ?_
            refine g_goto (tgt := 21) C dX1_advise_84 (by decide) ?_
            refine g_sub [3, 4, 5, 6, 7, 8, 0] (lv' := [(0, .ref h), (1, .int (nI kk)), (2, .int a), (3, .int b), (4, .int be), (5, .int (nI fe)), (6, .int (nI (i + 1)))]) rfl ?_
            exact ih (i + 1) _ _ (by rw [advS]; first | (simp [*]; done) | (simp [*]; rw [if_pos (by omega)]) | (simp [*]; rw [if_neg (by omega)]; assumption)) (by rw [advS]; first | (simp [*]; done) | (simp [*]; rw [if_pos (by omega)]) | (simp [*]; rw [if_neg (by omega)]; assumption)) (by omega) (by omega)
          · skip
            rw [nI_leI (by omega) (by omega)] at c_3
            refine g_iload C dX1_advise_73 0 rfl ?_
            refine g_istore (lv' := [(5, .int (nI (cnt (offB np (pup P i (flp (P i))) cover kk a b) 80))), (8, .int (nI (cnt (offB np (pup P i (flp (P i))) cover kk a b) 80))), (7, .ref (pa i)), (0, .ref h), (1, .int (nI kk)), (2, .int a), (3, .int b), (4, .int be), (6, .int (nI i))]) C dX1_advise_75 (by decide) rfl ?_
            refine g_iload C dX1_advise_77 8 rfl ?_
            refine g_istore (lv' := [(4, .int (nI i)), (5, .int (nI (cnt (offB np (pup P i (flp (P i))) cover kk a b) 80))), (8, .int (nI (cnt (offB np (pup P i (flp (P i))) cover kk a b) 80))), (7, .ref (pa i)), (0, .ref h), (1, .int (nI kk)), (2, .int a), (3, .int b), (6, .int (nI i))]) C dX1_advise_79 (by decide) rfl ?_
            refine g_iinc (v := nI (i + 1)) (lv' := [(6, .int (nI (i + 1))), (4, .int (nI i)), (5, .int (nI (cnt (offB np (pup P i (flp (P i))) cover kk a b) 80))), (8, .int (nI (cnt (offB np (pup P i (flp (P i))) cover kk a b) 80))), (7, .ref (pa i)), (0, .ref h), (1, .int (nI kk)), (2, .int a), (3, .int b)]) C dX1_advise_81 8 rfl (by exact nI_add _ 1) (by decide) rfl ?_
            refine g_goto (tgt := 21) C dX1_advise_84 (by decide) ?_
            refine g_sub [5, 6, 7, 8, 1, 2, 0] (lv' := [(0, .ref h), (1, .int (nI kk)), (2, .int a), (3, .int b), (4, .int (nI i)), (5, .int (nI (cnt (offB np (pup P i (flp (P i))) cover kk a b) 80))), (6, .int (nI (i + 1)))]) rfl ?_
            exact ih (i + 1) _ _ (by rw [advS]; first | (simp [*]; done) | (simp [*]; rw [if_pos (by omega)]) | (simp [*]; rw [if_neg (by omega)]; assumption)) (by rw [advS]; first | (simp [*]; done) | (simp [*]; rw [if_pos (by omega)]) | (simp [*]; rw [if_neg (by omega)]; assumption)) (by omega) (by omega)
  refine g_sub [3, 4, 5, 6, 2, 1, 0] (lv' := [(0, .ref h), (1, .int (nI kk)), (2, .int a), (3, .int b), (4, .int ((-1))), (5, .int (nI (cnt (offB np P cover kk a b) 80))), (6, .int 0)]) rfl ?_
  exact lp21 (np + 1) 0 _ _ rfl rfl (by omega) (by omega)

theorem x_X1_flip_IO : ∀ w ∈ (vx_atS RX1 65 "java/lang/IndexOutOfBoundsException" ["java/lang/RuntimeException", "java/lang/Exception"]).filter goodWord, w ∈ wsX1_flip := by
  intro w h
  simp only [wsX1_flip, List.mem_cons, List.mem_append, h, or_true, true_or]
theorem k_X1_flip_1 : Cond.classLink RX1 61 "java/lang/IndexOutOfBoundsException" ∈ wsX1_flip := by decide +kernel
theorem k_X1_flip_2 : Cond.initialized "java/lang/IndexOutOfBoundsException" ∈ wsX1_flip := by decide +kernel
theorem k_X1_flip_inX1 : ∀ w ∈ wsX10, w ∈ wsX1_flip := by decide +kernel
theorem k_X1_flip_4 : Cond.fieldLink RX1 9 "WetMosaic" "wet" "[I" ∈ wsX1_flip := by decide +kernel
theorem k_X1_flip_inX0 : ∀ w ∈ wsX00, w ∈ wsX1_flip := by decide +kernel
theorem k_X1_flip_6 : Cond.fieldLink RX1 106 "WetMosaic$Piece" "showsBack" "Z" ∈ wsX1_flip := by decide +kernel
theorem k_X1_flip_7 : Cond.fieldLink RX1 110 "WetMosaic$Piece" "length" "I" ∈ wsX1_flip := by decide +kernel
theorem x_X1_flip_IS : ∀ w ∈ (vx_atS RX1 86 "java/lang/IllegalStateException" ["java/lang/RuntimeException", "java/lang/Exception"]).filter goodWord, w ∈ wsX1_flip := by
  intro w h
  simp only [wsX1_flip, List.mem_cons, List.mem_append, h, or_true, true_or]
theorem k_X1_flip_9 : Cond.classLink RX1 82 "java/lang/IllegalStateException" ∈ wsX1_flip := by decide +kernel
theorem k_X1_flip_10 : Cond.initialized "java/lang/IllegalStateException" ∈ wsX1_flip := by decide +kernel
set_option maxHeartbeats 4000000 in
set_option maxRecDepth 100000 in
theorem c_X1_flip (l : Launch) (hl9 : l.stackTraces = false) (D : va_G) (tys : List (ClassId × FieldType)) (cI cP : ClassId) (ht0 : tys[0]? = some (cI, .int)) (ht1 : tys[1]? = some (cP, .object RX0)) (h a1 a2 a3 a4 a5 a6 a7 np hr : Nat) (wet cover sun fs mk fd : Nat → Int32) (pcs : Nat → Option Nat) (pa : Nat → Nat) (P : Nat → Pd) (Y : va_W) (hnp : np ≤ 100) (hpc : ∀ k, k < np → pcs k = some (pa k)) (hg : Pok np P) (v : Int32) : gMx l yX1_flip wsX1_flip ({ frames := 6, cells := 1, slots := 6, locals := 100 } : Room) D tys [.ref h, .int v] ((h, .inr (1, [.ref a1, .ref a2, .ref a3, .ref a4, .int (nI np), .int (nI hr), .ref a5, .ref a6, .ref a7])) :: (a1, .inl (cI, 80, .inl (wet))) :: (a2, .inl (cI, 80, .inl (cover))) :: (a3, .inl (cI, 8, .inl (sun))) :: (a4, .inl (cP, 100, .inr (.inr (.inr (.inr (pcs)))))) :: (a5, .inl (cI, 80, .inl (fs))) :: (a6, .inl (cI, 80, .inl (mk))) :: (a7, .inl (cI, 80, .inl (fd))) :: (plist pa P np ++ Y)) (gIy (cdFl np P wet v = 0) (some (.int (shw (flp (P (vn v)))))) ((h, .inr (1, [.ref a1, .ref a2, .ref a3, .ref a4, .int (nI np), .int (nI hr), .ref a5, .ref a6, .ref a7])) :: (a1, .inl (cI, 80, .inl (decL wet (pcl (P (vn v))) (ql (P (vn v)))))) :: (a2, .inl (cI, 80, .inl (cover))) :: (a3, .inl (cI, 8, .inl (sun))) :: (a4, .inl (cP, 100, .inr (.inr (.inr (.inr (pcs)))))) :: (a5, .inl (cI, 80, .inl (fs))) :: (a6, .inl (cI, 80, .inl (mk))) :: (a7, .inl (cI, 80, .inl (fd))) :: (plist pa (pup P (vn v) (flp (P (vn v)))) np ++ Y))) (fun E => cdE (cdFl np P wet v) nmOS E) 1 6 := by
  refine gMx_of2 (by decide +kernel) rfl (Nat.le_of_ble_eq_true rfl) ?_
  intro p e s m args below meth c A Q C hT hQ hQX
  refine g_sub [0, 1] (lv' := [(0, .ref h), (1, .int v)]) rfl ?_
  have hp := Pin_of (Y := Y) (P := P) hpc
  refine g_aload_n C dX1_flip_0 rfl 0 rfl ?_
  refine g_iload_n C dX1_flip_1 rfl 1 rfl ?_
  refine g_callV (ci := 1) (Cn := RX1) (As := [.int v]) (rest := []) C gm0 rfl rfl (c_X1_find l D tys cP ht1 ((h, .inr (1, [.ref a1, .ref a2, .ref a3, .ref a4, .int (nI np), .int (nI hr), .ref a5, .ref a6, .ref a7])) :: (a1, .inl (cI, 80, .inl (wet))) :: (a2, .inl (cI, 80, .inl (cover))) :: (a3, .inl (cI, 8, .inl (sun))) :: (a4, .inl (cP, 100, .inr (.inr (.inr (.inr (pcs)))))) :: (a5, .inl (cI, 80, .inl (fs))) :: (a6, .inl (cI, 80, .inl (mk))) :: (a7, .inl (cI, 80, .inl (fd))) :: (plist pa P np ++ Y)) h a1 a2 a3 a4 a5 a6 a7 np hr pcs v hnp gm0 (gmT (gmT (gmT (gmT gm0))))) (cwV 1 C.ts gX1_flip_X1_find rfl rfl rfl (by decide +kernel) ⟨(Nat.le_of_ble_eq_true rfl), (Nat.le_of_ble_eq_true rfl)⟩) rfl rfl (Nat.le_of_ble_eq_true rfl) dX1_flip_2 (Nat.le_of_ble_eq_true rfl) (Nat.le_of_ble_eq_true rfl) (g_is (x := va_rf (fnd np pcs v)) (W1 := ((h, .inr (1, [.ref a1, .ref a2, .ref a3, .ref a4, .int (nI np), .int (nI hr), .ref a5, .ref a6, .ref a7])) :: (a1, .inl (cI, 80, .inl (wet))) :: (a2, .inl (cI, 80, .inl (cover))) :: (a3, .inl (cI, 8, .inl (sun))) :: (a4, .inl (cP, 100, .inr (.inr (.inr (.inr (pcs)))))) :: (a5, .inl (cI, 80, .inl (fs))) :: (a6, .inl (cI, 80, .inl (mk))) :: (a7, .inl (cI, 80, .inl (fd))) :: (plist pa P np ++ Y))) ?_)
  cases hv : inR 0 (nI np - 1) v with
  | false =>
    refine g_eqv (x := va_rf (fnd np pcs v)) (y := .null) (by rw [fnd, if_neg (by simp [hv])]; rfl) ?_
    refine g_astore_nN (lv' := [(2, .null), (0, .ref h), (1, .int v)]) C dX1_flip_5 rfl (by decide) rfl ?_
    refine g_aload_nN C dX1_flip_6 rfl 0 rfl ?_
    refine g_ifnonnullN C dX1_flip_7 ?_
    refine g_throwS (own := RX1) (cls := "java/lang/IndexOutOfBoundsException") (text := "no such piece") (names := tNs) (ik := 61) (is := 98) (ic := 65) C hQX hT hl9 (by decide) (by decide) k_X1_flip_1 k_X1_flip_2 (by decide +kernel) bad_IO x_X1_flip_IO ot_IO dX1_flip_10 dX1_flip_13 dX1_flip_14 dX1_flip_16 dX1_flip_19 (Nat.le_of_ble_eq_true rfl) (Nat.le_of_ble_eq_true rfl) (Nat.le_of_ble_eq_true rfl) (Nat.le_of_ble_eq_true rfl) (Nat.le_of_ble_eq_true rfl) (Nat.le_of_ble_eq_true rfl) ?_
    exact ⟨by simp [cdFl, pIn, *], by simp [cdFl, pIn, *]⟩
  | true =>
    obtain ⟨k, hk, rfl⟩ := inR_np (by omega) hv
    have hclk : vn (nI k) = k := nI_clamp (by omega)
    refine g_eqv (x := va_rf (fnd np pcs (nI k))) (y := .ref (pa k)) (fnd_nI hk hnp (hp k hk).1) ?_
    refine g_astore_n (lv' := [(2, .ref (pa k)), (0, .ref h), (1, .int (nI k))]) C dX1_flip_5 rfl (by decide) rfl ?_
    refine g_aload_n C dX1_flip_6 rfl 0 rfl ?_
    refine g_ifnonnull (tgt := 20) C dX1_flip_7 (by decide) ?_
    refine g_aload_n C dX1_flip_20 rfl 0 rfl ?_
    refine g_aload_n C dX1_flip_21 rfl 1 rfl ?_
    refine g_get (v := .ref a1) (ci := 1) (Cn := RX1) (T := TX1) (N := 9) C k_X1_flip_inX1 gm0 rfl 0 (by decide) k_X1_flip_4 rfl rfl dX1_flip_22 ?_
    refine g_callS (As := [.ref (pa k), .ref a1]) (rest := []) C (c_X1_isLoose l D tys cI ht0 ((h, .inr (1, [.ref a1, .ref a2, .ref a3, .ref a4, .int (nI np), .int (nI hr), .ref a5, .ref a6, .ref a7])) :: (a1, .inl (cI, 80, .inl (wet))) :: (a2, .inl (cI, 80, .inl (cover))) :: (a3, .inl (cI, 8, .inl (sun))) :: (a4, .inl (cP, 100, .inr (.inr (.inr (.inr (pcs)))))) :: (a5, .inl (cI, 80, .inl (fs))) :: (a6, .inl (cI, 80, .inl (mk))) :: (a7, .inl (cI, 80, .inl (fd))) :: (plist pa P np ++ Y)) (pa k) (qx (P k)) (qy (P k)) (ql (P k)) (qf (P k)) (qb (P k)) (qc (P k)) (qs (P k)) (qo (P k)) a1 wet (hg _ (by assumption)).2.1 (hg _ (by assumption)).2.2.2.2 (gmT (gmT (gmT (gmT (gmT (gmT (gmT (gmT (hp k hk).2)))))))) (gmT gm0)) (va_cwS 2 C.ts gX1_flip_X1_isLoose rfl rfl rfl (by decide +kernel) ⟨(Nat.le_of_ble_eq_true rfl), (Nat.le_of_ble_eq_true rfl)⟩) rfl rfl (Nat.le_of_ble_eq_true rfl) dX1_flip_25 (Nat.le_of_ble_eq_true rfl) (Nat.le_of_ble_eq_true rfl) (g_is (x := .int (gz (lsp (P k) wet))) (W1 := ((h, .inr (1, [.ref a1, .ref a2, .ref a3, .ref a4, .int (nI np), .int (nI hr), .ref a5, .ref a6, .ref a7])) :: (a1, .inl (cI, 80, .inl (wet))) :: (a2, .inl (cI, 80, .inl (cover))) :: (a3, .inl (cI, 8, .inl (sun))) :: (a4, .inl (cP, 100, .inr (.inr (.inr (.inr (pcs)))))) :: (a5, .inl (cI, 80, .inl (fs))) :: (a6, .inl (cI, 80, .inl (mk))) :: (a7, .inl (cI, 80, .inl (fd))) :: (plist pa P np ++ Y))) ?_)
    refine g_if_ne (tgt := 41) C dX1_flip_28 (by decide) (fun c_1 => ?_) (fun c_1 => ?_)
    · skip
      replace c_1 := gzn.mp c_1
      refine g_aload_n C dX1_flip_41 rfl 0 rfl ?_
      refine g_aload_n C dX1_flip_42 rfl 0 rfl ?_
      refine g_get (v := .int (gz ((qs (P k))))) (ci := 0) (Cn := RX0) (T := TX0) (N := 8) C k_X1_flip_inX0 (gmT (gmT (gmT (gmT (gmT (gmT (gmT (gmT (hp k hk).2)))))))) rfl 6 (by decide) k_X1_flip_6 rfl rfl dX1_flip_43 ?_
      refine g_if_ne (tgt := 53) C dX1_flip_46 (by decide) (fun c_2 => ?_) (fun c_2 => ?_)
      · skip
        replace c_2 := gzn.mp c_2
        refine g_iconst (v := 0) C dX1_flip_53 (by decide) ?_
        refine g_eqi (x := 0) (y := gz (!qs (P k))) (by first | (simp [gz, *]; done) | (simp_all [gz]; done)) ?_
        refine g_put (ci := 0) (Cn := RX0) (T := TX0) (N := 8) (ty := .boolean) (ws' := ((h, .inr (1, [.ref a1, .ref a2, .ref a3, .ref a4, .int (nI np), .int (nI hr), .ref a5, .ref a6, .ref a7])) :: (a1, .inl (cI, 80, .inl (wet))) :: (a2, .inl (cI, 80, .inl (cover))) :: (a3, .inl (cI, 8, .inl (sun))) :: (a4, .inl (cP, 100, .inr (.inr (.inr (.inr (pcs)))))) :: (a5, .inl (cI, 80, .inl (fs))) :: (a6, .inl (cI, 80, .inl (mk))) :: (a7, .inl (cI, 80, .inl (fd))) :: (plist pa (pup P k (flp (P k))) np ++ Y))) C k_X1_flip_inX0 tyX0 tyX0_ok nmX0 (k + 8) (plist_get (P := P) (Y := Y) hk) rfl 6 (by decide) k_X1_flip_6 rfl rfl (by decide +kernel) (bo1 _) (bo2 _) (Nat.le_of_ble_eq_true rfl) dX1_flip_54 (congrArg (fun t : va_W => ((h, .inr (1, [.ref a1, .ref a2, .ref a3, .ref a4, .int (nI np), .int (nI hr), .ref a5, .ref a6, .ref a7])) :: (a1, .inl (cI, 80, .inl (wet))) :: (a2, .inl (cI, 80, .inl (cover))) :: (a3, .inl (cI, 8, .inl (sun))) :: (a4, .inl (cP, 100, .inr (.inr (.inr (.inr (pcs)))))) :: (a5, .inl (cI, 80, .inl (fs))) :: (a6, .inl (cI, 80, .inl (mk))) :: (a7, .inl (cI, 80, .inl (fd))) :: t : va_W)) (plist_set (q := (flp (P k))) (Y := Y) hk)) ?_
        have hpk2 : (pa k, pcE (flp (P k))) ∈ (plist pa (pup P k (flp (P k))) np ++ Y) := by
          have h9 := plist_mem (pa := pa) (P := (pup P k (flp (P k)))) (Y := Y) hk
          rw [pup_s] at h9
          exact h9
        have hp2 := Pin_of (Y := Y) (P := (pup P k (flp (P k)))) hpc
        have hg2 := (hg k hk).2.1
        have hc : ∀ j, j < ql (P k) → pcl (P k) j < 80 := (hg k hk).2.2.2.2
        refine g_iconst (v := 0) C dX1_flip_57 (by decide) ?_
        refine g_istore_n (lv' := [(3, .int 0), (2, .ref (pa k)), (0, .ref h), (1, .int (nI k))]) C dX1_flip_58 rfl (by decide) rfl ?_
        have lp59 : ∀ (n9 : Nat) (j : Nat) (g : Nat → Int32) (hgg : g = decL wet (pcl (P k)) j) (hi : j ≤ ql (P k)) (hn : ql (P k) + 1 ≤ j + n9), G p l e ({ frames := 6, cells := 1, slots := 6, locals := 100 } : Room) s m args below meth c D A s.heap 5 0 0 Q 59 [(0, .ref h), (1, .int (nI k)), (2, .ref (pa k)), (3, .int (nI j))] [] ((h, .inr (1, [.ref a1, .ref a2, .ref a3, .ref a4, .int (nI np), .int (nI hr), .ref a5, .ref a6, .ref a7])) :: (a1, .inl (cI, 80, .inl (g))) :: (a2, .inl (cI, 80, .inl (cover))) :: (a3, .inl (cI, 8, .inl (sun))) :: (a4, .inl (cP, 100, .inr (.inr (.inr (.inr (pcs)))))) :: (a5, .inl (cI, 80, .inl (fs))) :: (a6, .inl (cI, 80, .inl (mk))) :: (a7, .inl (cI, 80, .inl (fd))) :: (plist pa (pup P k (flp (P k))) np ++ Y)) := by
          intro n9
          induction n9 with
          | zero =>
            intro j g hgg hi hn
            exfalso; omega
          | succ n9 ih =>
            intro j g hgg hi hn
            refine g_iload_n C dX1_flip_59 rfl 3 rfl ?_
            refine g_aload_n C dX1_flip_60 rfl 2 rfl ?_
            refine g_get (v := .int (nI (ql (P k)))) (ci := 0) (Cn := RX0) (T := TX0) (N := 8) C k_X1_flip_inX0 (gmT (gmT (gmT (gmT (gmT (gmT (gmT (gmT hpk2)))))))) rfl 2 (by decide) k_X1_flip_7 rfl rfl dX1_flip_61 ?_
            refine g_icmp_ge (tgt := 100) C dX1_flip_64 (by decide) (fun c_3 => ?_) (fun c_3 => ?_)
            · skip
              rw [nI_leI (by omega) (by omega)] at c_3
              refine g_aload_n C dX1_flip_100 rfl 2 rfl ?_
              refine g_callV (ci := 0) (Cn := RX0) (As := []) (rest := []) C (gmT (gmT (gmT (gmT (gmT (gmT (gmT (gmT hpk2)))))))) rfl rfl (c_X0_shownColour l D tys ((h, .inr (1, [.ref a1, .ref a2, .ref a3, .ref a4, .int (nI np), .int (nI hr), .ref a5, .ref a6, .ref a7])) :: (a1, .inl (cI, 80, .inl (g))) :: (a2, .inl (cI, 80, .inl (cover))) :: (a3, .inl (cI, 8, .inl (sun))) :: (a4, .inl (cP, 100, .inr (.inr (.inr (.inr (pcs)))))) :: (a5, .inl (cI, 80, .inl (fs))) :: (a6, .inl (cI, 80, .inl (mk))) :: (a7, .inl (cI, 80, .inl (fd))) :: (plist pa (pup P k (flp (P k))) np ++ Y)) (pa k) ((qx (P k))) ((qy (P k))) ((ql (P k))) (qf (P k)) (qb (P k)) (((qc (P k)))) (((!qs (P k)))) (((qo (P k)))) (gmT (gmT (gmT (gmT (gmT (gmT (gmT (gmT hpk2))))))))) (cwV 0 C.ts gX1_flip_X0_shownColour rfl rfl rfl (by decide +kernel) ⟨(Nat.le_of_ble_eq_true rfl), (Nat.le_of_ble_eq_true rfl)⟩) rfl rfl (Nat.le_of_ble_eq_true rfl) dX1_flip_101 (Nat.le_of_ble_eq_true rfl) (Nat.le_of_ble_eq_true rfl) (g_is (x := .int (shw (flp (P k)))) (W1 := ((h, .inr (1, [.ref a1, .ref a2, .ref a3, .ref a4, .int (nI np), .int (nI hr), .ref a5, .ref a6, .ref a7])) :: (a1, .inl (cI, 80, .inl (g))) :: (a2, .inl (cI, 80, .inl (cover))) :: (a3, .inl (cI, 8, .inl (sun))) :: (a4, .inl (cP, 100, .inr (.inr (.inr (.inr (pcs)))))) :: (a5, .inl (cI, 80, .inl (fs))) :: (a6, .inl (cI, 80, .inl (mk))) :: (a7, .inl (cI, 80, .inl (fd))) :: (plist pa (pup P k (flp (P k))) np ++ Y))) ?_)
              refine g_iret C hQ (Nat.le_of_ble_eq_true rfl) (Nat.le_of_ble_eq_true rfl) dX1_flip_104 ?_
              have e : j = ql (P k) := by omega
              rw [e] at hgg
              simp only [hclk]
              exact ⟨by simp [cdFl, pIn, *], rfl, by rw [hgg]⟩
            · skip
              rw [nI_leI (by omega) (by omega)] at c_3
              refine g_aload_n C dX1_flip_67 rfl 2 rfl ?_
              refine g_iload_n C dX1_flip_68 rfl 3 rfl ?_
              refine g_callV (ci := 0) (Cn := RX0) (As := [.int (nI j)]) (rest := []) C (gmT (gmT (gmT (gmT (gmT (gmT (gmT (gmT hpk2)))))))) rfl rfl (c_X0_cellAt l D tys ((h, .inr (1, [.ref a1, .ref a2, .ref a3, .ref a4, .int (nI np), .int (nI hr), .ref a5, .ref a6, .ref a7])) :: (a1, .inl (cI, 80, .inl (g))) :: (a2, .inl (cI, 80, .inl (cover))) :: (a3, .inl (cI, 8, .inl (sun))) :: (a4, .inl (cP, 100, .inr (.inr (.inr (.inr (pcs)))))) :: (a5, .inl (cI, 80, .inl (fs))) :: (a6, .inl (cI, 80, .inl (mk))) :: (a7, .inl (cI, 80, .inl (fd))) :: (plist pa (pup P k (flp (P k))) np ++ Y)) (pa k) ((qx (P k))) ((qy (P k))) ((ql (P k))) (qf (P k)) (qb (P k)) (((qc (P k)))) (((!qs (P k)))) (((qo (P k)))) (gmT (gmT (gmT (gmT (gmT (gmT (gmT (gmT hpk2)))))))) j) (cwV 1 C.ts gX1_flip_X0_cellAt rfl rfl rfl (by decide +kernel) ⟨(Nat.le_of_ble_eq_true rfl), (Nat.le_of_ble_eq_true rfl)⟩) rfl rfl (Nat.le_of_ble_eq_true rfl) dX1_flip_69 (Nat.le_of_ble_eq_true rfl) (Nat.le_of_ble_eq_true rfl) (g_is (x := .int (nI (pcl (P k) j))) (W1 := ((h, .inr (1, [.ref a1, .ref a2, .ref a3, .ref a4, .int (nI np), .int (nI hr), .ref a5, .ref a6, .ref a7])) :: (a1, .inl (cI, 80, .inl (g))) :: (a2, .inl (cI, 80, .inl (cover))) :: (a3, .inl (cI, 8, .inl (sun))) :: (a4, .inl (cP, 100, .inr (.inr (.inr (.inr (pcs)))))) :: (a5, .inl (cI, 80, .inl (fs))) :: (a6, .inl (cI, 80, .inl (mk))) :: (a7, .inl (cI, 80, .inl (fd))) :: (plist pa (pup P k (flp (P k))) np ++ Y))) ?_)
              refine g_istore (lv' := [(4, .int (nI (pcl (P k) j))), (0, .ref h), (1, .int (nI k)), (2, .ref (pa k)), (3, .int (nI j))]) C dX1_flip_72 (by decide) rfl ?_
              refine g_aload_n C dX1_flip_74 rfl 1 rfl ?_
              refine g_get (v := .ref a1) (ci := 1) (Cn := RX1) (T := TX1) (N := 9) C k_X1_flip_inX1 gm0 rfl 0 (by decide) k_X1_flip_4 rfl rfl dX1_flip_75 ?_
              refine g_iload C dX1_flip_78 0 rfl ?_
              refine g_aload_n C dX1_flip_80 rfl 1 rfl ?_
              refine g_get (v := .ref a1) (ci := 1) (Cn := RX1) (T := TX1) (N := 9) C k_X1_flip_inX1 gm0 rfl 0 (by decide) k_X1_flip_4 rfl rfl dX1_flip_81 ?_
              refine g_iload C dX1_flip_84 0 rfl ?_
              refine g_callS (As := [.ref a1, .int (nI (pcl (P k) j))]) (rest := [.int (nI (pcl (P k) j)), .ref a1]) C (c_X1_at l D tys cI ht0 ((h, .inr (1, [.ref a1, .ref a2, .ref a3, .ref a4, .int (nI np), .int (nI hr), .ref a5, .ref a6, .ref a7])) :: (a1, .inl (cI, 80, .inl (g))) :: (a2, .inl (cI, 80, .inl (cover))) :: (a3, .inl (cI, 8, .inl (sun))) :: (a4, .inl (cP, 100, .inr (.inr (.inr (.inr (pcs)))))) :: (a5, .inl (cI, 80, .inl (fs))) :: (a6, .inl (cI, 80, .inl (mk))) :: (a7, .inl (cI, 80, .inl (fd))) :: (plist pa (pup P k (flp (P k))) np ++ Y)) a1 80 g (nI (pcl (P k) j)) (by decide) (by decide) (gmT gm0)) (va_cwS 2 C.ts gX1_flip_X1_at rfl rfl rfl (by decide +kernel) ⟨(Nat.le_of_ble_eq_true rfl), (Nat.le_of_ble_eq_true rfl)⟩) rfl rfl (Nat.le_of_ble_eq_true rfl) dX1_flip_86 (Nat.le_of_ble_eq_true rfl) (Nat.le_of_ble_eq_true rfl) (g_is (x := .int (atv 80 g (nI (pcl (P k) j)))) (W1 := ((h, .inr (1, [.ref a1, .ref a2, .ref a3, .ref a4, .int (nI np), .int (nI hr), .ref a5, .ref a6, .ref a7])) :: (a1, .inl (cI, 80, .inl (g))) :: (a2, .inl (cI, 80, .inl (cover))) :: (a3, .inl (cI, 8, .inl (sun))) :: (a4, .inl (cP, 100, .inr (.inr (.inr (.inr (pcs)))))) :: (a5, .inl (cI, 80, .inl (fs))) :: (a6, .inl (cI, 80, .inl (mk))) :: (a7, .inl (cI, 80, .inl (fd))) :: (plist pa (pup P k (flp (P k))) np ++ Y))) ?_)
              refine g_eqi (x := atv 80 g (nI (pcl (P k) j))) (y := g (pcl (P k) j)) (atv_nI (hc _ (by omega)) (by omega)) ?_
              refine g_iconst (v := 1) C dX1_flip_89 (by decide) ?_
              refine g_isub C dX1_flip_90 ?_
              refine g_callS (As := [.ref a1, .int (nI (pcl (P k) j)), .int ((g (pcl (P k) j)) - 1)]) (rest := []) C (c_X1_put l D tys cI ht0 ((h, .inr (1, [.ref a1, .ref a2, .ref a3, .ref a4, .int (nI np), .int (nI hr), .ref a5, .ref a6, .ref a7])) :: (a1, .inl (cI, 80, .inl (g))) :: (a2, .inl (cI, 80, .inl (cover))) :: (a3, .inl (cI, 8, .inl (sun))) :: (a4, .inl (cP, 100, .inr (.inr (.inr (.inr (pcs)))))) :: (a5, .inl (cI, 80, .inl (fs))) :: (a6, .inl (cI, 80, .inl (mk))) :: (a7, .inl (cI, 80, .inl (fd))) :: (plist pa (pup P k (flp (P k))) np ++ Y)) 1 a1 80 g (nI (pcl (P k) j)) ((g (pcl (P k) j)) - 1) (by decide) (by decide) rfl) (va_cwS 3 C.ts gX1_flip_X1_put rfl rfl rfl (by decide +kernel) ⟨(Nat.le_of_ble_eq_true rfl), (Nat.le_of_ble_eq_true rfl)⟩) rfl rfl (Nat.le_of_ble_eq_true rfl) dX1_flip_91 (Nat.le_of_ble_eq_true rfl) (Nat.le_of_ble_eq_true rfl) (g_isV (W1 := ((h, .inr (1, [.ref a1, .ref a2, .ref a3, .ref a4, .int (nI np), .int (nI hr), .ref a5, .ref a6, .ref a7])) :: (a1, .inl (cI, 80, .inl (putv 80 g (nI (pcl (P k) j)) ((g (pcl (P k) j)) - 1)))) :: (a2, .inl (cI, 80, .inl (cover))) :: (a3, .inl (cI, 8, .inl (sun))) :: (a4, .inl (cP, 100, .inr (.inr (.inr (.inr (pcs)))))) :: (a5, .inl (cI, 80, .inl (fs))) :: (a6, .inl (cI, 80, .inl (mk))) :: (a7, .inl (cI, 80, .inl (fd))) :: (plist pa (pup P k (flp (P k))) np ++ Y))) ?_)
              rw [putv_nI (c := (pcl (P k) j)) (hc _ (by omega)) (by omega)]
              refine g_iinc (v := nI (j + 1)) (lv' := [(3, .int (nI (j + 1))), (4, .int (nI (pcl (P k) j))), (0, .ref h), (1, .int (nI k)), (2, .ref (pa k))]) C dX1_flip_94 4 rfl (by exact nI_add _ 1) (by decide) rfl ?_
              refine g_goto (tgt := 59) C dX1_flip_97 (by decide) ?_
              refine g_sub [2, 3, 4, 0] (lv' := [(0, .ref h), (1, .int (nI k)), (2, .ref (pa k)), (3, .int (nI (j + 1)))]) rfl ?_
              exact ih (j + 1) _ (by rw [hgg]; rfl) (by omega) (by omega)
        refine g_sub [2, 3, 1, 0] (lv' := [(0, .ref h), (1, .int (nI k)), (2, .ref (pa k)), (3, .int 0)]) rfl ?_
        exact lp59 (ql (P k) + 1) 0 wet rfl (by omega) (by omega)
      · skip
        replace c_2 := gz0.mp c_2
        refine g_iconst (v := 1) C dX1_flip_49 (by decide) ?_
        refine g_goto (tgt := 54) C dX1_flip_50 (by decide) ?_
        refine g_eqi (x := 1) (y := gz (!qs (P k))) (by first | (simp [gz, *]; done) | (simp_all [gz]; done)) ?_
        refine g_put (ci := 0) (Cn := RX0) (T := TX0) (N := 8) (ty := .boolean) (ws' := ((h, .inr (1, [.ref a1, .ref a2, .ref a3, .ref a4, .int (nI np), .int (nI hr), .ref a5, .ref a6, .ref a7])) :: (a1, .inl (cI, 80, .inl (wet))) :: (a2, .inl (cI, 80, .inl (cover))) :: (a3, .inl (cI, 8, .inl (sun))) :: (a4, .inl (cP, 100, .inr (.inr (.inr (.inr (pcs)))))) :: (a5, .inl (cI, 80, .inl (fs))) :: (a6, .inl (cI, 80, .inl (mk))) :: (a7, .inl (cI, 80, .inl (fd))) :: (plist pa (pup P k (flp (P k))) np ++ Y))) C k_X1_flip_inX0 tyX0 tyX0_ok nmX0 (k + 8) (plist_get (P := P) (Y := Y) hk) rfl 6 (by decide) k_X1_flip_6 rfl rfl (by decide +kernel) (bo1 _) (bo2 _) (Nat.le_of_ble_eq_true rfl) dX1_flip_54 (congrArg (fun t : va_W => ((h, .inr (1, [.ref a1, .ref a2, .ref a3, .ref a4, .int (nI np), .int (nI hr), .ref a5, .ref a6, .ref a7])) :: (a1, .inl (cI, 80, .inl (wet))) :: (a2, .inl (cI, 80, .inl (cover))) :: (a3, .inl (cI, 8, .inl (sun))) :: (a4, .inl (cP, 100, .inr (.inr (.inr (.inr (pcs)))))) :: (a5, .inl (cI, 80, .inl (fs))) :: (a6, .inl (cI, 80, .inl (mk))) :: (a7, .inl (cI, 80, .inl (fd))) :: t : va_W)) (plist_set (q := (flp (P k))) (Y := Y) hk)) ?_
        have hpk2 : (pa k, pcE (flp (P k))) ∈ (plist pa (pup P k (flp (P k))) np ++ Y) := by
          have h9 := plist_mem (pa := pa) (P := (pup P k (flp (P k)))) (Y := Y) hk
          rw [pup_s] at h9
          exact h9
        have hp2 := Pin_of (Y := Y) (P := (pup P k (flp (P k)))) hpc
        have hg2 := (hg k hk).2.1
        have hc : ∀ j, j < ql (P k) → pcl (P k) j < 80 := (hg k hk).2.2.2.2
        refine g_iconst (v := 0) C dX1_flip_57 (by decide) ?_
        refine g_istore_n (lv' := [(3, .int 0), (2, .ref (pa k)), (0, .ref h), (1, .int (nI k))]) C dX1_flip_58 rfl (by decide) rfl ?_
        have lp59_4 : ∀ (n9 : Nat) (j : Nat) (g : Nat → Int32) (hgg : g = decL wet (pcl (P k)) j) (hi : j ≤ ql (P k)) (hn : ql (P k) + 1 ≤ j + n9), G p l e ({ frames := 6, cells := 1, slots := 6, locals := 100 } : Room) s m args below meth c D A s.heap 5 0 0 Q 59 [(0, .ref h), (1, .int (nI k)), (2, .ref (pa k)), (3, .int (nI j))] [] ((h, .inr (1, [.ref a1, .ref a2, .ref a3, .ref a4, .int (nI np), .int (nI hr), .ref a5, .ref a6, .ref a7])) :: (a1, .inl (cI, 80, .inl (g))) :: (a2, .inl (cI, 80, .inl (cover))) :: (a3, .inl (cI, 8, .inl (sun))) :: (a4, .inl (cP, 100, .inr (.inr (.inr (.inr (pcs)))))) :: (a5, .inl (cI, 80, .inl (fs))) :: (a6, .inl (cI, 80, .inl (mk))) :: (a7, .inl (cI, 80, .inl (fd))) :: (plist pa (pup P k (flp (P k))) np ++ Y)) := by
          intro n9
          induction n9 with
          | zero =>
            intro j g hgg hi hn
            exfalso; omega
          | succ n9 ih =>
            intro j g hgg hi hn
            refine g_iload_n C dX1_flip_59 rfl 3 rfl ?_
            refine g_aload_n C dX1_flip_60 rfl 2 rfl ?_
            refine g_get (v := .int (nI (ql (P k)))) (ci := 0) (Cn := RX0) (T := TX0) (N := 8) C k_X1_flip_inX0 (gmT (gmT (gmT (gmT (gmT (gmT (gmT (gmT hpk2)))))))) rfl 2 (by decide) k_X1_flip_7 rfl rfl dX1_flip_61 ?_
            refine g_icmp_ge (tgt := 100) C dX1_flip_64 (by decide) (fun c_5 => ?_) (fun c_5 => ?_)
            · skip
              rw [nI_leI (by omega) (by omega)] at c_5
              refine g_aload_n C dX1_flip_100 rfl 2 rfl ?_
              refine g_callV (ci := 0) (Cn := RX0) (As := []) (rest := []) C (gmT (gmT (gmT (gmT (gmT (gmT (gmT (gmT hpk2)))))))) rfl rfl (c_X0_shownColour l D tys ((h, .inr (1, [.ref a1, .ref a2, .ref a3, .ref a4, .int (nI np), .int (nI hr), .ref a5, .ref a6, .ref a7])) :: (a1, .inl (cI, 80, .inl (g))) :: (a2, .inl (cI, 80, .inl (cover))) :: (a3, .inl (cI, 8, .inl (sun))) :: (a4, .inl (cP, 100, .inr (.inr (.inr (.inr (pcs)))))) :: (a5, .inl (cI, 80, .inl (fs))) :: (a6, .inl (cI, 80, .inl (mk))) :: (a7, .inl (cI, 80, .inl (fd))) :: (plist pa (pup P k (flp (P k))) np ++ Y)) (pa k) ((qx (P k))) ((qy (P k))) ((ql (P k))) (qf (P k)) (qb (P k)) (((qc (P k)))) (((!qs (P k)))) (((qo (P k)))) (gmT (gmT (gmT (gmT (gmT (gmT (gmT (gmT hpk2))))))))) (cwV 0 C.ts gX1_flip_X0_shownColour rfl rfl rfl (by decide +kernel) ⟨(Nat.le_of_ble_eq_true rfl), (Nat.le_of_ble_eq_true rfl)⟩) rfl rfl (Nat.le_of_ble_eq_true rfl) dX1_flip_101 (Nat.le_of_ble_eq_true rfl) (Nat.le_of_ble_eq_true rfl) (g_is (x := .int (shw (flp (P k)))) (W1 := ((h, .inr (1, [.ref a1, .ref a2, .ref a3, .ref a4, .int (nI np), .int (nI hr), .ref a5, .ref a6, .ref a7])) :: (a1, .inl (cI, 80, .inl (g))) :: (a2, .inl (cI, 80, .inl (cover))) :: (a3, .inl (cI, 8, .inl (sun))) :: (a4, .inl (cP, 100, .inr (.inr (.inr (.inr (pcs)))))) :: (a5, .inl (cI, 80, .inl (fs))) :: (a6, .inl (cI, 80, .inl (mk))) :: (a7, .inl (cI, 80, .inl (fd))) :: (plist pa (pup P k (flp (P k))) np ++ Y))) ?_)
              refine g_iret C hQ (Nat.le_of_ble_eq_true rfl) (Nat.le_of_ble_eq_true rfl) dX1_flip_104 ?_
              have e : j = ql (P k) := by omega
              rw [e] at hgg
              simp only [hclk]
              exact ⟨by simp [cdFl, pIn, *], rfl, by rw [hgg]⟩
            · skip
              rw [nI_leI (by omega) (by omega)] at c_5
              refine g_aload_n C dX1_flip_67 rfl 2 rfl ?_
              refine g_iload_n C dX1_flip_68 rfl 3 rfl ?_
              refine g_callV (ci := 0) (Cn := RX0) (As := [.int (nI j)]) (rest := []) C (gmT (gmT (gmT (gmT (gmT (gmT (gmT (gmT hpk2)))))))) rfl rfl (c_X0_cellAt l D tys ((h, .inr (1, [.ref a1, .ref a2, .ref a3, .ref a4, .int (nI np), .int (nI hr), .ref a5, .ref a6, .ref a7])) :: (a1, .inl (cI, 80, .inl (g))) :: (a2, .inl (cI, 80, .inl (cover))) :: (a3, .inl (cI, 8, .inl (sun))) :: (a4, .inl (cP, 100, .inr (.inr (.inr (.inr (pcs)))))) :: (a5, .inl (cI, 80, .inl (fs))) :: (a6, .inl (cI, 80, .inl (mk))) :: (a7, .inl (cI, 80, .inl (fd))) :: (plist pa (pup P k (flp (P k))) np ++ Y)) (pa k) ((qx (P k))) ((qy (P k))) ((ql (P k))) (qf (P k)) (qb (P k)) (((qc (P k)))) (((!qs (P k)))) (((qo (P k)))) (gmT (gmT (gmT (gmT (gmT (gmT (gmT (gmT hpk2)))))))) j) (cwV 1 C.ts gX1_flip_X0_cellAt rfl rfl rfl (by decide +kernel) ⟨(Nat.le_of_ble_eq_true rfl), (Nat.le_of_ble_eq_true rfl)⟩) rfl rfl (Nat.le_of_ble_eq_true rfl) dX1_flip_69 (Nat.le_of_ble_eq_true rfl) (Nat.le_of_ble_eq_true rfl) (g_is (x := .int (nI (pcl (P k) j))) (W1 := ((h, .inr (1, [.ref a1, .ref a2, .ref a3, .ref a4, .int (nI np), .int (nI hr), .ref a5, .ref a6, .ref a7])) :: (a1, .inl (cI, 80, .inl (g))) :: (a2, .inl (cI, 80, .inl (cover))) :: (a3, .inl (cI, 8, .inl (sun))) :: (a4, .inl (cP, 100, .inr (.inr (.inr (.inr (pcs)))))) :: (a5, .inl (cI, 80, .inl (fs))) :: (a6, .inl (cI, 80, .inl (mk))) :: (a7, .inl (cI, 80, .inl (fd))) :: (plist pa (pup P k (flp (P k))) np ++ Y))) ?_)
              refine g_istore (lv' := [(4, .int (nI (pcl (P k) j))), (0, .ref h), (1, .int (nI k)), (2, .ref (pa k)), (3, .int (nI j))]) C dX1_flip_72 (by decide) rfl ?_
              refine g_aload_n C dX1_flip_74 rfl 1 rfl ?_
              refine g_get (v := .ref a1) (ci := 1) (Cn := RX1) (T := TX1) (N := 9) C k_X1_flip_inX1 gm0 rfl 0 (by decide) k_X1_flip_4 rfl rfl dX1_flip_75 ?_
              refine g_iload C dX1_flip_78 0 rfl ?_
              refine g_aload_n C dX1_flip_80 rfl 1 rfl ?_
              refine g_get (v := .ref a1) (ci := 1) (Cn := RX1) (T := TX1) (N := 9) C k_X1_flip_inX1 gm0 rfl 0 (by decide) k_X1_flip_4 rfl rfl dX1_flip_81 ?_
              refine g_iload C dX1_flip_84 0 rfl ?_
              refine g_callS (As := [.ref a1, .int (nI (pcl (P k) j))]) (rest := [.int (nI (pcl (P k) j)), .ref a1]) C (c_X1_at l D tys cI ht0 ((h, .inr (1, [.ref a1, .ref a2, .ref a3, .ref a4, .int (nI np), .int (nI hr), .ref a5, .ref a6, .ref a7])) :: (a1, .inl (cI, 80, .inl (g))) :: (a2, .inl (cI, 80, .inl (cover))) :: (a3, .inl (cI, 8, .inl (sun))) :: (a4, .inl (cP, 100, .inr (.inr (.inr (.inr (pcs)))))) :: (a5, .inl (cI, 80, .inl (fs))) :: (a6, .inl (cI, 80, .inl (mk))) :: (a7, .inl (cI, 80, .inl (fd))) :: (plist pa (pup P k (flp (P k))) np ++ Y)) a1 80 g (nI (pcl (P k) j)) (by decide) (by decide) (gmT gm0)) (va_cwS 2 C.ts gX1_flip_X1_at rfl rfl rfl (by decide +kernel) ⟨(Nat.le_of_ble_eq_true rfl), (Nat.le_of_ble_eq_true rfl)⟩) rfl rfl (Nat.le_of_ble_eq_true rfl) dX1_flip_86 (Nat.le_of_ble_eq_true rfl) (Nat.le_of_ble_eq_true rfl) (g_is (x := .int (atv 80 g (nI (pcl (P k) j)))) (W1 := ((h, .inr (1, [.ref a1, .ref a2, .ref a3, .ref a4, .int (nI np), .int (nI hr), .ref a5, .ref a6, .ref a7])) :: (a1, .inl (cI, 80, .inl (g))) :: (a2, .inl (cI, 80, .inl (cover))) :: (a3, .inl (cI, 8, .inl (sun))) :: (a4, .inl (cP, 100, .inr (.inr (.inr (.inr (pcs)))))) :: (a5, .inl (cI, 80, .inl (fs))) :: (a6, .inl (cI, 80, .inl (mk))) :: (a7, .inl (cI, 80, .inl (fd))) :: (plist pa (pup P k (flp (P k))) np ++ Y))) ?_)
              refine g_eqi (x := atv 80 g (nI (pcl (P k) j))) (y := g (pcl (P k) j)) (atv_nI (hc _ (by omega)) (by omega)) ?_
              refine g_iconst (v := 1) C dX1_flip_89 (by decide) ?_
              refine g_isub C dX1_flip_90 ?_
              refine g_callS (As := [.ref a1, .int (nI (pcl (P k) j)), .int ((g (pcl (P k) j)) - 1)]) (rest := []) C (c_X1_put l D tys cI ht0 ((h, .inr (1, [.ref a1, .ref a2, .ref a3, .ref a4, .int (nI np), .int (nI hr), .ref a5, .ref a6, .ref a7])) :: (a1, .inl (cI, 80, .inl (g))) :: (a2, .inl (cI, 80, .inl (cover))) :: (a3, .inl (cI, 8, .inl (sun))) :: (a4, .inl (cP, 100, .inr (.inr (.inr (.inr (pcs)))))) :: (a5, .inl (cI, 80, .inl (fs))) :: (a6, .inl (cI, 80, .inl (mk))) :: (a7, .inl (cI, 80, .inl (fd))) :: (plist pa (pup P k (flp (P k))) np ++ Y)) 1 a1 80 g (nI (pcl (P k) j)) ((g (pcl (P k) j)) - 1) (by decide) (by decide) rfl) (va_cwS 3 C.ts gX1_flip_X1_put rfl rfl rfl (by decide +kernel) ⟨(Nat.le_of_ble_eq_true rfl), (Nat.le_of_ble_eq_true rfl)⟩) rfl rfl (Nat.le_of_ble_eq_true rfl) dX1_flip_91 (Nat.le_of_ble_eq_true rfl) (Nat.le_of_ble_eq_true rfl) (g_isV (W1 := ((h, .inr (1, [.ref a1, .ref a2, .ref a3, .ref a4, .int (nI np), .int (nI hr), .ref a5, .ref a6, .ref a7])) :: (a1, .inl (cI, 80, .inl (putv 80 g (nI (pcl (P k) j)) ((g (pcl (P k) j)) - 1)))) :: (a2, .inl (cI, 80, .inl (cover))) :: (a3, .inl (cI, 8, .inl (sun))) :: (a4, .inl (cP, 100, .inr (.inr (.inr (.inr (pcs)))))) :: (a5, .inl (cI, 80, .inl (fs))) :: (a6, .inl (cI, 80, .inl (mk))) :: (a7, .inl (cI, 80, .inl (fd))) :: (plist pa (pup P k (flp (P k))) np ++ Y))) ?_)
              rw [putv_nI (c := (pcl (P k) j)) (hc _ (by omega)) (by omega)]
              refine g_iinc (v := nI (j + 1)) (lv' := [(3, .int (nI (j + 1))), (4, .int (nI (pcl (P k) j))), (0, .ref h), (1, .int (nI k)), (2, .ref (pa k))]) C dX1_flip_94 4 rfl (by exact nI_add _ 1) (by decide) rfl ?_
              refine g_goto (tgt := 59) C dX1_flip_97 (by decide) ?_
              refine g_sub [2, 3, 4, 0] (lv' := [(0, .ref h), (1, .int (nI k)), (2, .ref (pa k)), (3, .int (nI (j + 1)))]) rfl ?_
              exact ih (j + 1) _ (by rw [hgg]; rfl) (by omega) (by omega)
        refine g_sub [2, 3, 1, 0] (lv' := [(0, .ref h), (1, .int (nI k)), (2, .ref (pa k)), (3, .int 0)]) rfl ?_
        exact lp59_4 (ql (P k) + 1) 0 wet rfl (by omega) (by omega)
    · skip
      replace c_1 := gz0.mp c_1
      refine g_throwS (own := RX1) (cls := "java/lang/IllegalStateException") (text := "the piece is not loose") (names := tNs) (ik := 82) (is := 104) (ic := 86) C hQX hT hl9 (by decide) (by decide) k_X1_flip_9 k_X1_flip_10 (by decide +kernel) bad_IS x_X1_flip_IS ot_IS dX1_flip_31 dX1_flip_34 dX1_flip_35 dX1_flip_37 dX1_flip_40 (Nat.le_of_ble_eq_true rfl) (Nat.le_of_ble_eq_true rfl) (Nat.le_of_ble_eq_true rfl) (Nat.le_of_ble_eq_true rfl) (Nat.le_of_ble_eq_true rfl) (Nat.le_of_ble_eq_true rfl) ?_
      exact ⟨by simp [cdFl, pIn, *], by simp [cdFl, pIn, *]⟩

theorem x_X1_turn_IO : ∀ w ∈ (vx_atS RX1 65 "java/lang/IndexOutOfBoundsException" ["java/lang/RuntimeException", "java/lang/Exception"]).filter goodWord, w ∈ wsX1_turn := by
  intro w h
  simp only [wsX1_turn, List.mem_cons, List.mem_append, h, or_true, true_or]
theorem k_X1_turn_1 : Cond.classLink RX1 61 "java/lang/IndexOutOfBoundsException" ∈ wsX1_turn := by decide +kernel
theorem k_X1_turn_2 : Cond.initialized "java/lang/IndexOutOfBoundsException" ∈ wsX1_turn := by decide +kernel
theorem k_X1_turn_inX1 : ∀ w ∈ wsX10, w ∈ wsX1_turn := by decide +kernel
theorem k_X1_turn_4 : Cond.fieldLink RX1 9 "WetMosaic" "wet" "[I" ∈ wsX1_turn := by decide +kernel
theorem x_X1_turn_IS : ∀ w ∈ (vx_atS RX1 86 "java/lang/IllegalStateException" ["java/lang/RuntimeException", "java/lang/Exception"]).filter goodWord, w ∈ wsX1_turn := by
  intro w h
  simp only [wsX1_turn, List.mem_cons, List.mem_append, h, or_true, true_or]
theorem k_X1_turn_6 : Cond.classLink RX1 82 "java/lang/IllegalStateException" ∈ wsX1_turn := by decide +kernel
theorem k_X1_turn_7 : Cond.initialized "java/lang/IllegalStateException" ∈ wsX1_turn := by decide +kernel
theorem k_X1_turn_inX0 : ∀ w ∈ wsX00, w ∈ wsX1_turn := by decide +kernel
theorem k_X1_turn_9 : Cond.fieldLink RX1 121 "WetMosaic$Piece" "x" "I" ∈ wsX1_turn := by decide +kernel
theorem k_X1_turn_10 : Cond.fieldLink RX1 124 "WetMosaic$Piece" "y" "I" ∈ wsX1_turn := by decide +kernel
theorem k_X1_turn_11 : Cond.fieldLink RX1 110 "WetMosaic$Piece" "length" "I" ∈ wsX1_turn := by decide +kernel
theorem k_X1_turn_12 : Cond.fieldLink RX1 127 "WetMosaic$Piece" "across" "Z" ∈ wsX1_turn := by decide +kernel
set_option maxHeartbeats 4000000 in
set_option maxRecDepth 100000 in
theorem c_X1_turn (l : Launch) (hl9 : l.stackTraces = false) (D : va_G) (tys : List (ClassId × FieldType)) (cI cP : ClassId) (ht0 : tys[0]? = some (cI, .int)) (ht1 : tys[1]? = some (cP, .object RX0)) (h a1 a2 a3 a4 a5 a6 a7 np hr : Nat) (wet cover sun fs mk fd : Nat → Int32) (pcs : Nat → Option Nat) (pa : Nat → Nat) (P : Nat → Pd) (Y : va_W) (hnp : np ≤ 100) (hpc : ∀ k, k < np → pcs k = some (pa k)) (hg : Pok np P) (v : Int32) : gMx l yX1_turn wsX1_turn ({ frames := 6, cells := 1, slots := 6, locals := 100 } : Room) D tys [.ref h, .int v] ((h, .inr (1, [.ref a1, .ref a2, .ref a3, .ref a4, .int (nI np), .int (nI hr), .ref a5, .ref a6, .ref a7])) :: (a1, .inl (cI, 80, .inl (wet))) :: (a2, .inl (cI, 80, .inl (cover))) :: (a3, .inl (cI, 8, .inl (sun))) :: (a4, .inl (cP, 100, .inr (.inr (.inr (.inr (pcs)))))) :: (a5, .inl (cI, 80, .inl (fs))) :: (a6, .inl (cI, 80, .inl (mk))) :: (a7, .inl (cI, 80, .inl (fd))) :: (plist pa P np ++ Y)) (gIy (cdTu np P wet cover v = 0) (some (.int (nI (ql (P (vn v)))))) ((h, .inr (1, [.ref a1, .ref a2, .ref a3, .ref a4, .int (nI np), .int (nI hr), .ref a5, .ref a6, .ref a7])) :: (a1, .inl (cI, 80, .inl (wet))) :: (a2, .inl (cI, 80, .inl (setL (setL cover (pcl (P (vn v))) (-1) (ql (P (vn v)))) (pcl (trn (P (vn v)))) v (ql (P (vn v)))))) :: (a3, .inl (cI, 8, .inl (sun))) :: (a4, .inl (cP, 100, .inr (.inr (.inr (.inr (pcs)))))) :: (a5, .inl (cI, 80, .inl (fs))) :: (a6, .inl (cI, 80, .inl (mk))) :: (a7, .inl (cI, 80, .inl (fd))) :: (plist pa (pup P (vn v) (trn (P (vn v)))) np ++ Y))) (fun E => cdE (cdTu np P wet cover v) nmOS E) 1 6 := by
  refine gMx_of2 (by decide +kernel) rfl (Nat.le_of_ble_eq_true rfl) ?_
  intro p e s m args below meth c A Q C hT hQ hQX
  refine g_sub [0, 1] (lv' := [(0, .ref h), (1, .int v)]) rfl ?_
  have hp := Pin_of (Y := Y) (P := P) hpc
  refine g_aload_n C dX1_turn_0 rfl 0 rfl ?_
  refine g_iload_n C dX1_turn_1 rfl 1 rfl ?_
  refine g_callV (ci := 1) (Cn := RX1) (As := [.int v]) (rest := []) C gm0 rfl rfl (c_X1_find l D tys cP ht1 ((h, .inr (1, [.ref a1, .ref a2, .ref a3, .ref a4, .int (nI np), .int (nI hr), .ref a5, .ref a6, .ref a7])) :: (a1, .inl (cI, 80, .inl (wet))) :: (a2, .inl (cI, 80, .inl (cover))) :: (a3, .inl (cI, 8, .inl (sun))) :: (a4, .inl (cP, 100, .inr (.inr (.inr (.inr (pcs)))))) :: (a5, .inl (cI, 80, .inl (fs))) :: (a6, .inl (cI, 80, .inl (mk))) :: (a7, .inl (cI, 80, .inl (fd))) :: (plist pa P np ++ Y)) h a1 a2 a3 a4 a5 a6 a7 np hr pcs v hnp gm0 (gmT (gmT (gmT (gmT gm0))))) (cwV 1 C.ts gX1_turn_X1_find rfl rfl rfl (by decide +kernel) ⟨(Nat.le_of_ble_eq_true rfl), (Nat.le_of_ble_eq_true rfl)⟩) rfl rfl (Nat.le_of_ble_eq_true rfl) dX1_turn_2 (Nat.le_of_ble_eq_true rfl) (Nat.le_of_ble_eq_true rfl) (g_is (x := va_rf (fnd np pcs v)) (W1 := ((h, .inr (1, [.ref a1, .ref a2, .ref a3, .ref a4, .int (nI np), .int (nI hr), .ref a5, .ref a6, .ref a7])) :: (a1, .inl (cI, 80, .inl (wet))) :: (a2, .inl (cI, 80, .inl (cover))) :: (a3, .inl (cI, 8, .inl (sun))) :: (a4, .inl (cP, 100, .inr (.inr (.inr (.inr (pcs)))))) :: (a5, .inl (cI, 80, .inl (fs))) :: (a6, .inl (cI, 80, .inl (mk))) :: (a7, .inl (cI, 80, .inl (fd))) :: (plist pa P np ++ Y))) ?_)
  cases hv : inR 0 (nI np - 1) v with
  | false =>
    refine g_eqv (x := va_rf (fnd np pcs v)) (y := .null) (by rw [fnd, if_neg (by simp [hv])]; rfl) ?_
    refine g_astore_nN (lv' := [(2, .null), (0, .ref h), (1, .int v)]) C dX1_turn_5 rfl (by decide) rfl ?_
    refine g_aload_nN C dX1_turn_6 rfl 0 rfl ?_
    refine g_ifnonnullN C dX1_turn_7 ?_
    refine g_throwS (own := RX1) (cls := "java/lang/IndexOutOfBoundsException") (text := "no such piece") (names := tNs) (ik := 61) (is := 98) (ic := 65) C hQX hT hl9 (by decide) (by decide) k_X1_turn_1 k_X1_turn_2 (by decide +kernel) bad_IO x_X1_turn_IO ot_IO dX1_turn_10 dX1_turn_13 dX1_turn_14 dX1_turn_16 dX1_turn_19 (Nat.le_of_ble_eq_true rfl) (Nat.le_of_ble_eq_true rfl) (Nat.le_of_ble_eq_true rfl) (Nat.le_of_ble_eq_true rfl) (Nat.le_of_ble_eq_true rfl) (Nat.le_of_ble_eq_true rfl) ?_
    exact ⟨by first | (simp [cdTu, pIn, *]; done) | (rw [cdTu, if_pos hv, hclk, c_1]; simp only [Bool.true_and]; rw [if_neg (by simp only [Bool.not_eq_true]; assumption)]; decide), by first | (simp [cdTu, pIn, *]; done) | (rw [cdTu, if_pos hv, hclk, c_1]; simp only [Bool.true_and]; rw [if_neg (by simp only [Bool.not_eq_true]; assumption)]; rfl)⟩
  | true =>
    obtain ⟨k, hk, rfl⟩ := inR_np (by omega) hv
    have hclk : vn (nI k) = k := nI_clamp (by omega)
    refine g_eqv (x := va_rf (fnd np pcs (nI k))) (y := .ref (pa k)) (fnd_nI hk hnp (hp k hk).1) ?_
    refine g_astore_n (lv' := [(2, .ref (pa k)), (0, .ref h), (1, .int (nI k))]) C dX1_turn_5 rfl (by decide) rfl ?_
    refine g_aload_n C dX1_turn_6 rfl 0 rfl ?_
    refine g_ifnonnull (tgt := 20) C dX1_turn_7 (by decide) ?_
    refine g_aload_n C dX1_turn_20 rfl 0 rfl ?_
    refine g_aload_n C dX1_turn_21 rfl 1 rfl ?_
    refine g_get (v := .ref a1) (ci := 1) (Cn := RX1) (T := TX1) (N := 9) C k_X1_turn_inX1 gm0 rfl 0 (by decide) k_X1_turn_4 rfl rfl dX1_turn_22 ?_
    refine g_callS (As := [.ref (pa k), .ref a1]) (rest := []) C (c_X1_isLoose l D tys cI ht0 ((h, .inr (1, [.ref a1, .ref a2, .ref a3, .ref a4, .int (nI np), .int (nI hr), .ref a5, .ref a6, .ref a7])) :: (a1, .inl (cI, 80, .inl (wet))) :: (a2, .inl (cI, 80, .inl (cover))) :: (a3, .inl (cI, 8, .inl (sun))) :: (a4, .inl (cP, 100, .inr (.inr (.inr (.inr (pcs)))))) :: (a5, .inl (cI, 80, .inl (fs))) :: (a6, .inl (cI, 80, .inl (mk))) :: (a7, .inl (cI, 80, .inl (fd))) :: (plist pa P np ++ Y)) (pa k) (qx (P k)) (qy (P k)) (ql (P k)) (qf (P k)) (qb (P k)) (qc (P k)) (qs (P k)) (qo (P k)) a1 wet (hg _ (by assumption)).2.1 (hg _ (by assumption)).2.2.2.2 (gmT (gmT (gmT (gmT (gmT (gmT (gmT (gmT (hp k hk).2)))))))) (gmT gm0)) (va_cwS 2 C.ts gX1_turn_X1_isLoose rfl rfl rfl (by decide +kernel) ⟨(Nat.le_of_ble_eq_true rfl), (Nat.le_of_ble_eq_true rfl)⟩) rfl rfl (Nat.le_of_ble_eq_true rfl) dX1_turn_25 (Nat.le_of_ble_eq_true rfl) (Nat.le_of_ble_eq_true rfl) (g_is (x := .int (gz (lsp (P k) wet))) (W1 := ((h, .inr (1, [.ref a1, .ref a2, .ref a3, .ref a4, .int (nI np), .int (nI hr), .ref a5, .ref a6, .ref a7])) :: (a1, .inl (cI, 80, .inl (wet))) :: (a2, .inl (cI, 80, .inl (cover))) :: (a3, .inl (cI, 8, .inl (sun))) :: (a4, .inl (cP, 100, .inr (.inr (.inr (.inr (pcs)))))) :: (a5, .inl (cI, 80, .inl (fs))) :: (a6, .inl (cI, 80, .inl (mk))) :: (a7, .inl (cI, 80, .inl (fd))) :: (plist pa P np ++ Y))) ?_)
    refine g_if_eq (tgt := 63) C dX1_turn_28 (by decide) (fun c_1 => ?_) (fun c_1 => ?_)
    · skip
      replace c_1 := gz0.mp c_1
      refine g_throwS (own := RX1) (cls := "java/lang/IllegalStateException") (text := "the piece cannot be turned") (names := tNs) (ik := 82) (is := 130) (ic := 86) C hQX hT hl9 (by decide) (by decide) k_X1_turn_6 k_X1_turn_7 (by decide +kernel) bad_IS x_X1_turn_IS ot_IS dX1_turn_63 dX1_turn_66 dX1_turn_67 dX1_turn_69 dX1_turn_72 (Nat.le_of_ble_eq_true rfl) (Nat.le_of_ble_eq_true rfl) (Nat.le_of_ble_eq_true rfl) (Nat.le_of_ble_eq_true rfl) (Nat.le_of_ble_eq_true rfl) (Nat.le_of_ble_eq_true rfl) ?_
      exact ⟨by first | (simp [cdTu, pIn, *]; done) | (rw [cdTu, if_pos hv, hclk, c_1]; simp only [Bool.true_and]; rw [if_neg (by simp only [Bool.not_eq_true]; assumption)]; decide), by first | (simp [cdTu, pIn, *]; done) | (rw [cdTu, if_pos hv, hclk, c_1]; simp only [Bool.true_and]; rw [if_neg (by simp only [Bool.not_eq_true]; assumption)]; rfl)⟩
    · skip
      replace c_1 := gzn.mp c_1
      have hgk := hg k hk
      obtain ⟨hg1, hg2, hg3, hg4, -⟩ := hgk
      refine g_aload_n C dX1_turn_31 rfl 1 rfl ?_
      refine g_aload_n C dX1_turn_32 rfl 0 rfl ?_
      refine g_get (v := .int (nI (qx (P k)))) (ci := 0) (Cn := RX0) (T := TX0) (N := 8) C k_X1_turn_inX0 (gmT (gmT (gmT (gmT (gmT (gmT (gmT (gmT (hp k hk).2)))))))) rfl 0 (by decide) k_X1_turn_9 rfl rfl dX1_turn_33 ?_
      refine g_aload_n C dX1_turn_36 rfl 0 rfl ?_
      refine g_get (v := .int (nI (qy (P k)))) (ci := 0) (Cn := RX0) (T := TX0) (N := 8) C k_X1_turn_inX0 (gmT (gmT (gmT (gmT (gmT (gmT (gmT (gmT (hp k hk).2)))))))) rfl 1 (by decide) k_X1_turn_10 rfl rfl dX1_turn_37 ?_
      refine g_aload_n C dX1_turn_40 rfl 0 rfl ?_
      refine g_get (v := .int (nI (ql (P k)))) (ci := 0) (Cn := RX0) (T := TX0) (N := 8) C k_X1_turn_inX0 (gmT (gmT (gmT (gmT (gmT (gmT (gmT (gmT (hp k hk).2)))))))) rfl 2 (by decide) k_X1_turn_11 rfl rfl dX1_turn_41 ?_
      refine g_aload_n C dX1_turn_44 rfl 0 rfl ?_
      refine g_get (v := .int (gz ((qc (P k))))) (ci := 0) (Cn := RX0) (T := TX0) (N := 8) C k_X1_turn_inX0 (gmT (gmT (gmT (gmT (gmT (gmT (gmT (gmT (hp k hk).2)))))))) rfl 5 (by decide) k_X1_turn_12 rfl rfl dX1_turn_45 ?_
      refine g_if_ne (tgt := 55) C dX1_turn_48 (by decide) (fun c_2 => ?_) (fun c_2 => ?_)
      · skip
        replace c_2 := gzn.mp c_2
        refine g_iconst (v := 0) C dX1_turn_55 (by decide) ?_
        refine g_eqi (x := 0) (y := gz (!qc (P k))) (by first | (simp [gz, *]; done) | (simp_all [gz]; done)) ?_
        refine g_iload_n C dX1_turn_56 rfl 2 rfl ?_
        refine g_callV (ci := 1) (Cn := RX1) (As := [.int (nI (qx (P k))), .int (nI (qy (P k))), .int (nI (ql (P k))), .int (gz (!qc (P k))), .int (nI k)]) (rest := []) C gm0 rfl rfl (c_X1_hasRoom l D tys cI ht0 ((h, .inr (1, [.ref a1, .ref a2, .ref a3, .ref a4, .int (nI np), .int (nI hr), .ref a5, .ref a6, .ref a7])) :: (a1, .inl (cI, 80, .inl (wet))) :: (a2, .inl (cI, 80, .inl (cover))) :: (a3, .inl (cI, 8, .inl (sun))) :: (a4, .inl (cP, 100, .inr (.inr (.inr (.inr (pcs)))))) :: (a5, .inl (cI, 80, .inl (fs))) :: (a6, .inl (cI, 80, .inl (mk))) :: (a7, .inl (cI, 80, .inl (fd))) :: (plist pa P np ++ Y)) h a1 a2 a3 a4 a5 a6 a7 np hr wet cover ((qx (P k))) ((qy (P k))) ((ql (P k))) ((!qc (P k))) (nI k) (by omega) (by omega) (by omega) gm0 (gmT gm0) (gmT (gmT gm0))) (cwV 5 C.ts gX1_turn_X1_hasRoom rfl rfl rfl (by decide +kernel) ⟨(Nat.le_of_ble_eq_true rfl), (Nat.le_of_ble_eq_true rfl)⟩) rfl rfl (Nat.le_of_ble_eq_true rfl) dX1_turn_57 (Nat.le_of_ble_eq_true rfl) (Nat.le_of_ble_eq_true rfl) (g_is (x := .int (gz (hrm wet cover ((qx (P k))) ((qy (P k))) ((ql (P k))) ((!qc (P k))) (nI k)))) (W1 := ((h, .inr (1, [.ref a1, .ref a2, .ref a3, .ref a4, .int (nI np), .int (nI hr), .ref a5, .ref a6, .ref a7])) :: (a1, .inl (cI, 80, .inl (wet))) :: (a2, .inl (cI, 80, .inl (cover))) :: (a3, .inl (cI, 8, .inl (sun))) :: (a4, .inl (cP, 100, .inr (.inr (.inr (.inr (pcs)))))) :: (a5, .inl (cI, 80, .inl (fs))) :: (a6, .inl (cI, 80, .inl (mk))) :: (a7, .inl (cI, 80, .inl (fd))) :: (plist pa P np ++ Y))) ?_)
        refine g_if_ne (tgt := 73) C dX1_turn_60 (by decide) (fun c_3 => ?_) (fun c_3 => ?_)
        · skip
          replace c_3 := gzn.mp c_3
          have hrm9 := c_3
          refine g_aload_n C dX1_turn_73 rfl 1 rfl ?_
          refine g_aload_n C dX1_turn_74 rfl 0 rfl ?_
          refine g_iconst (v := (-1)) C dX1_turn_75 (by decide) ?_
          refine g_callV (ci := 1) (Cn := RX1) (As := [.ref (pa k), .int ((-1))]) (rest := []) C gm0 rfl rfl (c_X1_setCover l D tys cI cP ht0 h a1 a2 a3 a4 a5 a6 a7 np hr wet cover sun fs mk fd pcs (plist pa P np ++ Y) (pa k) (P k) (-1) (hg k hk).2.1 (hg k hk).2.2.2.2 (hp k hk).2) (cwV 2 C.ts gX1_turn_X1_setCover rfl rfl rfl (by decide +kernel) ⟨(Nat.le_of_ble_eq_true rfl), (Nat.le_of_ble_eq_true rfl)⟩) rfl rfl (Nat.le_of_ble_eq_true rfl) dX1_turn_76 (Nat.le_of_ble_eq_true rfl) (Nat.le_of_ble_eq_true rfl) (g_isV (W1 := ((h, .inr (1, [.ref a1, .ref a2, .ref a3, .ref a4, .int (nI np), .int (nI hr), .ref a5, .ref a6, .ref a7])) :: (a1, .inl (cI, 80, .inl (wet))) :: (a2, .inl (cI, 80, .inl (setL cover (pcl (P k)) (-1) (ql (P k))))) :: (a3, .inl (cI, 8, .inl (sun))) :: (a4, .inl (cP, 100, .inr (.inr (.inr (.inr (pcs)))))) :: (a5, .inl (cI, 80, .inl (fs))) :: (a6, .inl (cI, 80, .inl (mk))) :: (a7, .inl (cI, 80, .inl (fd))) :: (plist pa P np ++ Y))) ?_)
          refine g_aload_n C dX1_turn_79 rfl 0 rfl ?_
          refine g_aload_n C dX1_turn_80 rfl 0 rfl ?_
          refine g_get (v := .int (gz ((qc (P k))))) (ci := 0) (Cn := RX0) (T := TX0) (N := 8) C k_X1_turn_inX0 (gmT (gmT (gmT (gmT (gmT (gmT (gmT (gmT (hp k hk).2)))))))) rfl 5 (by decide) k_X1_turn_12 rfl rfl dX1_turn_81 ?_
          refine g_if_ne (tgt := 91) C dX1_turn_84 (by decide) (fun c_4 => ?_) (fun c_4 => ?_)
          · skip
            replace c_4 := gzn.mp c_4
            refine g_iconst (v := 0) C dX1_turn_91 (by decide) ?_
            refine g_eqi (x := 0) (y := gz (!qc (P k))) (by first | (simp [gz, *]; done) | (simp_all [gz]; done)) ?_
            refine g_put (ci := 0) (Cn := RX0) (T := TX0) (N := 8) (ty := .boolean) (ws' := ((h, .inr (1, [.ref a1, .ref a2, .ref a3, .ref a4, .int (nI np), .int (nI hr), .ref a5, .ref a6, .ref a7])) :: (a1, .inl (cI, 80, .inl (wet))) :: (a2, .inl (cI, 80, .inl (setL cover (pcl (P k)) (-1) (ql (P k))))) :: (a3, .inl (cI, 8, .inl (sun))) :: (a4, .inl (cP, 100, .inr (.inr (.inr (.inr (pcs)))))) :: (a5, .inl (cI, 80, .inl (fs))) :: (a6, .inl (cI, 80, .inl (mk))) :: (a7, .inl (cI, 80, .inl (fd))) :: (plist pa (pup P k (trn (P k))) np ++ Y))) C k_X1_turn_inX0 tyX0 tyX0_ok nmX0 (k + 8) (plist_get (P := P) (Y := Y) hk) rfl 5 (by decide) k_X1_turn_12 rfl rfl (by decide +kernel) (bo1 _) (bo2 _) (Nat.le_of_ble_eq_true rfl) dX1_turn_92 (congrArg (fun t : va_W => ((h, .inr (1, [.ref a1, .ref a2, .ref a3, .ref a4, .int (nI np), .int (nI hr), .ref a5, .ref a6, .ref a7])) :: (a1, .inl (cI, 80, .inl (wet))) :: (a2, .inl (cI, 80, .inl (setL cover (pcl (P k)) (-1) (ql (P k))))) :: (a3, .inl (cI, 8, .inl (sun))) :: (a4, .inl (cP, 100, .inr (.inr (.inr (.inr (pcs)))))) :: (a5, .inl (cI, 80, .inl (fs))) :: (a6, .inl (cI, 80, .inl (mk))) :: (a7, .inl (cI, 80, .inl (fd))) :: t : va_W)) (plist_set (q := (trn (P k))) (Y := Y) hk)) ?_
            have hpk2 : (pa k, pcE (trn (P k))) ∈ (plist pa (pup P k (trn (P k))) np ++ Y) := by
              have h9 := plist_mem (pa := pa) (P := (pup P k (trn (P k)))) (Y := Y) hk
              rw [pup_s] at h9
              exact h9
            have hp2 := Pin_of (Y := Y) (P := (pup P k (trn (P k)))) hpc
            refine g_aload_n C dX1_turn_95 rfl 1 rfl ?_
            refine g_aload_n C dX1_turn_96 rfl 0 rfl ?_
            refine g_iload_n C dX1_turn_97 rfl 2 rfl ?_
            refine g_callV (ci := 1) (Cn := RX1) (As := [.ref (pa k), .int (nI k)]) (rest := []) C gm0 rfl rfl (c_X1_setCover l D tys cI cP ht0 h a1 a2 a3 a4 a5 a6 a7 np hr wet (setL cover (pcl (P k)) (-1) (ql (P k))) sun fs mk fd pcs ((plist pa (pup P k (trn (P k))) np ++ Y)) (pa k) (trn (P k)) (nI k) (hg k hk).2.1 (hrm_cel (hg k hk).2.2.1 (hg k hk).2.2.2.1 (hg k hk).2.1 hrm9) hpk2) (cwV 2 C.ts gX1_turn_X1_setCover rfl rfl rfl (by decide +kernel) ⟨(Nat.le_of_ble_eq_true rfl), (Nat.le_of_ble_eq_true rfl)⟩) rfl rfl (Nat.le_of_ble_eq_true rfl) dX1_turn_98 (Nat.le_of_ble_eq_true rfl) (Nat.le_of_ble_eq_true rfl) (g_isV (W1 := ((h, .inr (1, [.ref a1, .ref a2, .ref a3, .ref a4, .int (nI np), .int (nI hr), .ref a5, .ref a6, .ref a7])) :: (a1, .inl (cI, 80, .inl (wet))) :: (a2, .inl (cI, 80, .inl (setL (setL cover (pcl (P k)) (-1) (ql (P k))) (pcl (trn (P k))) (nI k) (ql (P k))))) :: (a3, .inl (cI, 8, .inl (sun))) :: (a4, .inl (cP, 100, .inr (.inr (.inr (.inr (pcs)))))) :: (a5, .inl (cI, 80, .inl (fs))) :: (a6, .inl (cI, 80, .inl (mk))) :: (a7, .inl (cI, 80, .inl (fd))) :: (plist pa (pup P k (trn (P k))) np ++ Y))) ?_)
            refine g_aload_n C dX1_turn_101 rfl 0 rfl ?_
            refine g_get (v := .int (nI (ql (P k)))) (ci := 0) (Cn := RX0) (T := TX0) (N := 8) C k_X1_turn_inX0 (gmT (gmT (gmT (gmT (gmT (gmT (gmT (gmT hpk2)))))))) rfl 2 (by decide) k_X1_turn_11 rfl rfl dX1_turn_102 ?_
            refine g_iret C hQ (Nat.le_of_ble_eq_true rfl) (Nat.le_of_ble_eq_true rfl) dX1_turn_105 ?_
            simp only [hclk]
            exact ⟨by rw [cdTu, if_pos hv, hclk, c_1, hrm9]; rfl, rfl, rfl⟩
          · skip
            replace c_4 := gz0.mp c_4
            refine g_iconst (v := 1) C dX1_turn_87 (by decide) ?_
            refine g_goto (tgt := 92) C dX1_turn_88 (by decide) ?_
            refine g_eqi (x := 1) (y := gz (!qc (P k))) (by first | (simp [gz, *]; done) | (simp_all [gz]; done)) ?_
            refine g_put (ci := 0) (Cn := RX0) (T := TX0) (N := 8) (ty := .boolean) (ws' := ((h, .inr (1, [.ref a1, .ref a2, .ref a3, .ref a4, .int (nI np), .int (nI hr), .ref a5, .ref a6, .ref a7])) :: (a1, .inl (cI, 80, .inl (wet))) :: (a2, .inl (cI, 80, .inl (setL cover (pcl (P k)) (-1) (ql (P k))))) :: (a3, .inl (cI, 8, .inl (sun))) :: (a4, .inl (cP, 100, .inr (.inr (.inr (.inr (pcs)))))) :: (a5, .inl (cI, 80, .inl (fs))) :: (a6, .inl (cI, 80, .inl (mk))) :: (a7, .inl (cI, 80, .inl (fd))) :: (plist pa (pup P k (trn (P k))) np ++ Y))) C k_X1_turn_inX0 tyX0 tyX0_ok nmX0 (k + 8) (plist_get (P := P) (Y := Y) hk) rfl 5 (by decide) k_X1_turn_12 rfl rfl (by decide +kernel) (bo1 _) (bo2 _) (Nat.le_of_ble_eq_true rfl) dX1_turn_92 (congrArg (fun t : va_W => ((h, .inr (1, [.ref a1, .ref a2, .ref a3, .ref a4, .int (nI np), .int (nI hr), .ref a5, .ref a6, .ref a7])) :: (a1, .inl (cI, 80, .inl (wet))) :: (a2, .inl (cI, 80, .inl (setL cover (pcl (P k)) (-1) (ql (P k))))) :: (a3, .inl (cI, 8, .inl (sun))) :: (a4, .inl (cP, 100, .inr (.inr (.inr (.inr (pcs)))))) :: (a5, .inl (cI, 80, .inl (fs))) :: (a6, .inl (cI, 80, .inl (mk))) :: (a7, .inl (cI, 80, .inl (fd))) :: t : va_W)) (plist_set (q := (trn (P k))) (Y := Y) hk)) ?_
            have hpk2 : (pa k, pcE (trn (P k))) ∈ (plist pa (pup P k (trn (P k))) np ++ Y) := by
              have h9 := plist_mem (pa := pa) (P := (pup P k (trn (P k)))) (Y := Y) hk
              rw [pup_s] at h9
              exact h9
            have hp2 := Pin_of (Y := Y) (P := (pup P k (trn (P k)))) hpc
            refine g_aload_n C dX1_turn_95 rfl 1 rfl ?_
            refine g_aload_n C dX1_turn_96 rfl 0 rfl ?_
            refine g_iload_n C dX1_turn_97 rfl 2 rfl ?_
            refine g_callV (ci := 1) (Cn := RX1) (As := [.ref (pa k), .int (nI k)]) (rest := []) C gm0 rfl rfl (c_X1_setCover l D tys cI cP ht0 h a1 a2 a3 a4 a5 a6 a7 np hr wet (setL cover (pcl (P k)) (-1) (ql (P k))) sun fs mk fd pcs ((plist pa (pup P k (trn (P k))) np ++ Y)) (pa k) (trn (P k)) (nI k) (hg k hk).2.1 (hrm_cel (hg k hk).2.2.1 (hg k hk).2.2.2.1 (hg k hk).2.1 hrm9) hpk2) (cwV 2 C.ts gX1_turn_X1_setCover rfl rfl rfl (by decide +kernel) ⟨(Nat.le_of_ble_eq_true rfl), (Nat.le_of_ble_eq_true rfl)⟩) rfl rfl (Nat.le_of_ble_eq_true rfl) dX1_turn_98 (Nat.le_of_ble_eq_true rfl) (Nat.le_of_ble_eq_true rfl) (g_isV (W1 := ((h, .inr (1, [.ref a1, .ref a2, .ref a3, .ref a4, .int (nI np), .int (nI hr), .ref a5, .ref a6, .ref a7])) :: (a1, .inl (cI, 80, .inl (wet))) :: (a2, .inl (cI, 80, .inl (setL (setL cover (pcl (P k)) (-1) (ql (P k))) (pcl (trn (P k))) (nI k) (ql (P k))))) :: (a3, .inl (cI, 8, .inl (sun))) :: (a4, .inl (cP, 100, .inr (.inr (.inr (.inr (pcs)))))) :: (a5, .inl (cI, 80, .inl (fs))) :: (a6, .inl (cI, 80, .inl (mk))) :: (a7, .inl (cI, 80, .inl (fd))) :: (plist pa (pup P k (trn (P k))) np ++ Y))) ?_)
            refine g_aload_n C dX1_turn_101 rfl 0 rfl ?_
            refine g_get (v := .int (nI (ql (P k)))) (ci := 0) (Cn := RX0) (T := TX0) (N := 8) C k_X1_turn_inX0 (gmT (gmT (gmT (gmT (gmT (gmT (gmT (gmT hpk2)))))))) rfl 2 (by decide) k_X1_turn_11 rfl rfl dX1_turn_102 ?_
            refine g_iret C hQ (Nat.le_of_ble_eq_true rfl) (Nat.le_of_ble_eq_true rfl) dX1_turn_105 ?_
            simp only [hclk]
            exact ⟨by rw [cdTu, if_pos hv, hclk, c_1, hrm9]; rfl, rfl, rfl⟩
        · skip
          replace c_3 := gz0.mp c_3
          refine g_throwS (own := RX1) (cls := "java/lang/IllegalStateException") (text := "the piece cannot be turned") (names := tNs) (ik := 82) (is := 130) (ic := 86) C hQX hT hl9 (by decide) (by decide) k_X1_turn_6 k_X1_turn_7 (by decide +kernel) bad_IS x_X1_turn_IS ot_IS dX1_turn_63 dX1_turn_66 dX1_turn_67 dX1_turn_69 dX1_turn_72 (Nat.le_of_ble_eq_true rfl) (Nat.le_of_ble_eq_true rfl) (Nat.le_of_ble_eq_true rfl) (Nat.le_of_ble_eq_true rfl) (Nat.le_of_ble_eq_true rfl) (Nat.le_of_ble_eq_true rfl) ?_
          exact ⟨by first | (simp [cdTu, pIn, *]; done) | (rw [cdTu, if_pos hv, hclk, c_1]; simp only [Bool.true_and]; rw [if_neg (by simp only [Bool.not_eq_true]; assumption)]; decide), by first | (simp [cdTu, pIn, *]; done) | (rw [cdTu, if_pos hv, hclk, c_1]; simp only [Bool.true_and]; rw [if_neg (by simp only [Bool.not_eq_true]; assumption)]; rfl)⟩
      · skip
        replace c_2 := gz0.mp c_2
        refine g_iconst (v := 1) C dX1_turn_51 (by decide) ?_
        refine g_goto (tgt := 56) C dX1_turn_52 (by decide) ?_
        refine g_eqi (x := 1) (y := gz (!qc (P k))) (by first | (simp [gz, *]; done) | (simp_all [gz]; done)) ?_
        refine g_iload_n C dX1_turn_56 rfl 2 rfl ?_
        refine g_callV (ci := 1) (Cn := RX1) (As := [.int (nI (qx (P k))), .int (nI (qy (P k))), .int (nI (ql (P k))), .int (gz (!qc (P k))), .int (nI k)]) (rest := []) C gm0 rfl rfl (c_X1_hasRoom l D tys cI ht0 ((h, .inr (1, [.ref a1, .ref a2, .ref a3, .ref a4, .int (nI np), .int (nI hr), .ref a5, .ref a6, .ref a7])) :: (a1, .inl (cI, 80, .inl (wet))) :: (a2, .inl (cI, 80, .inl (cover))) :: (a3, .inl (cI, 8, .inl (sun))) :: (a4, .inl (cP, 100, .inr (.inr (.inr (.inr (pcs)))))) :: (a5, .inl (cI, 80, .inl (fs))) :: (a6, .inl (cI, 80, .inl (mk))) :: (a7, .inl (cI, 80, .inl (fd))) :: (plist pa P np ++ Y)) h a1 a2 a3 a4 a5 a6 a7 np hr wet cover ((qx (P k))) ((qy (P k))) ((ql (P k))) ((!qc (P k))) (nI k) (by omega) (by omega) (by omega) gm0 (gmT gm0) (gmT (gmT gm0))) (cwV 5 C.ts gX1_turn_X1_hasRoom rfl rfl rfl (by decide +kernel) ⟨(Nat.le_of_ble_eq_true rfl), (Nat.le_of_ble_eq_true rfl)⟩) rfl rfl (Nat.le_of_ble_eq_true rfl) dX1_turn_57 (Nat.le_of_ble_eq_true rfl) (Nat.le_of_ble_eq_true rfl) (g_is (x := .int (gz (hrm wet cover ((qx (P k))) ((qy (P k))) ((ql (P k))) ((!qc (P k))) (nI k)))) (W1 := ((h, .inr (1, [.ref a1, .ref a2, .ref a3, .ref a4, .int (nI np), .int (nI hr), .ref a5, .ref a6, .ref a7])) :: (a1, .inl (cI, 80, .inl (wet))) :: (a2, .inl (cI, 80, .inl (cover))) :: (a3, .inl (cI, 8, .inl (sun))) :: (a4, .inl (cP, 100, .inr (.inr (.inr (.inr (pcs)))))) :: (a5, .inl (cI, 80, .inl (fs))) :: (a6, .inl (cI, 80, .inl (mk))) :: (a7, .inl (cI, 80, .inl (fd))) :: (plist pa P np ++ Y))) ?_)
        refine g_if_ne (tgt := 73) C dX1_turn_60 (by decide) (fun c_5 => ?_) (fun c_5 => ?_)
        · skip
          replace c_5 := gzn.mp c_5
          have hrm9 := c_5
          refine g_aload_n C dX1_turn_73 rfl 1 rfl ?_
          refine g_aload_n C dX1_turn_74 rfl 0 rfl ?_
          refine g_iconst (v := (-1)) C dX1_turn_75 (by decide) ?_
          refine g_callV (ci := 1) (Cn := RX1) (As := [.ref (pa k), .int ((-1))]) (rest := []) C gm0 rfl rfl (c_X1_setCover l D tys cI cP ht0 h a1 a2 a3 a4 a5 a6 a7 np hr wet cover sun fs mk fd pcs (plist pa P np ++ Y) (pa k) (P k) (-1) (hg k hk).2.1 (hg k hk).2.2.2.2 (hp k hk).2) (cwV 2 C.ts gX1_turn_X1_setCover rfl rfl rfl (by decide +kernel) ⟨(Nat.le_of_ble_eq_true rfl), (Nat.le_of_ble_eq_true rfl)⟩) rfl rfl (Nat.le_of_ble_eq_true rfl) dX1_turn_76 (Nat.le_of_ble_eq_true rfl) (Nat.le_of_ble_eq_true rfl) (g_isV (W1 := ((h, .inr (1, [.ref a1, .ref a2, .ref a3, .ref a4, .int (nI np), .int (nI hr), .ref a5, .ref a6, .ref a7])) :: (a1, .inl (cI, 80, .inl (wet))) :: (a2, .inl (cI, 80, .inl (setL cover (pcl (P k)) (-1) (ql (P k))))) :: (a3, .inl (cI, 8, .inl (sun))) :: (a4, .inl (cP, 100, .inr (.inr (.inr (.inr (pcs)))))) :: (a5, .inl (cI, 80, .inl (fs))) :: (a6, .inl (cI, 80, .inl (mk))) :: (a7, .inl (cI, 80, .inl (fd))) :: (plist pa P np ++ Y))) ?_)
          refine g_aload_n C dX1_turn_79 rfl 0 rfl ?_
          refine g_aload_n C dX1_turn_80 rfl 0 rfl ?_
          refine g_get (v := .int (gz ((qc (P k))))) (ci := 0) (Cn := RX0) (T := TX0) (N := 8) C k_X1_turn_inX0 (gmT (gmT (gmT (gmT (gmT (gmT (gmT (gmT (hp k hk).2)))))))) rfl 5 (by decide) k_X1_turn_12 rfl rfl dX1_turn_81 ?_
          refine g_if_ne (tgt := 91) C dX1_turn_84 (by decide) (fun c_6 => ?_) (fun c_6 => ?_)
          · skip
            replace c_6 := gzn.mp c_6
            refine g_iconst (v := 0) C dX1_turn_91 (by decide) ?_
            refine g_eqi (x := 0) (y := gz (!qc (P k))) (by first | (simp [gz, *]; done) | (simp_all [gz]; done)) ?_
            refine g_put (ci := 0) (Cn := RX0) (T := TX0) (N := 8) (ty := .boolean) (ws' := ((h, .inr (1, [.ref a1, .ref a2, .ref a3, .ref a4, .int (nI np), .int (nI hr), .ref a5, .ref a6, .ref a7])) :: (a1, .inl (cI, 80, .inl (wet))) :: (a2, .inl (cI, 80, .inl (setL cover (pcl (P k)) (-1) (ql (P k))))) :: (a3, .inl (cI, 8, .inl (sun))) :: (a4, .inl (cP, 100, .inr (.inr (.inr (.inr (pcs)))))) :: (a5, .inl (cI, 80, .inl (fs))) :: (a6, .inl (cI, 80, .inl (mk))) :: (a7, .inl (cI, 80, .inl (fd))) :: (plist pa (pup P k (trn (P k))) np ++ Y))) C k_X1_turn_inX0 tyX0 tyX0_ok nmX0 (k + 8) (plist_get (P := P) (Y := Y) hk) rfl 5 (by decide) k_X1_turn_12 rfl rfl (by decide +kernel) (bo1 _) (bo2 _) (Nat.le_of_ble_eq_true rfl) dX1_turn_92 (congrArg (fun t : va_W => ((h, .inr (1, [.ref a1, .ref a2, .ref a3, .ref a4, .int (nI np), .int (nI hr), .ref a5, .ref a6, .ref a7])) :: (a1, .inl (cI, 80, .inl (wet))) :: (a2, .inl (cI, 80, .inl (setL cover (pcl (P k)) (-1) (ql (P k))))) :: (a3, .inl (cI, 8, .inl (sun))) :: (a4, .inl (cP, 100, .inr (.inr (.inr (.inr (pcs)))))) :: (a5, .inl (cI, 80, .inl (fs))) :: (a6, .inl (cI, 80, .inl (mk))) :: (a7, .inl (cI, 80, .inl (fd))) :: t : va_W)) (plist_set (q := (trn (P k))) (Y := Y) hk)) ?_
            have hpk2 : (pa k, pcE (trn (P k))) ∈ (plist pa (pup P k (trn (P k))) np ++ Y) := by
              have h9 := plist_mem (pa := pa) (P := (pup P k (trn (P k)))) (Y := Y) hk
              rw [pup_s] at h9
              exact h9
            have hp2 := Pin_of (Y := Y) (P := (pup P k (trn (P k)))) hpc
            refine g_aload_n C dX1_turn_95 rfl 1 rfl ?_
            refine g_aload_n C dX1_turn_96 rfl 0 rfl ?_
            refine g_iload_n C dX1_turn_97 rfl 2 rfl ?_
            refine g_callV (ci := 1) (Cn := RX1) (As := [.ref (pa k), .int (nI k)]) (rest := []) C gm0 rfl rfl (c_X1_setCover l D tys cI cP ht0 h a1 a2 a3 a4 a5 a6 a7 np hr wet (setL cover (pcl (P k)) (-1) (ql (P k))) sun fs mk fd pcs ((plist pa (pup P k (trn (P k))) np ++ Y)) (pa k) (trn (P k)) (nI k) (hg k hk).2.1 (hrm_cel (hg k hk).2.2.1 (hg k hk).2.2.2.1 (hg k hk).2.1 hrm9) hpk2) (cwV 2 C.ts gX1_turn_X1_setCover rfl rfl rfl (by decide +kernel) ⟨(Nat.le_of_ble_eq_true rfl), (Nat.le_of_ble_eq_true rfl)⟩) rfl rfl (Nat.le_of_ble_eq_true rfl) dX1_turn_98 (Nat.le_of_ble_eq_true rfl) (Nat.le_of_ble_eq_true rfl) (g_isV (W1 := ((h, .inr (1, [.ref a1, .ref a2, .ref a3, .ref a4, .int (nI np), .int (nI hr), .ref a5, .ref a6, .ref a7])) :: (a1, .inl (cI, 80, .inl (wet))) :: (a2, .inl (cI, 80, .inl (setL (setL cover (pcl (P k)) (-1) (ql (P k))) (pcl (trn (P k))) (nI k) (ql (P k))))) :: (a3, .inl (cI, 8, .inl (sun))) :: (a4, .inl (cP, 100, .inr (.inr (.inr (.inr (pcs)))))) :: (a5, .inl (cI, 80, .inl (fs))) :: (a6, .inl (cI, 80, .inl (mk))) :: (a7, .inl (cI, 80, .inl (fd))) :: (plist pa (pup P k (trn (P k))) np ++ Y))) ?_)
            refine g_aload_n C dX1_turn_101 rfl 0 rfl ?_
            refine g_get (v := .int (nI (ql (P k)))) (ci := 0) (Cn := RX0) (T := TX0) (N := 8) C k_X1_turn_inX0 (gmT (gmT (gmT (gmT (gmT (gmT (gmT (gmT hpk2)))))))) rfl 2 (by decide) k_X1_turn_11 rfl rfl dX1_turn_102 ?_
            refine g_iret C hQ (Nat.le_of_ble_eq_true rfl) (Nat.le_of_ble_eq_true rfl) dX1_turn_105 ?_
            simp only [hclk]
            exact ⟨by rw [cdTu, if_pos hv, hclk, c_1, hrm9]; rfl, rfl, rfl⟩
          · skip
            replace c_6 := gz0.mp c_6
            refine g_iconst (v := 1) C dX1_turn_87 (by decide) ?_
            refine g_goto (tgt := 92) C dX1_turn_88 (by decide) ?_
            refine g_eqi (x := 1) (y := gz (!qc (P k))) (by first | (simp [gz, *]; done) | (simp_all [gz]; done)) ?_
            refine g_put (ci := 0) (Cn := RX0) (T := TX0) (N := 8) (ty := .boolean) (ws' := ((h, .inr (1, [.ref a1, .ref a2, .ref a3, .ref a4, .int (nI np), .int (nI hr), .ref a5, .ref a6, .ref a7])) :: (a1, .inl (cI, 80, .inl (wet))) :: (a2, .inl (cI, 80, .inl (setL cover (pcl (P k)) (-1) (ql (P k))))) :: (a3, .inl (cI, 8, .inl (sun))) :: (a4, .inl (cP, 100, .inr (.inr (.inr (.inr (pcs)))))) :: (a5, .inl (cI, 80, .inl (fs))) :: (a6, .inl (cI, 80, .inl (mk))) :: (a7, .inl (cI, 80, .inl (fd))) :: (plist pa (pup P k (trn (P k))) np ++ Y))) C k_X1_turn_inX0 tyX0 tyX0_ok nmX0 (k + 8) (plist_get (P := P) (Y := Y) hk) rfl 5 (by decide) k_X1_turn_12 rfl rfl (by decide +kernel) (bo1 _) (bo2 _) (Nat.le_of_ble_eq_true rfl) dX1_turn_92 (congrArg (fun t : va_W => ((h, .inr (1, [.ref a1, .ref a2, .ref a3, .ref a4, .int (nI np), .int (nI hr), .ref a5, .ref a6, .ref a7])) :: (a1, .inl (cI, 80, .inl (wet))) :: (a2, .inl (cI, 80, .inl (setL cover (pcl (P k)) (-1) (ql (P k))))) :: (a3, .inl (cI, 8, .inl (sun))) :: (a4, .inl (cP, 100, .inr (.inr (.inr (.inr (pcs)))))) :: (a5, .inl (cI, 80, .inl (fs))) :: (a6, .inl (cI, 80, .inl (mk))) :: (a7, .inl (cI, 80, .inl (fd))) :: t : va_W)) (plist_set (q := (trn (P k))) (Y := Y) hk)) ?_
            have hpk2 : (pa k, pcE (trn (P k))) ∈ (plist pa (pup P k (trn (P k))) np ++ Y) := by
              have h9 := plist_mem (pa := pa) (P := (pup P k (trn (P k)))) (Y := Y) hk
              rw [pup_s] at h9
              exact h9
            have hp2 := Pin_of (Y := Y) (P := (pup P k (trn (P k)))) hpc
            refine g_aload_n C dX1_turn_95 rfl 1 rfl ?_
            refine g_aload_n C dX1_turn_96 rfl 0 rfl ?_
            refine g_iload_n C dX1_turn_97 rfl 2 rfl ?_
            refine g_callV (ci := 1) (Cn := RX1) (As := [.ref (pa k), .int (nI k)]) (rest := []) C gm0 rfl rfl (c_X1_setCover l D tys cI cP ht0 h a1 a2 a3 a4 a5 a6 a7 np hr wet (setL cover (pcl (P k)) (-1) (ql (P k))) sun fs mk fd pcs ((plist pa (pup P k (trn (P k))) np ++ Y)) (pa k) (trn (P k)) (nI k) (hg k hk).2.1 (hrm_cel (hg k hk).2.2.1 (hg k hk).2.2.2.1 (hg k hk).2.1 hrm9) hpk2) (cwV 2 C.ts gX1_turn_X1_setCover rfl rfl rfl (by decide +kernel) ⟨(Nat.le_of_ble_eq_true rfl), (Nat.le_of_ble_eq_true rfl)⟩) rfl rfl (Nat.le_of_ble_eq_true rfl) dX1_turn_98 (Nat.le_of_ble_eq_true rfl) (Nat.le_of_ble_eq_true rfl) (g_isV (W1 := ((h, .inr (1, [.ref a1, .ref a2, .ref a3, .ref a4, .int (nI np), .int (nI hr), .ref a5, .ref a6, .ref a7])) :: (a1, .inl (cI, 80, .inl (wet))) :: (a2, .inl (cI, 80, .inl (setL (setL cover (pcl (P k)) (-1) (ql (P k))) (pcl (trn (P k))) (nI k) (ql (P k))))) :: (a3, .inl (cI, 8, .inl (sun))) :: (a4, .inl (cP, 100, .inr (.inr (.inr (.inr (pcs)))))) :: (a5, .inl (cI, 80, .inl (fs))) :: (a6, .inl (cI, 80, .inl (mk))) :: (a7, .inl (cI, 80, .inl (fd))) :: (plist pa (pup P k (trn (P k))) np ++ Y))) ?_)
            refine g_aload_n C dX1_turn_101 rfl 0 rfl ?_
            refine g_get (v := .int (nI (ql (P k)))) (ci := 0) (Cn := RX0) (T := TX0) (N := 8) C k_X1_turn_inX0 (gmT (gmT (gmT (gmT (gmT (gmT (gmT (gmT hpk2)))))))) rfl 2 (by decide) k_X1_turn_11 rfl rfl dX1_turn_102 ?_
            refine g_iret C hQ (Nat.le_of_ble_eq_true rfl) (Nat.le_of_ble_eq_true rfl) dX1_turn_105 ?_
            simp only [hclk]
            exact ⟨by rw [cdTu, if_pos hv, hclk, c_1, hrm9]; rfl, rfl, rfl⟩
        · skip
          replace c_5 := gz0.mp c_5
          refine g_throwS (own := RX1) (cls := "java/lang/IllegalStateException") (text := "the piece cannot be turned") (names := tNs) (ik := 82) (is := 130) (ic := 86) C hQX hT hl9 (by decide) (by decide) k_X1_turn_6 k_X1_turn_7 (by decide +kernel) bad_IS x_X1_turn_IS ot_IS dX1_turn_63 dX1_turn_66 dX1_turn_67 dX1_turn_69 dX1_turn_72 (Nat.le_of_ble_eq_true rfl) (Nat.le_of_ble_eq_true rfl) (Nat.le_of_ble_eq_true rfl) (Nat.le_of_ble_eq_true rfl) (Nat.le_of_ble_eq_true rfl) (Nat.le_of_ble_eq_true rfl) ?_
          exact ⟨by first | (simp [cdTu, pIn, *]; done) | (rw [cdTu, if_pos hv, hclk, c_1]; simp only [Bool.true_and]; rw [if_neg (by simp only [Bool.not_eq_true]; assumption)]; decide), by first | (simp [cdTu, pIn, *]; done) | (rw [cdTu, if_pos hv, hclk, c_1]; simp only [Bool.true_and]; rw [if_neg (by simp only [Bool.not_eq_true]; assumption)]; rfl)⟩

theorem x_X1_take_IO : ∀ w ∈ (vx_atS RX1 65 "java/lang/IndexOutOfBoundsException" ["java/lang/RuntimeException", "java/lang/Exception"]).filter goodWord, w ∈ wsX1_take := by
  intro w h
  simp only [wsX1_take, List.mem_cons, List.mem_append, h, or_true, true_or]
theorem k_X1_take_1 : Cond.classLink RX1 61 "java/lang/IndexOutOfBoundsException" ∈ wsX1_take := by decide +kernel
theorem k_X1_take_2 : Cond.initialized "java/lang/IndexOutOfBoundsException" ∈ wsX1_take := by decide +kernel
theorem k_X1_take_inX0 : ∀ w ∈ wsX00, w ∈ wsX1_take := by decide +kernel
theorem k_X1_take_4 : Cond.fieldLink RX1 132 "WetMosaic$Piece" "out" "Z" ∈ wsX1_take := by decide +kernel
theorem k_X1_take_inX1 : ∀ w ∈ wsX10, w ∈ wsX1_take := by decide +kernel
theorem k_X1_take_6 : Cond.fieldLink RX1 9 "WetMosaic" "wet" "[I" ∈ wsX1_take := by decide +kernel
theorem x_X1_take_IS : ∀ w ∈ (vx_atS RX1 86 "java/lang/IllegalStateException" ["java/lang/RuntimeException", "java/lang/Exception"]).filter goodWord, w ∈ wsX1_take := by
  intro w h
  simp only [wsX1_take, List.mem_cons, List.mem_append, h, or_true, true_or]
theorem k_X1_take_8 : Cond.classLink RX1 82 "java/lang/IllegalStateException" ∈ wsX1_take := by decide +kernel
theorem k_X1_take_9 : Cond.initialized "java/lang/IllegalStateException" ∈ wsX1_take := by decide +kernel
set_option maxHeartbeats 4000000 in
set_option maxRecDepth 100000 in
theorem c_X1_take (l : Launch) (hl9 : l.stackTraces = false) (D : va_G) (tys : List (ClassId × FieldType)) (cI cP : ClassId) (ht0 : tys[0]? = some (cI, .int)) (ht1 : tys[1]? = some (cP, .object RX0)) (h a1 a2 a3 a4 a5 a6 a7 np hr : Nat) (wet cover sun fs mk fd : Nat → Int32) (pcs : Nat → Option Nat) (pa : Nat → Nat) (P : Nat → Pd) (Y : va_W) (hnp : np ≤ 100) (hpc : ∀ k, k < np → pcs k = some (pa k)) (hg : Pok np P) (v : Int32) : gMx l yX1_take wsX1_take ({ frames := 6, cells := 1, slots := 6, locals := 100 } : Room) D tys [.ref h, .int v] ((h, .inr (1, [.ref a1, .ref a2, .ref a3, .ref a4, .int (nI np), .int (nI hr), .ref a5, .ref a6, .ref a7])) :: (a1, .inl (cI, 80, .inl (wet))) :: (a2, .inl (cI, 80, .inl (cover))) :: (a3, .inl (cI, 8, .inl (sun))) :: (a4, .inl (cP, 100, .inr (.inr (.inr (.inr (pcs)))))) :: (a5, .inl (cI, 80, .inl (fs))) :: (a6, .inl (cI, 80, .inl (mk))) :: (a7, .inl (cI, 80, .inl (fd))) :: (plist pa P np ++ Y)) (gIy (cdTa np P v = 0) (some (.int (gz (lsp (P (vn v)) wet)))) ((h, .inr (1, [.ref a1, .ref a2, .ref a3, .ref a4, .int (nI np), .int (nI hr), .ref a5, .ref a6, .ref a7])) :: (a1, .inl (cI, 80, .inl (if lsp (P (vn v)) wet = true then wet else setL wet (pcl (P (vn v))) (-1) (ql (P (vn v)))))) :: (a2, .inl (cI, 80, .inl (setL cover (pcl (P (vn v))) (-1) (ql (P (vn v)))))) :: (a3, .inl (cI, 8, .inl (sun))) :: (a4, .inl (cP, 100, .inr (.inr (.inr (.inr (pcs)))))) :: (a5, .inl (cI, 80, .inl (fs))) :: (a6, .inl (cI, 80, .inl (mk))) :: (a7, .inl (cI, 80, .inl (fd))) :: (plist pa (pup P (vn v) (tko (P (vn v)))) np ++ Y))) (fun E => cdE (cdTa np P v) nmOS E) 1 6 := by
  refine gMx_of2 (by decide +kernel) rfl (Nat.le_of_ble_eq_true rfl) ?_
  intro p e s m args below meth c A Q C hT hQ hQX
  refine g_sub [0, 1] (lv' := [(0, .ref h), (1, .int v)]) rfl ?_
  have hp := Pin_of (Y := Y) (P := P) hpc
  refine g_aload_n C dX1_take_0 rfl 0 rfl ?_
  refine g_iload_n C dX1_take_1 rfl 1 rfl ?_
  refine g_callV (ci := 1) (Cn := RX1) (As := [.int v]) (rest := []) C gm0 rfl rfl (c_X1_find l D tys cP ht1 ((h, .inr (1, [.ref a1, .ref a2, .ref a3, .ref a4, .int (nI np), .int (nI hr), .ref a5, .ref a6, .ref a7])) :: (a1, .inl (cI, 80, .inl (wet))) :: (a2, .inl (cI, 80, .inl (cover))) :: (a3, .inl (cI, 8, .inl (sun))) :: (a4, .inl (cP, 100, .inr (.inr (.inr (.inr (pcs)))))) :: (a5, .inl (cI, 80, .inl (fs))) :: (a6, .inl (cI, 80, .inl (mk))) :: (a7, .inl (cI, 80, .inl (fd))) :: (plist pa P np ++ Y)) h a1 a2 a3 a4 a5 a6 a7 np hr pcs v hnp gm0 (gmT (gmT (gmT (gmT gm0))))) (cwV 1 C.ts gX1_take_X1_find rfl rfl rfl (by decide +kernel) ⟨(Nat.le_of_ble_eq_true rfl), (Nat.le_of_ble_eq_true rfl)⟩) rfl rfl (Nat.le_of_ble_eq_true rfl) dX1_take_2 (Nat.le_of_ble_eq_true rfl) (Nat.le_of_ble_eq_true rfl) (g_is (x := va_rf (fnd np pcs v)) (W1 := ((h, .inr (1, [.ref a1, .ref a2, .ref a3, .ref a4, .int (nI np), .int (nI hr), .ref a5, .ref a6, .ref a7])) :: (a1, .inl (cI, 80, .inl (wet))) :: (a2, .inl (cI, 80, .inl (cover))) :: (a3, .inl (cI, 8, .inl (sun))) :: (a4, .inl (cP, 100, .inr (.inr (.inr (.inr (pcs)))))) :: (a5, .inl (cI, 80, .inl (fs))) :: (a6, .inl (cI, 80, .inl (mk))) :: (a7, .inl (cI, 80, .inl (fd))) :: (plist pa P np ++ Y))) ?_)
  cases hv : inR 0 (nI np - 1) v with
  | false =>
    refine g_eqv (x := va_rf (fnd np pcs v)) (y := .null) (by rw [fnd, if_neg (by simp [hv])]; rfl) ?_
    refine g_astore_nN (lv' := [(2, .null), (0, .ref h), (1, .int v)]) C dX1_take_5 rfl (by decide) rfl ?_
    refine g_aload_nN C dX1_take_6 rfl 0 rfl ?_
    refine g_ifnonnullN C dX1_take_7 ?_
    refine g_throwS (own := RX1) (cls := "java/lang/IndexOutOfBoundsException") (text := "no such piece") (names := tNs) (ik := 61) (is := 98) (ic := 65) C hQX hT hl9 (by decide) (by decide) k_X1_take_1 k_X1_take_2 (by decide +kernel) bad_IO x_X1_take_IO ot_IO dX1_take_10 dX1_take_13 dX1_take_14 dX1_take_16 dX1_take_19 (Nat.le_of_ble_eq_true rfl) (Nat.le_of_ble_eq_true rfl) (Nat.le_of_ble_eq_true rfl) (Nat.le_of_ble_eq_true rfl) (Nat.le_of_ble_eq_true rfl) (Nat.le_of_ble_eq_true rfl) ?_
    exact ⟨by simp [cdTa, pIn, *], by simp [cdTa, pIn, *]⟩
  | true =>
    obtain ⟨k, hk, rfl⟩ := inR_np (by omega) hv
    have hclk : vn (nI k) = k := nI_clamp (by omega)
    refine g_eqv (x := va_rf (fnd np pcs (nI k))) (y := .ref (pa k)) (fnd_nI hk hnp (hp k hk).1) ?_
    refine g_astore_n (lv' := [(2, .ref (pa k)), (0, .ref h), (1, .int (nI k))]) C dX1_take_5 rfl (by decide) rfl ?_
    refine g_aload_n C dX1_take_6 rfl 0 rfl ?_
    refine g_ifnonnull (tgt := 20) C dX1_take_7 (by decide) ?_
    refine g_aload_n C dX1_take_20 rfl 0 rfl ?_
    refine g_get (v := .int (gz ((qo (P k))))) (ci := 0) (Cn := RX0) (T := TX0) (N := 8) C k_X1_take_inX0 (gmT (gmT (gmT (gmT (gmT (gmT (gmT (gmT (hp k hk).2)))))))) rfl 7 (by decide) k_X1_take_4 rfl rfl dX1_take_21 ?_
    refine g_if_eq (tgt := 37) C dX1_take_24 (by decide) (fun c_1 => ?_) (fun c_1 => ?_)
    · skip
      replace c_1 := gz0.mp c_1
      refine g_aload_n C dX1_take_37 rfl 0 rfl ?_
      refine g_aload_n C dX1_take_38 rfl 1 rfl ?_
      refine g_get (v := .ref a1) (ci := 1) (Cn := RX1) (T := TX1) (N := 9) C k_X1_take_inX1 gm0 rfl 0 (by decide) k_X1_take_6 rfl rfl dX1_take_39 ?_
      refine g_callS (As := [.ref (pa k), .ref a1]) (rest := []) C (c_X1_isLoose l D tys cI ht0 ((h, .inr (1, [.ref a1, .ref a2, .ref a3, .ref a4, .int (nI np), .int (nI hr), .ref a5, .ref a6, .ref a7])) :: (a1, .inl (cI, 80, .inl (wet))) :: (a2, .inl (cI, 80, .inl (cover))) :: (a3, .inl (cI, 8, .inl (sun))) :: (a4, .inl (cP, 100, .inr (.inr (.inr (.inr (pcs)))))) :: (a5, .inl (cI, 80, .inl (fs))) :: (a6, .inl (cI, 80, .inl (mk))) :: (a7, .inl (cI, 80, .inl (fd))) :: (plist pa P np ++ Y)) (pa k) (qx (P k)) (qy (P k)) (ql (P k)) (qf (P k)) (qb (P k)) (qc (P k)) (qs (P k)) (qo (P k)) a1 wet (hg _ (by assumption)).2.1 (hg _ (by assumption)).2.2.2.2 (gmT (gmT (gmT (gmT (gmT (gmT (gmT (gmT (hp k hk).2)))))))) (gmT gm0)) (va_cwS 2 C.ts gX1_take_X1_isLoose rfl rfl rfl (by decide +kernel) ⟨(Nat.le_of_ble_eq_true rfl), (Nat.le_of_ble_eq_true rfl)⟩) rfl rfl (Nat.le_of_ble_eq_true rfl) dX1_take_42 (Nat.le_of_ble_eq_true rfl) (Nat.le_of_ble_eq_true rfl) (g_is (x := .int (gz (lsp (P k) wet))) (W1 := ((h, .inr (1, [.ref a1, .ref a2, .ref a3, .ref a4, .int (nI np), .int (nI hr), .ref a5, .ref a6, .ref a7])) :: (a1, .inl (cI, 80, .inl (wet))) :: (a2, .inl (cI, 80, .inl (cover))) :: (a3, .inl (cI, 8, .inl (sun))) :: (a4, .inl (cP, 100, .inr (.inr (.inr (.inr (pcs)))))) :: (a5, .inl (cI, 80, .inl (fs))) :: (a6, .inl (cI, 80, .inl (mk))) :: (a7, .inl (cI, 80, .inl (fd))) :: (plist pa P np ++ Y))) ?_)
      refine g_istore_n (lv' := [(3, .int (gz (lsp (P k) wet))), (2, .ref (pa k)), (0, .ref h), (1, .int (nI k))]) C dX1_take_45 rfl (by decide) rfl ?_
      refine g_aload_n C dX1_take_46 rfl 2 rfl ?_
      refine g_aload_n C dX1_take_47 rfl 1 rfl ?_
      refine g_iconst (v := (-1)) C dX1_take_48 (by decide) ?_
      refine g_callV (ci := 1) (Cn := RX1) (As := [.ref (pa k), .int ((-1))]) (rest := []) C gm0 rfl rfl (c_X1_setCover l D tys cI cP ht0 h a1 a2 a3 a4 a5 a6 a7 np hr wet cover sun fs mk fd pcs (plist pa P np ++ Y) (pa k) (P k) (-1) (hg k hk).2.1 (hg k hk).2.2.2.2 (hp k hk).2) (cwV 2 C.ts gX1_take_X1_setCover rfl rfl rfl (by decide +kernel) ⟨(Nat.le_of_ble_eq_true rfl), (Nat.le_of_ble_eq_true rfl)⟩) rfl rfl (Nat.le_of_ble_eq_true rfl) dX1_take_49 (Nat.le_of_ble_eq_true rfl) (Nat.le_of_ble_eq_true rfl) (g_isV (W1 := ((h, .inr (1, [.ref a1, .ref a2, .ref a3, .ref a4, .int (nI np), .int (nI hr), .ref a5, .ref a6, .ref a7])) :: (a1, .inl (cI, 80, .inl (wet))) :: (a2, .inl (cI, 80, .inl (setL cover (pcl (P k)) (-1) (ql (P k))))) :: (a3, .inl (cI, 8, .inl (sun))) :: (a4, .inl (cP, 100, .inr (.inr (.inr (.inr (pcs)))))) :: (a5, .inl (cI, 80, .inl (fs))) :: (a6, .inl (cI, 80, .inl (mk))) :: (a7, .inl (cI, 80, .inl (fd))) :: (plist pa P np ++ Y))) ?_)
      refine g_aload_n C dX1_take_52 rfl 1 rfl ?_
      refine g_iconst (v := 1) C dX1_take_53 (by decide) ?_
      refine g_put (ci := 0) (Cn := RX0) (T := TX0) (N := 8) (ty := .boolean) (ws' := ((h, .inr (1, [.ref a1, .ref a2, .ref a3, .ref a4, .int (nI np), .int (nI hr), .ref a5, .ref a6, .ref a7])) :: (a1, .inl (cI, 80, .inl (wet))) :: (a2, .inl (cI, 80, .inl (setL cover (pcl (P k)) (-1) (ql (P k))))) :: (a3, .inl (cI, 8, .inl (sun))) :: (a4, .inl (cP, 100, .inr (.inr (.inr (.inr (pcs)))))) :: (a5, .inl (cI, 80, .inl (fs))) :: (a6, .inl (cI, 80, .inl (mk))) :: (a7, .inl (cI, 80, .inl (fd))) :: (plist pa (pup P k (tko (P k))) np ++ Y))) C k_X1_take_inX0 tyX0 tyX0_ok nmX0 (k + 8) (plist_get (P := P) (Y := Y) hk) rfl 7 (by decide) k_X1_take_4 rfl rfl (by decide +kernel) rfl rfl (Nat.le_of_ble_eq_true rfl) dX1_take_54 (congrArg (fun t : va_W => ((h, .inr (1, [.ref a1, .ref a2, .ref a3, .ref a4, .int (nI np), .int (nI hr), .ref a5, .ref a6, .ref a7])) :: (a1, .inl (cI, 80, .inl (wet))) :: (a2, .inl (cI, 80, .inl (setL cover (pcl (P k)) (-1) (ql (P k))))) :: (a3, .inl (cI, 8, .inl (sun))) :: (a4, .inl (cP, 100, .inr (.inr (.inr (.inr (pcs)))))) :: (a5, .inl (cI, 80, .inl (fs))) :: (a6, .inl (cI, 80, .inl (mk))) :: (a7, .inl (cI, 80, .inl (fd))) :: t : va_W)) (plist_set (q := (tko (P k))) (Y := Y) hk)) ?_
      have hpk2 : (pa k, pcE (tko (P k))) ∈ (plist pa (pup P k (tko (P k))) np ++ Y) := by
        have h9 := plist_mem (pa := pa) (P := (pup P k (tko (P k)))) (Y := Y) hk
        rw [pup_s] at h9
        exact h9
      have hp2 := Pin_of (Y := Y) (P := (pup P k (tko (P k)))) hpc
      refine g_iload_n C dX1_take_57 rfl 0 rfl ?_
      refine g_if_ne (tgt := 66) C dX1_take_58 (by decide) (fun c_2 => ?_) (fun c_2 => ?_)
      · skip
        replace c_2 := gzn.mp c_2
        refine g_iload_n C dX1_take_66 rfl 0 rfl ?_
        refine g_zret C (by first | exact Or.inl rfl | exact Or.inr rfl | exact gz01 _) hQ (Nat.le_of_ble_eq_true rfl) (Nat.le_of_ble_eq_true rfl) dX1_take_67 ?_
        simp only [hclk]
        exact ⟨by simp [cdTa, pIn, *], rfl, by first | rw [if_pos (by assumption)] | rw [if_neg (by simp [*])]⟩
      · skip
        replace c_2 := gz0.mp c_2
        refine g_aload_n C dX1_take_61 rfl 2 rfl ?_
        refine g_aload_n C dX1_take_62 rfl 1 rfl ?_
        refine g_callV (ci := 1) (Cn := RX1) (As := [.ref (pa k)]) (rest := []) C gm0 rfl rfl (c_X1_removeMortar l D tys cI cP ht0 h a1 a2 a3 a4 a5 a6 a7 np hr wet (setL cover (pcl (P k)) (-1) (ql (P k))) sun fs mk fd pcs ((plist pa (pup P k (tko (P k))) np ++ Y)) (pa k) (tko (P k)) (hg k hk).2.1 (hg k hk).2.2.2.2 hpk2) (cwV 1 C.ts gX1_take_X1_removeMortar rfl rfl rfl (by decide +kernel) ⟨(Nat.le_of_ble_eq_true rfl), (Nat.le_of_ble_eq_true rfl)⟩) rfl rfl (Nat.le_of_ble_eq_true rfl) dX1_take_63 (Nat.le_of_ble_eq_true rfl) (Nat.le_of_ble_eq_true rfl) (g_isV (W1 := ((h, .inr (1, [.ref a1, .ref a2, .ref a3, .ref a4, .int (nI np), .int (nI hr), .ref a5, .ref a6, .ref a7])) :: (a1, .inl (cI, 80, .inl (setL wet (pcl (P k)) (-1) (ql (P k))))) :: (a2, .inl (cI, 80, .inl (setL cover (pcl (P k)) (-1) (ql (P k))))) :: (a3, .inl (cI, 8, .inl (sun))) :: (a4, .inl (cP, 100, .inr (.inr (.inr (.inr (pcs)))))) :: (a5, .inl (cI, 80, .inl (fs))) :: (a6, .inl (cI, 80, .inl (mk))) :: (a7, .inl (cI, 80, .inl (fd))) :: (plist pa (pup P k (tko (P k))) np ++ Y))) ?_)
        refine g_iload_n C dX1_take_66 rfl 0 rfl ?_
        refine g_zret C (by first | exact Or.inl rfl | exact Or.inr rfl | exact gz01 _) hQ (Nat.le_of_ble_eq_true rfl) (Nat.le_of_ble_eq_true rfl) dX1_take_67 ?_
        simp only [hclk]
        exact ⟨by simp [cdTa, pIn, *], rfl, by first | rw [if_pos (by assumption)] | rw [if_neg (by simp [*])]⟩
    · skip
      replace c_1 := gzn.mp c_1
      refine g_throwS (own := RX1) (cls := "java/lang/IllegalStateException") (text := "the piece is out") (names := tNs) (ik := 82) (is := 135) (ic := 86) C hQX hT hl9 (by decide) (by decide) k_X1_take_8 k_X1_take_9 (by decide +kernel) bad_IS x_X1_take_IS ot_IS dX1_take_27 dX1_take_30 dX1_take_31 dX1_take_33 dX1_take_36 (Nat.le_of_ble_eq_true rfl) (Nat.le_of_ble_eq_true rfl) (Nat.le_of_ble_eq_true rfl) (Nat.le_of_ble_eq_true rfl) (Nat.le_of_ble_eq_true rfl) (Nat.le_of_ble_eq_true rfl) ?_
      exact ⟨by simp [cdTa, pIn, *], by simp [cdTa, pIn, *]⟩
