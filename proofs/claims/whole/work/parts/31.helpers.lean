theorem k_L_spread_0 : Cond.classLink RL 13 "java/lang/IndexOutOfBoundsException" ∈ wsL_spread := by decide +kernel
theorem k_L_spread_1 : Cond.classLink RL 15 "java/lang/IllegalArgumentException" ∈ wsL_spread := by decide +kernel
set_option maxHeartbeats 4000000 in
set_option maxRecDepth 100000 in
theorem c_L_spread (l : Launch) (hl9 : l.stackTraces = false) (D : va_G) (tys : List (ClassId × FieldType)) (cI cP cL : ClassId) (ht0 : tys[0]? = some (cI, .int)) (ht1 : tys[1]? = some (cP, .object RX0)) (ht2 : tys[2]? = some (cL, .long)) (h a1 a2 a3 a4 a5 a6 a7 np hr : Nat) (wet cover sun fs mk fd : Nat → Int32) (pcs : Nat → Option Nat) (pa : Nat → Nat) (P : Nat → Pd) (o : Nat) (g : Nat → Int64) (Z : va_W) (hnp : np ≤ 100) (hpc : ∀ k, k < np → pcs k = some (pa k)) (hg : Pok np P) (x y w9 h9 : Int32) : gM l yL_spread wsL_spread ({ frames := 8, cells := 2, slots := 14, locals := 149 } : Room) D tys [.ref h, .int x, .int y, .int w9, .int h9, .ref o] ((h, .inr (1, [.ref a1, .ref a2, .ref a3, .ref a4, .int (nI np), .int (nI hr), .ref a5, .ref a6, .ref a7])) :: (a1, .inl (cI, 80, .inl (wet))) :: (a2, .inl (cI, 80, .inl (cover))) :: (a3, .inl (cI, 8, .inl (sun))) :: (a4, .inl (cP, 100, .inr (.inr (.inr (.inr (pcs)))))) :: (a5, .inl (cI, 80, .inl (fs))) :: (a6, .inl (cI, 80, .inl (mk))) :: (a7, .inl (cI, 80, .inl (fd))) :: (plist pa P np ++ ((o, .inl (cL, 1, .inr (.inl (g)))) :: Z))) (gHo (cdSp x y w9 h9) (fun wX => wX = ((h, .inr (1, [.ref a1, .ref a2, .ref a3, .ref a4, .int (nI np), .int (nI hr), .ref a5, .ref a6, .ref a7])) :: (a1, .inl (cI, 80, .inl (sprW wet cover (vn x) (vn y) (vn w9) (vn w9 * vn h9)))) :: (a2, .inl (cI, 80, .inl (cover))) :: (a3, .inl (cI, 8, .inl (sun))) :: (a4, .inl (cP, 100, .inr (.inr (.inr (.inr (pcs)))))) :: (a5, .inl (cI, 80, .inl (fs))) :: (a6, .inl (cI, 80, .inl (mk))) :: (a7, .inl (cI, 80, .inl (fd))) :: (plist pa P np ++ ((o, .inl (cL, 1, .inr (.inl (vp_updL g 0 ((nI (cnt (sprF cover (vn x) (vn y) (vn w9)) (vn w9 * vn h9))).toInt64))))) :: Z)))) ((h, .inr (1, [.ref a1, .ref a2, .ref a3, .ref a4, .int (nI np), .int (nI hr), .ref a5, .ref a6, .ref a7])) :: (a1, .inl (cI, 80, .inl (wet))) :: (a2, .inl (cI, 80, .inl (cover))) :: (a3, .inl (cI, 8, .inl (sun))) :: (a4, .inl (cP, 100, .inr (.inr (.inr (.inr (pcs)))))) :: (a5, .inl (cI, 80, .inl (fs))) :: (a6, .inl (cI, 80, .inl (mk))) :: (a7, .inl (cI, 80, .inl (fd))) :: (plist pa P np ++ ((o, .inl (cL, 1, .inr (.inl (g)))) :: Z)))) 2 14 := by
  refine gM_ofW (by decide +kernel) rfl (Nat.le_of_ble_eq_true rfl) ?_
  intro p e s m args below meth c A Q C hT hQ
  refine g_sub [0, 1, 2, 3, 4, 5] (lv' := [(0, .ref h), (1, .int x), (2, .int y), (3, .int w9), (4, .int h9), (5, .ref o)]) rfl ?_
  refine g_aload C dL_spread_0 5 rfl ?_
  refine g_iconst (v := 0) C dL_spread_2 (by decide) ?_
  refine g_aload_n C dL_spread_3 rfl 0 rfl ?_
  refine g_iload_n C dL_spread_4 rfl 1 rfl ?_
  refine g_iload_n C dL_spread_5 rfl 2 rfl ?_
  refine g_iload_n C dL_spread_6 rfl 3 rfl ?_
  refine g_iload C dL_spread_7 4 rfl ?_
  refine g_callVx (ci := 1) (Cn := RX1) (As := [.int x, .int y, .int w9, .int h9]) (rest := [.int 0, .ref o]) C gm0 rfl rfl (c_X1_spread l hl9 D tys cI cP ht0 ht1 h a1 a2 a3 a4 a5 a6 a7 np hr wet cover sun fs mk fd pcs pa P ((o, .inl (cL, 1, .inr (.inl (g)))) :: Z) hnp hpc hg x y w9 h9) (cwV 4 C.ts gL_spread_X1_spread rfl rfl rfl (by decide +kernel) ⟨(Nat.le_of_ble_eq_true rfl), (Nat.le_of_ble_eq_true rfl)⟩) rfl rfl (Nat.le_of_ble_eq_true rfl) dL_spread_9 (Nat.le_of_ble_eq_true rfl) (Nat.le_of_ble_eq_true rfl) ?_ ?_
  · intro E hE
    rcases cdE2 hE with ⟨hc, rfl⟩ | ⟨hc, rfl⟩
    · refine gH_0 C hT  (by decide) (by decide) k_L_spread_0 (by decide +kernel) (fun q9 => ?_)
      refine g_astore (lv' := [(6, .ref q9), (0, .ref h), (1, .int x), (2, .int y), (3, .int w9), (4, .int h9), (5, .ref o)]) C dL_spread_17 (by decide) rfl ?_
      refine g_iconst (v := 1) C dL_spread_19 (by decide) ?_
      refine g_iret C hQ (Nat.le_of_ble_eq_true rfl) (Nat.le_of_ble_eq_true rfl) dL_spread_20 ?_
      exact Or.inr ⟨by rw [hc]; decide, by rw [hc]; rfl, rfl⟩
    · refine gH_1 C hT (by decide) k_L_spread_0 (by decide +kernel) (by decide) (by decide) k_L_spread_1 (by decide +kernel) (fun q9 => ?_)
      refine g_astore (lv' := [(6, .ref q9), (0, .ref h), (1, .int x), (2, .int y), (3, .int w9), (4, .int h9), (5, .ref o)]) C dL_spread_21 (by decide) rfl ?_
      refine g_iconst (v := 2) C dL_spread_23 (by decide) ?_
      refine g_iret C hQ (Nat.le_of_ble_eq_true rfl) (Nat.le_of_ble_eq_true rfl) dL_spread_24 ?_
      exact Or.inr ⟨by rw [hc]; decide, by rw [hc]; rfl, rfl⟩
  · intro vq wq hq9
    obtain ⟨hcd, rfl, rfl⟩ := hq9
    refine g_i2l C dL_spread_12 ?_
    refine g_last (ws' := ((h, .inr (1, [.ref a1, .ref a2, .ref a3, .ref a4, .int (nI np), .int (nI hr), .ref a5, .ref a6, .ref a7])) :: (a1, .inl (cI, 80, .inl (sprW wet cover (vn x) (vn y) (vn w9) (vn w9 * vn h9)))) :: (a2, .inl (cI, 80, .inl (cover))) :: (a3, .inl (cI, 8, .inl (sun))) :: (a4, .inl (cP, 100, .inr (.inr (.inr (.inr (pcs)))))) :: (a5, .inl (cI, 80, .inl (fs))) :: (a6, .inl (cI, 80, .inl (mk))) :: (a7, .inl (cI, 80, .inl (fd))) :: (plist pa P np ++ ((o, .inl (cL, 1, .inr (.inl (vp_updL g 0 ((nI (cnt (sprF cover (vn x) (vn y) (vn w9)) (vn w9 * vn h9))).toInt64))))) :: Z)))) C (np + 8) 2 og ht2 (vp_in_nI (n := 0) (by omega) (by omega)) dL_spread_13 os ?_
    refine g_goto (tgt := 25) C dL_spread_14 (by decide) ?_
    refine g_iconst (v := 0) C dL_spread_25 (by decide) ?_
    refine g_iret C hQ (Nat.le_of_ble_eq_true rfl) (Nat.le_of_ble_eq_true rfl) dL_spread_26 ?_
    exact Or.inl ⟨hcd, rfl, rfl⟩

theorem k_L_setSun_0 : Cond.classLink RL 13 "java/lang/IndexOutOfBoundsException" ∈ wsL_setSun := by decide +kernel
theorem k_L_setSun_1 : Cond.classLink RL 15 "java/lang/IllegalArgumentException" ∈ wsL_setSun := by decide +kernel
set_option maxHeartbeats 4000000 in
set_option maxRecDepth 100000 in
theorem c_L_setSun (l : Launch) (hl9 : l.stackTraces = false) (D : va_G) (tys : List (ClassId × FieldType)) (cI cP cL : ClassId) (ht0 : tys[0]? = some (cI, .int)) (ht1 : tys[1]? = some (cP, .object RX0)) (ht2 : tys[2]? = some (cL, .long)) (h a1 a2 a3 a4 a5 a6 a7 np hr : Nat) (wet cover sun fs mk fd : Nat → Int32) (pcs : Nat → Option Nat) (pa : Nat → Nat) (P : Nat → Pd) (o : Nat) (g : Nat → Int64) (Z : va_W) (hnp : np ≤ 100) (hpc : ∀ k, k < np → pcs k = some (pa k)) (hg : Pok np P) (v s9 : Int32) : gM l yL_setSun wsL_setSun ({ frames := 7, cells := 2, slots := 14, locals := 123 } : Room) D tys [.ref h, .int v, .int s9, .ref o] ((h, .inr (1, [.ref a1, .ref a2, .ref a3, .ref a4, .int (nI np), .int (nI hr), .ref a5, .ref a6, .ref a7])) :: (a1, .inl (cI, 80, .inl (wet))) :: (a2, .inl (cI, 80, .inl (cover))) :: (a3, .inl (cI, 8, .inl (sun))) :: (a4, .inl (cP, 100, .inr (.inr (.inr (.inr (pcs)))))) :: (a5, .inl (cI, 80, .inl (fs))) :: (a6, .inl (cI, 80, .inl (mk))) :: (a7, .inl (cI, 80, .inl (fd))) :: (plist pa P np ++ ((o, .inl (cL, 1, .inr (.inl (g)))) :: Z))) (gHo (cdSu v s9) (fun wX => wX = ((h, .inr (1, [.ref a1, .ref a2, .ref a3, .ref a4, .int (nI np), .int (nI hr), .ref a5, .ref a6, .ref a7])) :: (a1, .inl (cI, 80, .inl (wet))) :: (a2, .inl (cI, 80, .inl (cover))) :: (a3, .inl (cI, 8, .inl (putv 8 sun v s9))) :: (a4, .inl (cP, 100, .inr (.inr (.inr (.inr (pcs)))))) :: (a5, .inl (cI, 80, .inl (fs))) :: (a6, .inl (cI, 80, .inl (mk))) :: (a7, .inl (cI, 80, .inl (fd))) :: (plist pa P np ++ ((o, .inl (cL, 1, .inr (.inl (vp_updL g 0 ((atv 8 sun v).toInt64))))) :: Z)))) ((h, .inr (1, [.ref a1, .ref a2, .ref a3, .ref a4, .int (nI np), .int (nI hr), .ref a5, .ref a6, .ref a7])) :: (a1, .inl (cI, 80, .inl (wet))) :: (a2, .inl (cI, 80, .inl (cover))) :: (a3, .inl (cI, 8, .inl (sun))) :: (a4, .inl (cP, 100, .inr (.inr (.inr (.inr (pcs)))))) :: (a5, .inl (cI, 80, .inl (fs))) :: (a6, .inl (cI, 80, .inl (mk))) :: (a7, .inl (cI, 80, .inl (fd))) :: (plist pa P np ++ ((o, .inl (cL, 1, .inr (.inl (g)))) :: Z)))) 2 14 := by
  refine gM_ofW (by decide +kernel) rfl (Nat.le_of_ble_eq_true rfl) ?_
  intro p e s m args below meth c A Q C hT hQ
  refine g_sub [0, 1, 2, 3] (lv' := [(0, .ref h), (1, .int v), (2, .int s9), (3, .ref o)]) rfl ?_
  refine g_aload_n C dL_setSun_0 rfl 3 rfl ?_
  refine g_iconst (v := 0) C dL_setSun_1 (by decide) ?_
  refine g_aload_n C dL_setSun_2 rfl 0 rfl ?_
  refine g_iload_n C dL_setSun_3 rfl 1 rfl ?_
  refine g_iload_n C dL_setSun_4 rfl 2 rfl ?_
  refine g_callVx (ci := 1) (Cn := RX1) (As := [.int v, .int s9]) (rest := [.int 0, .ref o]) C gm0 rfl rfl (c_X1_setSun l hl9 D tys cI cP ht0 ht1 h a1 a2 a3 a4 a5 a6 a7 np hr wet cover sun fs mk fd pcs pa P ((o, .inl (cL, 1, .inr (.inl (g)))) :: Z) hnp hpc hg v s9) (cwV 2 C.ts gL_setSun_X1_setSun rfl rfl rfl (by decide +kernel) ⟨(Nat.le_of_ble_eq_true rfl), (Nat.le_of_ble_eq_true rfl)⟩) rfl rfl (Nat.le_of_ble_eq_true rfl) dL_setSun_5 (Nat.le_of_ble_eq_true rfl) (Nat.le_of_ble_eq_true rfl) ?_ ?_
  · intro E hE
    rcases cdE2 hE with ⟨hc, rfl⟩ | ⟨hc, rfl⟩
    · refine gH_0 C hT  (by decide) (by decide) k_L_setSun_0 (by decide +kernel) (fun q9 => ?_)
      refine g_astore (lv' := [(4, .ref q9), (0, .ref h), (1, .int v), (2, .int s9), (3, .ref o)]) C dL_setSun_13 (by decide) rfl ?_
      refine g_iconst (v := 1) C dL_setSun_15 (by decide) ?_
      refine g_iret C hQ (Nat.le_of_ble_eq_true rfl) (Nat.le_of_ble_eq_true rfl) dL_setSun_16 ?_
      exact Or.inr ⟨by rw [hc]; decide, by rw [hc]; rfl, rfl⟩
    · refine gH_1 C hT (by decide) k_L_setSun_0 (by decide +kernel) (by decide) (by decide) k_L_setSun_1 (by decide +kernel) (fun q9 => ?_)
      refine g_astore (lv' := [(4, .ref q9), (0, .ref h), (1, .int v), (2, .int s9), (3, .ref o)]) C dL_setSun_17 (by decide) rfl ?_
      refine g_iconst (v := 2) C dL_setSun_19 (by decide) ?_
      refine g_iret C hQ (Nat.le_of_ble_eq_true rfl) (Nat.le_of_ble_eq_true rfl) dL_setSun_20 ?_
      exact Or.inr ⟨by rw [hc]; decide, by rw [hc]; rfl, rfl⟩
  · intro vq wq hq9
    obtain ⟨hcd, rfl, rfl⟩ := hq9
    refine g_i2l C dL_setSun_8 ?_
    refine g_last (ws' := ((h, .inr (1, [.ref a1, .ref a2, .ref a3, .ref a4, .int (nI np), .int (nI hr), .ref a5, .ref a6, .ref a7])) :: (a1, .inl (cI, 80, .inl (wet))) :: (a2, .inl (cI, 80, .inl (cover))) :: (a3, .inl (cI, 8, .inl (putv 8 sun v s9))) :: (a4, .inl (cP, 100, .inr (.inr (.inr (.inr (pcs)))))) :: (a5, .inl (cI, 80, .inl (fs))) :: (a6, .inl (cI, 80, .inl (mk))) :: (a7, .inl (cI, 80, .inl (fd))) :: (plist pa P np ++ ((o, .inl (cL, 1, .inr (.inl (vp_updL g 0 ((atv 8 sun v).toInt64))))) :: Z)))) C (np + 8) 2 og ht2 (vp_in_nI (n := 0) (by omega) (by omega)) dL_setSun_9 os ?_
    refine g_goto (tgt := 21) C dL_setSun_10 (by decide) ?_
    refine g_iconst (v := 0) C dL_setSun_21 (by decide) ?_
    refine g_iret C hQ (Nat.le_of_ble_eq_true rfl) (Nat.le_of_ble_eq_true rfl) dL_setSun_22 ?_
    exact Or.inl ⟨hcd, rfl, rfl⟩

theorem k_L_press_0 : Cond.classLink RL 13 "java/lang/IndexOutOfBoundsException" ∈ wsL_press := by decide +kernel
theorem k_L_press_1 : Cond.classLink RL 15 "java/lang/IllegalArgumentException" ∈ wsL_press := by decide +kernel
theorem k_L_press_2 : Cond.classLink RL 25 "java/lang/IllegalStateException" ∈ wsL_press := by decide +kernel
set_option maxHeartbeats 4000000 in
set_option maxRecDepth 100000 in
theorem c_L_press (l : Launch) (hl9 : l.stackTraces = false) (D : va_G) (tys : List (ClassId × FieldType)) (cI cP cL : ClassId) (ht0 : tys[0]? = some (cI, .int)) (ht1 : tys[1]? = some (cP, .object RX0)) (ht2 : tys[2]? = some (cL, .long)) (h a1 a2 a3 a4 a5 a6 a7 np hr : Nat) (wet cover sun fs mk fd : Nat → Int32) (pcs : Nat → Option Nat) (pa : Nat → Nat) (P : Nat → Pd) (o : Nat) (g : Nat → Int64) (Z : va_W) (hnp : np ≤ 100) (hpc : ∀ k, k < np → pcs k = some (pa k)) (hg : Pok np P) (x y ln9 f b : Int32) (ac : Bool) : gM l yL_press wsL_press ({ frames := 8, cells := 2, slots := 14, locals := 149 } : Room) D tys [.ref h, .int x, .int y, .int ln9, .int (gz ac), .int f, .int b, .ref o] ((h, .inr (1, [.ref a1, .ref a2, .ref a3, .ref a4, .int (nI np), .int (nI hr), .ref a5, .ref a6, .ref a7])) :: (a1, .inl (cI, 80, .inl (wet))) :: (a2, .inl (cI, 80, .inl (cover))) :: (a3, .inl (cI, 8, .inl (sun))) :: (a4, .inl (cP, 100, .inr (.inr (.inr (.inr (pcs)))))) :: (a5, .inl (cI, 80, .inl (fs))) :: (a6, .inl (cI, 80, .inl (mk))) :: (a7, .inl (cI, 80, .inl (fd))) :: (plist pa P np ++ ((o, .inl (cL, 1, .inr (.inl (g)))) :: Z))) (gHo (cdPr np wet cover x y ln9 ac f b) (fun wX => ∃ qn, wX = ((h, .inr (1, [.ref a1, .ref a2, .ref a3, .ref a4, .int (nI (np + 1)), .int (nI hr), .ref a5, .ref a6, .ref a7])) :: (a1, .inl (cI, 80, .inl (wet))) :: (a2, .inl (cI, 80, .inl (setL cover (pcl (vn x, vn y, vn ln9, f, b, ac, false, false)) (nI np) (vn ln9)))) :: (a3, .inl (cI, 8, .inl (sun))) :: (a4, .inl (cP, 100, .inr (.inr (.inr (.inr (va_up pcs np (some qn))))))) :: (a5, .inl (cI, 80, .inl (fs))) :: (a6, .inl (cI, 80, .inl (mk))) :: (a7, .inl (cI, 80, .inl (fd))) :: (plist (va_up pa np qn) (pup P np (vn x, vn y, vn ln9, f, b, ac, false, false)) (np + 1) ++ ((o, .inl (cL, 1, .inr (.inl (vp_updL g 0 ((nI np).toInt64))))) :: Z)))) ((h, .inr (1, [.ref a1, .ref a2, .ref a3, .ref a4, .int (nI np), .int (nI hr), .ref a5, .ref a6, .ref a7])) :: (a1, .inl (cI, 80, .inl (wet))) :: (a2, .inl (cI, 80, .inl (cover))) :: (a3, .inl (cI, 8, .inl (sun))) :: (a4, .inl (cP, 100, .inr (.inr (.inr (.inr (pcs)))))) :: (a5, .inl (cI, 80, .inl (fs))) :: (a6, .inl (cI, 80, .inl (mk))) :: (a7, .inl (cI, 80, .inl (fd))) :: (plist pa P np ++ ((o, .inl (cL, 1, .inr (.inl (g)))) :: Z)))) 2 14 := by
  refine gM_ofW (by decide +kernel) rfl (Nat.le_of_ble_eq_true rfl) ?_
  intro p e s m args below meth c A Q C hT hQ
  refine g_sub [0, 1, 2, 3, 4, 5, 6, 7] (lv' := [(0, .ref h), (1, .int x), (2, .int y), (3, .int ln9), (4, .int (gz ac)), (5, .int f), (6, .int b), (7, .ref o)]) rfl ?_
  refine g_aload C dL_press_0 7 rfl ?_
  refine g_iconst (v := 0) C dL_press_2 (by decide) ?_
  refine g_aload_n C dL_press_3 rfl 0 rfl ?_
  refine g_iload_n C dL_press_4 rfl 1 rfl ?_
  refine g_iload_n C dL_press_5 rfl 2 rfl ?_
  refine g_iload_n C dL_press_6 rfl 3 rfl ?_
  refine g_iload C dL_press_7 4 rfl ?_
  refine g_iload C dL_press_9 5 rfl ?_
  refine g_iload C dL_press_11 6 rfl ?_
  refine g_callVx (ci := 1) (Cn := RX1) (As := [.int x, .int y, .int ln9, .int (gz ac), .int f, .int b]) (rest := [.int 0, .ref o]) C gm0 rfl rfl (c_X1_press l hl9 D tys cI cP ht0 ht1 h a1 a2 a3 a4 a5 a6 a7 np hr wet cover sun fs mk fd pcs pa P ((o, .inl (cL, 1, .inr (.inl (g)))) :: Z) hnp hpc hg x y ln9 f b ac) (cwV 6 C.ts gL_press_X1_press rfl rfl rfl (by decide +kernel) ⟨(Nat.le_of_ble_eq_true rfl), (Nat.le_of_ble_eq_true rfl)⟩) rfl rfl (Nat.le_of_ble_eq_true rfl) dL_press_13 (Nat.le_of_ble_eq_true rfl) (Nat.le_of_ble_eq_true rfl) ?_ ?_
  · intro E hE
    rcases cdE3 hE with ⟨hc, rfl⟩ | ⟨hc, rfl⟩ | ⟨hc, rfl⟩
    · refine gH_0 C hT  (by decide) (by decide) k_L_press_0 (by decide +kernel) (fun q9 => ?_)
      refine g_astore (lv' := [(8, .ref q9), (0, .ref h), (1, .int x), (2, .int y), (3, .int ln9), (4, .int (gz ac)), (5, .int f), (6, .int b), (7, .ref o)]) C dL_press_21 (by decide) rfl ?_
      refine g_iconst (v := 1) C dL_press_23 (by decide) ?_
      refine g_iret C hQ (Nat.le_of_ble_eq_true rfl) (Nat.le_of_ble_eq_true rfl) dL_press_24 ?_
      exact Or.inr ⟨by rw [hc]; decide, by rw [hc]; rfl, rfl⟩
    · refine gH_1 C hT (by decide) k_L_press_0 (by decide +kernel) (by decide) (by decide) k_L_press_1 (by decide +kernel) (fun q9 => ?_)
      refine g_astore (lv' := [(8, .ref q9), (0, .ref h), (1, .int x), (2, .int y), (3, .int ln9), (4, .int (gz ac)), (5, .int f), (6, .int b), (7, .ref o)]) C dL_press_25 (by decide) rfl ?_
      refine g_iconst (v := 2) C dL_press_27 (by decide) ?_
      refine g_iret C hQ (Nat.le_of_ble_eq_true rfl) (Nat.le_of_ble_eq_true rfl) dL_press_28 ?_
      exact Or.inr ⟨by rw [hc]; decide, by rw [hc]; rfl, rfl⟩
    · refine gH_2 C hT (by decide) k_L_press_0 (by decide +kernel) (by decide) k_L_press_1 (by decide +kernel) (by decide) (by decide) k_L_press_2 (by decide +kernel) (fun q9 => ?_)
      refine g_astore (lv' := [(8, .ref q9), (0, .ref h), (1, .int x), (2, .int y), (3, .int ln9), (4, .int (gz ac)), (5, .int f), (6, .int b), (7, .ref o)]) C dL_press_29 (by decide) rfl ?_
      refine g_iconst (v := 3) C dL_press_31 (by decide) ?_
      refine g_iret C hQ (Nat.le_of_ble_eq_true rfl) (Nat.le_of_ble_eq_true rfl) dL_press_32 ?_
      exact Or.inr ⟨by rw [hc]; decide, by rw [hc]; rfl, rfl⟩
  · intro vq wq hq9
    obtain ⟨hcd, rfl, qn, rfl⟩ := hq9
    refine g_i2l C dL_press_16 ?_
    refine g_last (ws' := ((h, .inr (1, [.ref a1, .ref a2, .ref a3, .ref a4, .int (nI (np + 1)), .int (nI hr), .ref a5, .ref a6, .ref a7])) :: (a1, .inl (cI, 80, .inl (wet))) :: (a2, .inl (cI, 80, .inl (setL cover (pcl (vn x, vn y, vn ln9, f, b, ac, false, false)) (nI np) (vn ln9)))) :: (a3, .inl (cI, 8, .inl (sun))) :: (a4, .inl (cP, 100, .inr (.inr (.inr (.inr (va_up pcs np (some qn))))))) :: (a5, .inl (cI, 80, .inl (fs))) :: (a6, .inl (cI, 80, .inl (mk))) :: (a7, .inl (cI, 80, .inl (fd))) :: (plist (va_up pa np qn) (pup P np (vn x, vn y, vn ln9, f, b, ac, false, false)) (np + 1) ++ ((o, .inl (cL, 1, .inr (.inl (vp_updL g 0 ((nI np).toInt64))))) :: Z)))) C ((np + 1) + 8) 2 og ht2 (vp_in_nI (n := 0) (by omega) (by omega)) dL_press_17 os ?_
    refine g_goto (tgt := 33) C dL_press_18 (by decide) ?_
    refine g_iconst (v := 0) C dL_press_33 (by decide) ?_
    refine g_iret C hQ (Nat.le_of_ble_eq_true rfl) (Nat.le_of_ble_eq_true rfl) dL_press_34 ?_
    exact Or.inl ⟨hcd, rfl, qn, rfl⟩

theorem k_L_flip_0 : Cond.classLink RL 13 "java/lang/IndexOutOfBoundsException" ∈ wsL_flip := by decide +kernel
theorem k_L_flip_1 : Cond.classLink RL 25 "java/lang/IllegalStateException" ∈ wsL_flip := by decide +kernel
set_option maxHeartbeats 4000000 in
set_option maxRecDepth 100000 in
theorem c_L_flip (l : Launch) (hl9 : l.stackTraces = false) (D : va_G) (tys : List (ClassId × FieldType)) (cI cP cL : ClassId) (ht0 : tys[0]? = some (cI, .int)) (ht1 : tys[1]? = some (cP, .object RX0)) (ht2 : tys[2]? = some (cL, .long)) (h a1 a2 a3 a4 a5 a6 a7 np hr : Nat) (wet cover sun fs mk fd : Nat → Int32) (pcs : Nat → Option Nat) (pa : Nat → Nat) (P : Nat → Pd) (o : Nat) (g : Nat → Int64) (Z : va_W) (hnp : np ≤ 100) (hpc : ∀ k, k < np → pcs k = some (pa k)) (hg : Pok np P) (v : Int32) : gM l yL_flip wsL_flip ({ frames := 7, cells := 2, slots := 14, locals := 124 } : Room) D tys [.ref h, .int v, .ref o] ((h, .inr (1, [.ref a1, .ref a2, .ref a3, .ref a4, .int (nI np), .int (nI hr), .ref a5, .ref a6, .ref a7])) :: (a1, .inl (cI, 80, .inl (wet))) :: (a2, .inl (cI, 80, .inl (cover))) :: (a3, .inl (cI, 8, .inl (sun))) :: (a4, .inl (cP, 100, .inr (.inr (.inr (.inr (pcs)))))) :: (a5, .inl (cI, 80, .inl (fs))) :: (a6, .inl (cI, 80, .inl (mk))) :: (a7, .inl (cI, 80, .inl (fd))) :: (plist pa P np ++ ((o, .inl (cL, 1, .inr (.inl (g)))) :: Z))) (gHo (cdFl np P wet v) (fun wX => wX = ((h, .inr (1, [.ref a1, .ref a2, .ref a3, .ref a4, .int (nI np), .int (nI hr), .ref a5, .ref a6, .ref a7])) :: (a1, .inl (cI, 80, .inl (decL wet (pcl (P (vn v))) (ql (P (vn v)))))) :: (a2, .inl (cI, 80, .inl (cover))) :: (a3, .inl (cI, 8, .inl (sun))) :: (a4, .inl (cP, 100, .inr (.inr (.inr (.inr (pcs)))))) :: (a5, .inl (cI, 80, .inl (fs))) :: (a6, .inl (cI, 80, .inl (mk))) :: (a7, .inl (cI, 80, .inl (fd))) :: (plist pa (pup P (vn v) (flp (P (vn v)))) np ++ ((o, .inl (cL, 1, .inr (.inl (vp_updL g 0 ((shw (flp (P (vn v)))).toInt64))))) :: Z)))) ((h, .inr (1, [.ref a1, .ref a2, .ref a3, .ref a4, .int (nI np), .int (nI hr), .ref a5, .ref a6, .ref a7])) :: (a1, .inl (cI, 80, .inl (wet))) :: (a2, .inl (cI, 80, .inl (cover))) :: (a3, .inl (cI, 8, .inl (sun))) :: (a4, .inl (cP, 100, .inr (.inr (.inr (.inr (pcs)))))) :: (a5, .inl (cI, 80, .inl (fs))) :: (a6, .inl (cI, 80, .inl (mk))) :: (a7, .inl (cI, 80, .inl (fd))) :: (plist pa P np ++ ((o, .inl (cL, 1, .inr (.inl (g)))) :: Z)))) 2 14 := by
  refine gM_ofW (by decide +kernel) rfl (Nat.le_of_ble_eq_true rfl) ?_
  intro p e s m args below meth c A Q C hT hQ
  refine g_sub [0, 1, 2] (lv' := [(0, .ref h), (1, .int v), (2, .ref o)]) rfl ?_
  refine g_aload_n C dL_flip_0 rfl 2 rfl ?_
  refine g_iconst (v := 0) C dL_flip_1 (by decide) ?_
  refine g_aload_n C dL_flip_2 rfl 0 rfl ?_
  refine g_iload_n C dL_flip_3 rfl 1 rfl ?_
  refine g_callVx (ci := 1) (Cn := RX1) (As := [.int v]) (rest := [.int 0, .ref o]) C gm0 rfl rfl (c_X1_flip l hl9 D tys cI cP ht0 ht1 h a1 a2 a3 a4 a5 a6 a7 np hr wet cover sun fs mk fd pcs pa P ((o, .inl (cL, 1, .inr (.inl (g)))) :: Z) hnp hpc hg v) (cwV 1 C.ts gL_flip_X1_flip rfl rfl rfl (by decide +kernel) ⟨(Nat.le_of_ble_eq_true rfl), (Nat.le_of_ble_eq_true rfl)⟩) rfl rfl (Nat.le_of_ble_eq_true rfl) dL_flip_4 (Nat.le_of_ble_eq_true rfl) (Nat.le_of_ble_eq_true rfl) ?_ ?_
  · intro E hE
    rcases cdE2 hE with ⟨hc, rfl⟩ | ⟨hc, rfl⟩
    · refine gH_0 C hT  (by decide) (by decide) k_L_flip_0 (by decide +kernel) (fun q9 => ?_)
      refine g_astore_n (lv' := [(3, .ref q9), (0, .ref h), (1, .int v), (2, .ref o)]) C dL_flip_12 rfl (by decide) rfl ?_
      refine g_iconst (v := 1) C dL_flip_13 (by decide) ?_
      refine g_iret C hQ (Nat.le_of_ble_eq_true rfl) (Nat.le_of_ble_eq_true rfl) dL_flip_14 ?_
      exact Or.inr ⟨by rw [hc]; decide, by rw [hc]; rfl, rfl⟩
    · refine gH_1 C hT (by decide) k_L_flip_0 (by decide +kernel) (by decide) (by decide) k_L_flip_1 (by decide +kernel) (fun q9 => ?_)
      refine g_astore_n (lv' := [(3, .ref q9), (0, .ref h), (1, .int v), (2, .ref o)]) C dL_flip_15 rfl (by decide) rfl ?_
      refine g_iconst (v := 2) C dL_flip_16 (by decide) ?_
      refine g_iret C hQ (Nat.le_of_ble_eq_true rfl) (Nat.le_of_ble_eq_true rfl) dL_flip_17 ?_
      exact Or.inr ⟨by rw [hc]; decide, by rw [hc]; rfl, rfl⟩
  · intro vq wq hq9
    obtain ⟨hcd, rfl, rfl⟩ := hq9
    refine g_i2l C dL_flip_7 ?_
    refine g_last (ws' := ((h, .inr (1, [.ref a1, .ref a2, .ref a3, .ref a4, .int (nI np), .int (nI hr), .ref a5, .ref a6, .ref a7])) :: (a1, .inl (cI, 80, .inl (decL wet (pcl (P (vn v))) (ql (P (vn v)))))) :: (a2, .inl (cI, 80, .inl (cover))) :: (a3, .inl (cI, 8, .inl (sun))) :: (a4, .inl (cP, 100, .inr (.inr (.inr (.inr (pcs)))))) :: (a5, .inl (cI, 80, .inl (fs))) :: (a6, .inl (cI, 80, .inl (mk))) :: (a7, .inl (cI, 80, .inl (fd))) :: (plist pa (pup P (vn v) (flp (P (vn v)))) np ++ ((o, .inl (cL, 1, .inr (.inl (vp_updL g 0 ((shw (flp (P (vn v)))).toInt64))))) :: Z)))) C (np + 8) 2 og ht2 (vp_in_nI (n := 0) (by omega) (by omega)) dL_flip_8 os ?_
    refine g_goto (tgt := 18) C dL_flip_9 (by decide) ?_
    refine g_iconst (v := 0) C dL_flip_18 (by decide) ?_
    refine g_iret C hQ (Nat.le_of_ble_eq_true rfl) (Nat.le_of_ble_eq_true rfl) dL_flip_19 ?_
    exact Or.inl ⟨hcd, rfl, rfl⟩

theorem k_L_turn_0 : Cond.classLink RL 13 "java/lang/IndexOutOfBoundsException" ∈ wsL_turn := by decide +kernel
theorem k_L_turn_1 : Cond.classLink RL 25 "java/lang/IllegalStateException" ∈ wsL_turn := by decide +kernel
set_option maxHeartbeats 4000000 in
set_option maxRecDepth 100000 in
theorem c_L_turn (l : Launch) (hl9 : l.stackTraces = false) (D : va_G) (tys : List (ClassId × FieldType)) (cI cP cL : ClassId) (ht0 : tys[0]? = some (cI, .int)) (ht1 : tys[1]? = some (cP, .object RX0)) (ht2 : tys[2]? = some (cL, .long)) (h a1 a2 a3 a4 a5 a6 a7 np hr : Nat) (wet cover sun fs mk fd : Nat → Int32) (pcs : Nat → Option Nat) (pa : Nat → Nat) (P : Nat → Pd) (o : Nat) (g : Nat → Int64) (Z : va_W) (hnp : np ≤ 100) (hpc : ∀ k, k < np → pcs k = some (pa k)) (hg : Pok np P) (v : Int32) : gM l yL_turn wsL_turn ({ frames := 7, cells := 2, slots := 14, locals := 122 } : Room) D tys [.ref h, .int v, .ref o] ((h, .inr (1, [.ref a1, .ref a2, .ref a3, .ref a4, .int (nI np), .int (nI hr), .ref a5, .ref a6, .ref a7])) :: (a1, .inl (cI, 80, .inl (wet))) :: (a2, .inl (cI, 80, .inl (cover))) :: (a3, .inl (cI, 8, .inl (sun))) :: (a4, .inl (cP, 100, .inr (.inr (.inr (.inr (pcs)))))) :: (a5, .inl (cI, 80, .inl (fs))) :: (a6, .inl (cI, 80, .inl (mk))) :: (a7, .inl (cI, 80, .inl (fd))) :: (plist pa P np ++ ((o, .inl (cL, 1, .inr (.inl (g)))) :: Z))) (gHo (cdTu np P wet cover v) (fun wX => wX = ((h, .inr (1, [.ref a1, .ref a2, .ref a3, .ref a4, .int (nI np), .int (nI hr), .ref a5, .ref a6, .ref a7])) :: (a1, .inl (cI, 80, .inl (wet))) :: (a2, .inl (cI, 80, .inl (setL (setL cover (pcl (P (vn v))) (-1) (ql (P (vn v)))) (pcl (trn (P (vn v)))) v (ql (P (vn v)))))) :: (a3, .inl (cI, 8, .inl (sun))) :: (a4, .inl (cP, 100, .inr (.inr (.inr (.inr (pcs)))))) :: (a5, .inl (cI, 80, .inl (fs))) :: (a6, .inl (cI, 80, .inl (mk))) :: (a7, .inl (cI, 80, .inl (fd))) :: (plist pa (pup P (vn v) (trn (P (vn v)))) np ++ ((o, .inl (cL, 1, .inr (.inl (vp_updL g 0 ((nI (ql (P (vn v)))).toInt64))))) :: Z)))) ((h, .inr (1, [.ref a1, .ref a2, .ref a3, .ref a4, .int (nI np), .int (nI hr), .ref a5, .ref a6, .ref a7])) :: (a1, .inl (cI, 80, .inl (wet))) :: (a2, .inl (cI, 80, .inl (cover))) :: (a3, .inl (cI, 8, .inl (sun))) :: (a4, .inl (cP, 100, .inr (.inr (.inr (.inr (pcs)))))) :: (a5, .inl (cI, 80, .inl (fs))) :: (a6, .inl (cI, 80, .inl (mk))) :: (a7, .inl (cI, 80, .inl (fd))) :: (plist pa P np ++ ((o, .inl (cL, 1, .inr (.inl (g)))) :: Z)))) 2 14 := by
  refine gM_ofW (by decide +kernel) rfl (Nat.le_of_ble_eq_true rfl) ?_
  intro p e s m args below meth c A Q C hT hQ
  refine g_sub [0, 1, 2] (lv' := [(0, .ref h), (1, .int v), (2, .ref o)]) rfl ?_
  refine g_aload_n C dL_turn_0 rfl 2 rfl ?_
  refine g_iconst (v := 0) C dL_turn_1 (by decide) ?_
  refine g_aload_n C dL_turn_2 rfl 0 rfl ?_
  refine g_iload_n C dL_turn_3 rfl 1 rfl ?_
  refine g_callVx (ci := 1) (Cn := RX1) (As := [.int v]) (rest := [.int 0, .ref o]) C gm0 rfl rfl (c_X1_turn l hl9 D tys cI cP ht0 ht1 h a1 a2 a3 a4 a5 a6 a7 np hr wet cover sun fs mk fd pcs pa P ((o, .inl (cL, 1, .inr (.inl (g)))) :: Z) hnp hpc hg v) (cwV 1 C.ts gL_turn_X1_turn rfl rfl rfl (by decide +kernel) ⟨(Nat.le_of_ble_eq_true rfl), (Nat.le_of_ble_eq_true rfl)⟩) rfl rfl (Nat.le_of_ble_eq_true rfl) dL_turn_4 (Nat.le_of_ble_eq_true rfl) (Nat.le_of_ble_eq_true rfl) ?_ ?_
  · intro E hE
    rcases cdE2 hE with ⟨hc, rfl⟩ | ⟨hc, rfl⟩
    · refine gH_0 C hT  (by decide) (by decide) k_L_turn_0 (by decide +kernel) (fun q9 => ?_)
      refine g_astore_n (lv' := [(3, .ref q9), (0, .ref h), (1, .int v), (2, .ref o)]) C dL_turn_12 rfl (by decide) rfl ?_
      refine g_iconst (v := 1) C dL_turn_13 (by decide) ?_
      refine g_iret C hQ (Nat.le_of_ble_eq_true rfl) (Nat.le_of_ble_eq_true rfl) dL_turn_14 ?_
      exact Or.inr ⟨by rw [hc]; decide, by rw [hc]; rfl, rfl⟩
    · refine gH_1 C hT (by decide) k_L_turn_0 (by decide +kernel) (by decide) (by decide) k_L_turn_1 (by decide +kernel) (fun q9 => ?_)
      refine g_astore_n (lv' := [(3, .ref q9), (0, .ref h), (1, .int v), (2, .ref o)]) C dL_turn_15 rfl (by decide) rfl ?_
      refine g_iconst (v := 2) C dL_turn_16 (by decide) ?_
      refine g_iret C hQ (Nat.le_of_ble_eq_true rfl) (Nat.le_of_ble_eq_true rfl) dL_turn_17 ?_
      exact Or.inr ⟨by rw [hc]; decide, by rw [hc]; rfl, rfl⟩
  · intro vq wq hq9
    obtain ⟨hcd, rfl, rfl⟩ := hq9
    refine g_i2l C dL_turn_7 ?_
    refine g_last (ws' := ((h, .inr (1, [.ref a1, .ref a2, .ref a3, .ref a4, .int (nI np), .int (nI hr), .ref a5, .ref a6, .ref a7])) :: (a1, .inl (cI, 80, .inl (wet))) :: (a2, .inl (cI, 80, .inl (setL (setL cover (pcl (P (vn v))) (-1) (ql (P (vn v)))) (pcl (trn (P (vn v)))) v (ql (P (vn v)))))) :: (a3, .inl (cI, 8, .inl (sun))) :: (a4, .inl (cP, 100, .inr (.inr (.inr (.inr (pcs)))))) :: (a5, .inl (cI, 80, .inl (fs))) :: (a6, .inl (cI, 80, .inl (mk))) :: (a7, .inl (cI, 80, .inl (fd))) :: (plist pa (pup P (vn v) (trn (P (vn v)))) np ++ ((o, .inl (cL, 1, .inr (.inl (vp_updL g 0 ((nI (ql (P (vn v)))).toInt64))))) :: Z)))) C (np + 8) 2 og ht2 (vp_in_nI (n := 0) (by omega) (by omega)) dL_turn_8 os ?_
    refine g_goto (tgt := 18) C dL_turn_9 (by decide) ?_
    refine g_iconst (v := 0) C dL_turn_18 (by decide) ?_
    refine g_iret C hQ (Nat.le_of_ble_eq_true rfl) (Nat.le_of_ble_eq_true rfl) dL_turn_19 ?_
    exact Or.inl ⟨hcd, rfl, rfl⟩

theorem k_L_take_0 : Cond.classLink RL 13 "java/lang/IndexOutOfBoundsException" ∈ wsL_take := by decide +kernel
theorem k_L_take_1 : Cond.classLink RL 25 "java/lang/IllegalStateException" ∈ wsL_take := by decide +kernel
set_option maxHeartbeats 4000000 in
set_option maxRecDepth 100000 in
theorem c_L_take (l : Launch) (hl9 : l.stackTraces = false) (D : va_G) (tys : List (ClassId × FieldType)) (cI cP cL : ClassId) (ht0 : tys[0]? = some (cI, .int)) (ht1 : tys[1]? = some (cP, .object RX0)) (ht2 : tys[2]? = some (cL, .long)) (h a1 a2 a3 a4 a5 a6 a7 np hr : Nat) (wet cover sun fs mk fd : Nat → Int32) (pcs : Nat → Option Nat) (pa : Nat → Nat) (P : Nat → Pd) (o : Nat) (g : Nat → Int64) (Z : va_W) (hnp : np ≤ 100) (hpc : ∀ k, k < np → pcs k = some (pa k)) (hg : Pok np P) (v : Int32) : gM l yL_take wsL_take ({ frames := 7, cells := 2, slots := 14, locals := 123 } : Room) D tys [.ref h, .int v, .ref o] ((h, .inr (1, [.ref a1, .ref a2, .ref a3, .ref a4, .int (nI np), .int (nI hr), .ref a5, .ref a6, .ref a7])) :: (a1, .inl (cI, 80, .inl (wet))) :: (a2, .inl (cI, 80, .inl (cover))) :: (a3, .inl (cI, 8, .inl (sun))) :: (a4, .inl (cP, 100, .inr (.inr (.inr (.inr (pcs)))))) :: (a5, .inl (cI, 80, .inl (fs))) :: (a6, .inl (cI, 80, .inl (mk))) :: (a7, .inl (cI, 80, .inl (fd))) :: (plist pa P np ++ ((o, .inl (cL, 1, .inr (.inl (g)))) :: Z))) (gHo (cdTa np P v) (fun wX => wX = ((h, .inr (1, [.ref a1, .ref a2, .ref a3, .ref a4, .int (nI np), .int (nI hr), .ref a5, .ref a6, .ref a7])) :: (a1, .inl (cI, 80, .inl (if lsp (P (vn v)) wet = true then wet else setL wet (pcl (P (vn v))) (-1) (ql (P (vn v)))))) :: (a2, .inl (cI, 80, .inl (setL cover (pcl (P (vn v))) (-1) (ql (P (vn v)))))) :: (a3, .inl (cI, 8, .inl (sun))) :: (a4, .inl (cP, 100, .inr (.inr (.inr (.inr (pcs)))))) :: (a5, .inl (cI, 80, .inl (fs))) :: (a6, .inl (cI, 80, .inl (mk))) :: (a7, .inl (cI, 80, .inl (fd))) :: (plist pa (pup P (vn v) (tko (P (vn v)))) np ++ ((o, .inl (cL, 1, .inr (.inl (vp_updL g 0 (gzL (lsp (P (vn v)) wet)))))) :: Z)))) ((h, .inr (1, [.ref a1, .ref a2, .ref a3, .ref a4, .int (nI np), .int (nI hr), .ref a5, .ref a6, .ref a7])) :: (a1, .inl (cI, 80, .inl (wet))) :: (a2, .inl (cI, 80, .inl (cover))) :: (a3, .inl (cI, 8, .inl (sun))) :: (a4, .inl (cP, 100, .inr (.inr (.inr (.inr (pcs)))))) :: (a5, .inl (cI, 80, .inl (fs))) :: (a6, .inl (cI, 80, .inl (mk))) :: (a7, .inl (cI, 80, .inl (fd))) :: (plist pa P np ++ ((o, .inl (cL, 1, .inr (.inl (g)))) :: Z)))) 2 14 := by
  refine gM_ofW (by decide +kernel) rfl (Nat.le_of_ble_eq_true rfl) ?_
  intro p e s m args below meth c A Q C hT hQ
  refine g_sub [0, 1, 2] (lv' := [(0, .ref h), (1, .int v), (2, .ref o)]) rfl ?_
  refine g_aload_n C dL_take_0 rfl 2 rfl ?_
  refine g_iconst (v := 0) C dL_take_1 (by decide) ?_
  refine g_aload_n C dL_take_2 rfl 0 rfl ?_
  refine g_iload_n C dL_take_3 rfl 1 rfl ?_
  refine g_callVx (ci := 1) (Cn := RX1) (As := [.int v]) (rest := [.int 0, .ref o]) C gm0 rfl rfl (c_X1_take l hl9 D tys cI cP ht0 ht1 h a1 a2 a3 a4 a5 a6 a7 np hr wet cover sun fs mk fd pcs pa P ((o, .inl (cL, 1, .inr (.inl (g)))) :: Z) hnp hpc hg v) (cwV 1 C.ts gL_take_X1_take rfl rfl rfl (by decide +kernel) ⟨(Nat.le_of_ble_eq_true rfl), (Nat.le_of_ble_eq_true rfl)⟩) rfl rfl (Nat.le_of_ble_eq_true rfl) dL_take_4 (Nat.le_of_ble_eq_true rfl) (Nat.le_of_ble_eq_true rfl) ?_ ?_
  · intro E hE
    rcases cdE2 hE with ⟨hc, rfl⟩ | ⟨hc, rfl⟩
    · refine gH_0 C hT  (by decide) (by decide) k_L_take_0 (by decide +kernel) (fun q9 => ?_)
      refine g_astore_n (lv' := [(3, .ref q9), (0, .ref h), (1, .int v), (2, .ref o)]) C dL_take_19 rfl (by decide) rfl ?_
      refine g_iconst (v := 1) C dL_take_20 (by decide) ?_
      refine g_iret C hQ (Nat.le_of_ble_eq_true rfl) (Nat.le_of_ble_eq_true rfl) dL_take_21 ?_
      exact Or.inr ⟨by rw [hc]; decide, by rw [hc]; rfl, rfl⟩
    · refine gH_1 C hT (by decide) k_L_take_0 (by decide +kernel) (by decide) (by decide) k_L_take_1 (by decide +kernel) (fun q9 => ?_)
      refine g_astore_n (lv' := [(3, .ref q9), (0, .ref h), (1, .int v), (2, .ref o)]) C dL_take_22 rfl (by decide) rfl ?_
      refine g_iconst (v := 2) C dL_take_23 (by decide) ?_
      refine g_iret C hQ (Nat.le_of_ble_eq_true rfl) (Nat.le_of_ble_eq_true rfl) dL_take_24 ?_
      exact Or.inr ⟨by rw [hc]; decide, by rw [hc]; rfl, rfl⟩
  · intro vq wq hq9
    obtain ⟨hcd, rfl, rfl⟩ := hq9
    refine g_if_eq (tgt := 14) C dL_take_7 (by decide) (fun cb => ?_) (fun cb => ?_)
    · skip
      replace cb := gz0.mp cb
      refine g_lconst (v := 0) C dL_take_14 (by decide) ?_
      refine g_last (ws' := ((h, .inr (1, [.ref a1, .ref a2, .ref a3, .ref a4, .int (nI np), .int (nI hr), .ref a5, .ref a6, .ref a7])) :: (a1, .inl (cI, 80, .inl (if lsp (P (vn v)) wet = true then wet else setL wet (pcl (P (vn v))) (-1) (ql (P (vn v)))))) :: (a2, .inl (cI, 80, .inl (setL cover (pcl (P (vn v))) (-1) (ql (P (vn v)))))) :: (a3, .inl (cI, 8, .inl (sun))) :: (a4, .inl (cP, 100, .inr (.inr (.inr (.inr (pcs)))))) :: (a5, .inl (cI, 80, .inl (fs))) :: (a6, .inl (cI, 80, .inl (mk))) :: (a7, .inl (cI, 80, .inl (fd))) :: (plist pa (pup P (vn v) (tko (P (vn v)))) np ++ ((o, .inl (cL, 1, .inr (.inl (vp_updL g 0 (0))))) :: Z)))) C (np + 8) 2 og ht2 (vp_in_nI (n := 0) (by omega) (by omega)) dL_take_15 os ?_
      refine g_goto (tgt := 25) C dL_take_16 (by decide) ?_
      refine g_iconst (v := 0) C dL_take_25 (by decide) ?_
      refine g_iret C hQ (Nat.le_of_ble_eq_true rfl) (Nat.le_of_ble_eq_true rfl) dL_take_26 ?_
      exact Or.inl ⟨hcd, rfl, by rw [cb]; rfl⟩
    · skip
      replace cb := gzn.mp cb
      refine g_lconst (v := 1) C dL_take_10 (by decide) ?_
      refine g_goto (tgt := 15) C dL_take_11 (by decide) ?_
      refine g_last (ws' := ((h, .inr (1, [.ref a1, .ref a2, .ref a3, .ref a4, .int (nI np), .int (nI hr), .ref a5, .ref a6, .ref a7])) :: (a1, .inl (cI, 80, .inl (if lsp (P (vn v)) wet = true then wet else setL wet (pcl (P (vn v))) (-1) (ql (P (vn v)))))) :: (a2, .inl (cI, 80, .inl (setL cover (pcl (P (vn v))) (-1) (ql (P (vn v)))))) :: (a3, .inl (cI, 8, .inl (sun))) :: (a4, .inl (cP, 100, .inr (.inr (.inr (.inr (pcs)))))) :: (a5, .inl (cI, 80, .inl (fs))) :: (a6, .inl (cI, 80, .inl (mk))) :: (a7, .inl (cI, 80, .inl (fd))) :: (plist pa (pup P (vn v) (tko (P (vn v)))) np ++ ((o, .inl (cL, 1, .inr (.inl (vp_updL g 0 (1))))) :: Z)))) C (np + 8) 2 og ht2 (vp_in_nI (n := 0) (by omega) (by omega)) dL_take_15 os ?_
      refine g_goto (tgt := 25) C dL_take_16 (by decide) ?_
      refine g_iconst (v := 0) C dL_take_25 (by decide) ?_
      refine g_iret C hQ (Nat.le_of_ble_eq_true rfl) (Nat.le_of_ble_eq_true rfl) dL_take_26 ?_
      exact Or.inl ⟨hcd, rfl, by rw [cb]; rfl⟩

theorem k_L_cell_0 : Cond.classLink RL 13 "java/lang/IndexOutOfBoundsException" ∈ wsL_cell := by decide +kernel
set_option maxHeartbeats 4000000 in
set_option maxRecDepth 100000 in
theorem c_L_cell (l : Launch) (hl9 : l.stackTraces = false) (D : va_G) (tys : List (ClassId × FieldType)) (cI cP cL : ClassId) (ht0 : tys[0]? = some (cI, .int)) (ht1 : tys[1]? = some (cP, .object RX0)) (ht2 : tys[2]? = some (cL, .long)) (h a1 a2 a3 a4 a5 a6 a7 np hr : Nat) (wet cover sun fs mk fd : Nat → Int32) (pcs : Nat → Option Nat) (pa : Nat → Nat) (P : Nat → Pd) (o : Nat) (g : Nat → Int64) (Z : va_W) (hnp : np ≤ 100) (hpc : ∀ k, k < np → pcs k = some (pa k)) (hg : Pok np P) (x y w9 : Int32) : gM l yL_cell wsL_cell ({ frames := 8, cells := 2, slots := 14, locals := 144 } : Room) D tys [.ref h, .int x, .int y, .int w9, .ref o] ((h, .inr (1, [.ref a1, .ref a2, .ref a3, .ref a4, .int (nI np), .int (nI hr), .ref a5, .ref a6, .ref a7])) :: (a1, .inl (cI, 80, .inl (wet))) :: (a2, .inl (cI, 80, .inl (cover))) :: (a3, .inl (cI, 8, .inl (sun))) :: (a4, .inl (cP, 100, .inr (.inr (.inr (.inr (pcs)))))) :: (a5, .inl (cI, 80, .inl (fs))) :: (a6, .inl (cI, 80, .inl (mk))) :: (a7, .inl (cI, 80, .inl (fd))) :: (plist pa P np ++ ((o, .inl (cL, 1, .inr (.inl (g)))) :: Z))) (gHo (cdCe x y w9) (fun wX => wX = ((h, .inr (1, [.ref a1, .ref a2, .ref a3, .ref a4, .int (nI np), .int (nI hr), .ref a5, .ref a6, .ref a7])) :: (a1, .inl (cI, 80, .inl (wet))) :: (a2, .inl (cI, 80, .inl (cover))) :: (a3, .inl (cI, 8, .inl (sun))) :: (a4, .inl (cP, 100, .inr (.inr (.inr (.inr (pcs)))))) :: (a5, .inl (cI, 80, .inl (fs))) :: (a6, .inl (cI, 80, .inl (mk))) :: (a7, .inl (cI, 80, .inl (fd))) :: (plist pa P np ++ ((o, .inl (cL, 1, .inr (.inl (vp_updL g 0 ((cfact np P wet cover (10 * vn y + vn x) (vn w9)).toInt64))))) :: Z)))) ((h, .inr (1, [.ref a1, .ref a2, .ref a3, .ref a4, .int (nI np), .int (nI hr), .ref a5, .ref a6, .ref a7])) :: (a1, .inl (cI, 80, .inl (wet))) :: (a2, .inl (cI, 80, .inl (cover))) :: (a3, .inl (cI, 8, .inl (sun))) :: (a4, .inl (cP, 100, .inr (.inr (.inr (.inr (pcs)))))) :: (a5, .inl (cI, 80, .inl (fs))) :: (a6, .inl (cI, 80, .inl (mk))) :: (a7, .inl (cI, 80, .inl (fd))) :: (plist pa P np ++ ((o, .inl (cL, 1, .inr (.inl (g)))) :: Z)))) 2 14 := by
  refine gM_ofW (by decide +kernel) rfl (Nat.le_of_ble_eq_true rfl) ?_
  intro p e s m args below meth c A Q C hT hQ
  refine g_sub [0, 1, 2, 3, 4] (lv' := [(0, .ref h), (1, .int x), (2, .int y), (3, .int w9), (4, .ref o)]) rfl ?_
  refine g_aload C dL_cell_0 4 rfl ?_
  refine g_iconst (v := 0) C dL_cell_2 (by decide) ?_
  refine g_aload_n C dL_cell_3 rfl 0 rfl ?_
  refine g_iload_n C dL_cell_4 rfl 1 rfl ?_
  refine g_iload_n C dL_cell_5 rfl 2 rfl ?_
  refine g_iload_n C dL_cell_6 rfl 3 rfl ?_
  refine g_callVx (ci := 1) (Cn := RX1) (As := [.int x, .int y, .int w9]) (rest := [.int 0, .ref o]) C gm0 rfl rfl (c_X1_cell l hl9 D tys cI cP ht0 ht1 h a1 a2 a3 a4 a5 a6 a7 np hr wet cover sun fs mk fd pcs pa P ((o, .inl (cL, 1, .inr (.inl (g)))) :: Z) hnp hpc hg x y w9) (cwV 3 C.ts gL_cell_X1_cell rfl rfl rfl (by decide +kernel) ⟨(Nat.le_of_ble_eq_true rfl), (Nat.le_of_ble_eq_true rfl)⟩) rfl rfl (Nat.le_of_ble_eq_true rfl) dL_cell_7 (Nat.le_of_ble_eq_true rfl) (Nat.le_of_ble_eq_true rfl) ?_ ?_
  · intro E hE
    obtain ⟨hc, rfl⟩ := cdE1 hE
    · refine gH_0 C hT  (by decide) (by decide) k_L_cell_0 (by decide +kernel) (fun q9 => ?_)
      refine g_astore (lv' := [(5, .ref q9), (0, .ref h), (1, .int x), (2, .int y), (3, .int w9), (4, .ref o)]) C dL_cell_15 (by decide) rfl ?_
      refine g_iconst (v := 1) C dL_cell_17 (by decide) ?_
      refine g_iret C hQ (Nat.le_of_ble_eq_true rfl) (Nat.le_of_ble_eq_true rfl) dL_cell_18 ?_
      exact Or.inr ⟨by rw [hc]; decide, by rw [hc]; rfl, rfl⟩
  · intro vq wq hq9
    obtain ⟨hcd, rfl, rfl⟩ := hq9
    refine g_i2l C dL_cell_10 ?_
    refine g_last (ws' := ((h, .inr (1, [.ref a1, .ref a2, .ref a3, .ref a4, .int (nI np), .int (nI hr), .ref a5, .ref a6, .ref a7])) :: (a1, .inl (cI, 80, .inl (wet))) :: (a2, .inl (cI, 80, .inl (cover))) :: (a3, .inl (cI, 8, .inl (sun))) :: (a4, .inl (cP, 100, .inr (.inr (.inr (.inr (pcs)))))) :: (a5, .inl (cI, 80, .inl (fs))) :: (a6, .inl (cI, 80, .inl (mk))) :: (a7, .inl (cI, 80, .inl (fd))) :: (plist pa P np ++ ((o, .inl (cL, 1, .inr (.inl (vp_updL g 0 ((cfact np P wet cover (10 * vn y + vn x) (vn w9)).toInt64))))) :: Z)))) C (np + 8) 2 og ht2 (vp_in_nI (n := 0) (by omega) (by omega)) dL_cell_11 os ?_
    refine g_goto (tgt := 19) C dL_cell_12 (by decide) ?_
    refine g_iconst (v := 0) C dL_cell_19 (by decide) ?_
    refine g_iret C hQ (Nat.le_of_ble_eq_true rfl) (Nat.le_of_ble_eq_true rfl) dL_cell_20 ?_
    exact Or.inl ⟨hcd, rfl, rfl⟩

theorem k_L_piece_0 : Cond.classLink RL 13 "java/lang/IndexOutOfBoundsException" ∈ wsL_piece := by decide +kernel
set_option maxHeartbeats 4000000 in
set_option maxRecDepth 100000 in
theorem c_L_piece (l : Launch) (hl9 : l.stackTraces = false) (D : va_G) (tys : List (ClassId × FieldType)) (cI cP cL : ClassId) (ht0 : tys[0]? = some (cI, .int)) (ht1 : tys[1]? = some (cP, .object RX0)) (ht2 : tys[2]? = some (cL, .long)) (h a1 a2 a3 a4 a5 a6 a7 np hr : Nat) (wet cover sun fs mk fd : Nat → Int32) (pcs : Nat → Option Nat) (pa : Nat → Nat) (P : Nat → Pd) (o : Nat) (g : Nat → Int64) (Z : va_W) (hnp : np ≤ 100) (hpc : ∀ k, k < np → pcs k = some (pa k)) (hg : Pok np P) (v w9 : Int32) : gM l yL_piece wsL_piece ({ frames := 7, cells := 2, slots := 14, locals := 123 } : Room) D tys [.ref h, .int v, .int w9, .ref o] ((h, .inr (1, [.ref a1, .ref a2, .ref a3, .ref a4, .int (nI np), .int (nI hr), .ref a5, .ref a6, .ref a7])) :: (a1, .inl (cI, 80, .inl (wet))) :: (a2, .inl (cI, 80, .inl (cover))) :: (a3, .inl (cI, 8, .inl (sun))) :: (a4, .inl (cP, 100, .inr (.inr (.inr (.inr (pcs)))))) :: (a5, .inl (cI, 80, .inl (fs))) :: (a6, .inl (cI, 80, .inl (mk))) :: (a7, .inl (cI, 80, .inl (fd))) :: (plist pa P np ++ ((o, .inl (cL, 1, .inr (.inl (g)))) :: Z))) (gHo (cdPi np v w9) (fun wX => wX = ((h, .inr (1, [.ref a1, .ref a2, .ref a3, .ref a4, .int (nI np), .int (nI hr), .ref a5, .ref a6, .ref a7])) :: (a1, .inl (cI, 80, .inl (wet))) :: (a2, .inl (cI, 80, .inl (cover))) :: (a3, .inl (cI, 8, .inl (sun))) :: (a4, .inl (cP, 100, .inr (.inr (.inr (.inr (pcs)))))) :: (a5, .inl (cI, 80, .inl (fs))) :: (a6, .inl (cI, 80, .inl (mk))) :: (a7, .inl (cI, 80, .inl (fd))) :: (plist pa P np ++ ((o, .inl (cL, 1, .inr (.inl (vp_updL g 0 ((pfact (P (vn v)) wet (vn w9)).toInt64))))) :: Z)))) ((h, .inr (1, [.ref a1, .ref a2, .ref a3, .ref a4, .int (nI np), .int (nI hr), .ref a5, .ref a6, .ref a7])) :: (a1, .inl (cI, 80, .inl (wet))) :: (a2, .inl (cI, 80, .inl (cover))) :: (a3, .inl (cI, 8, .inl (sun))) :: (a4, .inl (cP, 100, .inr (.inr (.inr (.inr (pcs)))))) :: (a5, .inl (cI, 80, .inl (fs))) :: (a6, .inl (cI, 80, .inl (mk))) :: (a7, .inl (cI, 80, .inl (fd))) :: (plist pa P np ++ ((o, .inl (cL, 1, .inr (.inl (g)))) :: Z)))) 2 14 := by
  refine gM_ofW (by decide +kernel) rfl (Nat.le_of_ble_eq_true rfl) ?_
  intro p e s m args below meth c A Q C hT hQ
  refine g_sub [0, 1, 2, 3] (lv' := [(0, .ref h), (1, .int v), (2, .int w9), (3, .ref o)]) rfl ?_
  refine g_aload_n C dL_piece_0 rfl 3 rfl ?_
  refine g_iconst (v := 0) C dL_piece_1 (by decide) ?_
  refine g_aload_n C dL_piece_2 rfl 0 rfl ?_
  refine g_iload_n C dL_piece_3 rfl 1 rfl ?_
  refine g_iload_n C dL_piece_4 rfl 2 rfl ?_
  refine g_callVx (ci := 1) (Cn := RX1) (As := [.int v, .int w9]) (rest := [.int 0, .ref o]) C gm0 rfl rfl (c_X1_piece l hl9 D tys cI cP ht0 ht1 h a1 a2 a3 a4 a5 a6 a7 np hr wet cover sun fs mk fd pcs pa P ((o, .inl (cL, 1, .inr (.inl (g)))) :: Z) hnp hpc hg v w9) (cwV 2 C.ts gL_piece_X1_piece rfl rfl rfl (by decide +kernel) ⟨(Nat.le_of_ble_eq_true rfl), (Nat.le_of_ble_eq_true rfl)⟩) rfl rfl (Nat.le_of_ble_eq_true rfl) dL_piece_5 (Nat.le_of_ble_eq_true rfl) (Nat.le_of_ble_eq_true rfl) ?_ ?_
  · intro E hE
    obtain ⟨hc, rfl⟩ := cdE1 hE
    · refine gH_0 C hT  (by decide) (by decide) k_L_piece_0 (by decide +kernel) (fun q9 => ?_)
      refine g_astore (lv' := [(4, .ref q9), (0, .ref h), (1, .int v), (2, .int w9), (3, .ref o)]) C dL_piece_13 (by decide) rfl ?_
      refine g_iconst (v := 1) C dL_piece_15 (by decide) ?_
      refine g_iret C hQ (Nat.le_of_ble_eq_true rfl) (Nat.le_of_ble_eq_true rfl) dL_piece_16 ?_
      exact Or.inr ⟨by rw [hc]; decide, by rw [hc]; rfl, rfl⟩
  · intro vq wq hq9
    obtain ⟨hcd, rfl, rfl⟩ := hq9
    refine g_i2l C dL_piece_8 ?_
    refine g_last (ws' := ((h, .inr (1, [.ref a1, .ref a2, .ref a3, .ref a4, .int (nI np), .int (nI hr), .ref a5, .ref a6, .ref a7])) :: (a1, .inl (cI, 80, .inl (wet))) :: (a2, .inl (cI, 80, .inl (cover))) :: (a3, .inl (cI, 8, .inl (sun))) :: (a4, .inl (cP, 100, .inr (.inr (.inr (.inr (pcs)))))) :: (a5, .inl (cI, 80, .inl (fs))) :: (a6, .inl (cI, 80, .inl (mk))) :: (a7, .inl (cI, 80, .inl (fd))) :: (plist pa P np ++ ((o, .inl (cL, 1, .inr (.inl (vp_updL g 0 ((pfact (P (vn v)) wet (vn w9)).toInt64))))) :: Z)))) C (np + 8) 2 og ht2 (vp_in_nI (n := 0) (by omega) (by omega)) dL_piece_9 os ?_
    refine g_goto (tgt := 17) C dL_piece_10 (by decide) ?_
    refine g_iconst (v := 0) C dL_piece_17 (by decide) ?_
    refine g_iret C hQ (Nat.le_of_ble_eq_true rfl) (Nat.le_of_ble_eq_true rfl) dL_piece_18 ?_
    exact Or.inl ⟨hcd, rfl, rfl⟩

theorem k_L_count_0 : Cond.classLink RL 13 "java/lang/IndexOutOfBoundsException" ∈ wsL_count := by decide +kernel
set_option maxHeartbeats 4000000 in
set_option maxRecDepth 100000 in
theorem c_L_count (l : Launch) (hl9 : l.stackTraces = false) (D : va_G) (tys : List (ClassId × FieldType)) (cI cP cL : ClassId) (ht0 : tys[0]? = some (cI, .int)) (ht1 : tys[1]? = some (cP, .object RX0)) (ht2 : tys[2]? = some (cL, .long)) (h a1 a2 a3 a4 a5 a6 a7 np hr : Nat) (wet cover sun fs mk fd : Nat → Int32) (pcs : Nat → Option Nat) (pa : Nat → Nat) (P : Nat → Pd) (o : Nat) (g : Nat → Int64) (Z : va_W) (hnp : np ≤ 100) (hpc : ∀ k, k < np → pcs k = some (pa k)) (hg : Pok np P) (w9 : Int32) : gM l yL_count wsL_count ({ frames := 7, cells := 2, slots := 14, locals := 158 } : Room) D tys [.ref h, .int w9, .ref o] ((h, .inr (1, [.ref a1, .ref a2, .ref a3, .ref a4, .int (nI np), .int (nI hr), .ref a5, .ref a6, .ref a7])) :: (a1, .inl (cI, 80, .inl (wet))) :: (a2, .inl (cI, 80, .inl (cover))) :: (a3, .inl (cI, 8, .inl (sun))) :: (a4, .inl (cP, 100, .inr (.inr (.inr (.inr (pcs)))))) :: (a5, .inl (cI, 80, .inl (fs))) :: (a6, .inl (cI, 80, .inl (mk))) :: (a7, .inl (cI, 80, .inl (fd))) :: (plist pa P np ++ ((o, .inl (cL, 1, .inr (.inl (g)))) :: Z))) (gHo (cdCo w9) (fun wX => wX = ((h, .inr (1, [.ref a1, .ref a2, .ref a3, .ref a4, .int (nI np), .int (nI hr), .ref a5, .ref a6, .ref a7])) :: (a1, .inl (cI, 80, .inl (wet))) :: (a2, .inl (cI, 80, .inl (cover))) :: (a3, .inl (cI, 8, .inl (sun))) :: (a4, .inl (cP, 100, .inr (.inr (.inr (.inr (pcs)))))) :: (a5, .inl (cI, 80, .inl (fs))) :: (a6, .inl (cI, 80, .inl ((cntW cover mk fd (vn w9)).1))) :: (a7, .inl (cI, 80, .inl ((cntW cover mk fd (vn w9)).2))) :: (plist pa P np ++ ((o, .inl (cL, 1, .inr (.inl (vp_updL g 0 ((cntf np hr P wet cover fd (vn w9)).toInt64))))) :: Z)))) ((h, .inr (1, [.ref a1, .ref a2, .ref a3, .ref a4, .int (nI np), .int (nI hr), .ref a5, .ref a6, .ref a7])) :: (a1, .inl (cI, 80, .inl (wet))) :: (a2, .inl (cI, 80, .inl (cover))) :: (a3, .inl (cI, 8, .inl (sun))) :: (a4, .inl (cP, 100, .inr (.inr (.inr (.inr (pcs)))))) :: (a5, .inl (cI, 80, .inl (fs))) :: (a6, .inl (cI, 80, .inl (mk))) :: (a7, .inl (cI, 80, .inl (fd))) :: (plist pa P np ++ ((o, .inl (cL, 1, .inr (.inl (g)))) :: Z)))) 2 14 := by
  refine gM_ofW (by decide +kernel) rfl (Nat.le_of_ble_eq_true rfl) ?_
  intro p e s m args below meth c A Q C hT hQ
  refine g_sub [0, 1, 2] (lv' := [(0, .ref h), (1, .int w9), (2, .ref o)]) rfl ?_
  refine g_aload_n C dL_count_0 rfl 2 rfl ?_
  refine g_iconst (v := 0) C dL_count_1 (by decide) ?_
  refine g_aload_n C dL_count_2 rfl 0 rfl ?_
  refine g_iload_n C dL_count_3 rfl 1 rfl ?_
  refine g_callVx (ci := 1) (Cn := RX1) (As := [.int w9]) (rest := [.int 0, .ref o]) C gm0 rfl rfl (c_X1_count l hl9 D tys cI cP ht0 ht1 h a1 a2 a3 a4 a5 a6 a7 np hr wet cover sun fs mk fd pcs pa P ((o, .inl (cL, 1, .inr (.inl (g)))) :: Z) hnp hpc hg w9) (cwV 1 C.ts gL_count_X1_count rfl rfl rfl (by decide +kernel) ⟨(Nat.le_of_ble_eq_true rfl), (Nat.le_of_ble_eq_true rfl)⟩) rfl rfl (Nat.le_of_ble_eq_true rfl) dL_count_4 (Nat.le_of_ble_eq_true rfl) (Nat.le_of_ble_eq_true rfl) ?_ ?_
  · intro E hE
    obtain ⟨hc, rfl⟩ := cdE1 hE
    · refine gH_0 C hT  (by decide) (by decide) k_L_count_0 (by decide +kernel) (fun q9 => ?_)
      refine g_astore_n (lv' := [(3, .ref q9), (0, .ref h), (1, .int w9), (2, .ref o)]) C dL_count_12 rfl (by decide) rfl ?_
      refine g_iconst (v := 1) C dL_count_13 (by decide) ?_
      refine g_iret C hQ (Nat.le_of_ble_eq_true rfl) (Nat.le_of_ble_eq_true rfl) dL_count_14 ?_
      exact Or.inr ⟨by rw [hc]; decide, by rw [hc]; rfl, rfl⟩
  · intro vq wq hq9
    obtain ⟨hcd, rfl, rfl⟩ := hq9
    refine g_i2l C dL_count_7 ?_
    refine g_last (ws' := ((h, .inr (1, [.ref a1, .ref a2, .ref a3, .ref a4, .int (nI np), .int (nI hr), .ref a5, .ref a6, .ref a7])) :: (a1, .inl (cI, 80, .inl (wet))) :: (a2, .inl (cI, 80, .inl (cover))) :: (a3, .inl (cI, 8, .inl (sun))) :: (a4, .inl (cP, 100, .inr (.inr (.inr (.inr (pcs)))))) :: (a5, .inl (cI, 80, .inl (fs))) :: (a6, .inl (cI, 80, .inl ((cntW cover mk fd (vn w9)).1))) :: (a7, .inl (cI, 80, .inl ((cntW cover mk fd (vn w9)).2))) :: (plist pa P np ++ ((o, .inl (cL, 1, .inr (.inl (vp_updL g 0 ((cntf np hr P wet cover fd (vn w9)).toInt64))))) :: Z)))) C (np + 8) 2 og ht2 (vp_in_nI (n := 0) (by omega) (by omega)) dL_count_8 os ?_
    refine g_goto (tgt := 15) C dL_count_9 (by decide) ?_
    refine g_iconst (v := 0) C dL_count_15 (by decide) ?_
    refine g_iret C hQ (Nat.le_of_ble_eq_true rfl) (Nat.le_of_ble_eq_true rfl) dL_count_16 ?_
    exact Or.inl ⟨hcd, rfl, rfl⟩

theorem k_L_off_0 : Cond.classLink RL 15 "java/lang/IllegalArgumentException" ∈ wsL_off := by decide +kernel
set_option maxHeartbeats 4000000 in
set_option maxRecDepth 100000 in
theorem c_L_off (l : Launch) (hl9 : l.stackTraces = false) (D : va_G) (tys : List (ClassId × FieldType)) (cI cP cL : ClassId) (ht0 : tys[0]? = some (cI, .int)) (ht1 : tys[1]? = some (cP, .object RX0)) (ht2 : tys[2]? = some (cL, .long)) (h a1 a2 a3 a4 a5 a6 a7 np hr : Nat) (wet cover sun fs mk fd : Nat → Int32) (pcs : Nat → Option Nat) (pa : Nat → Nat) (P : Nat → Pd) (o : Nat) (g : Nat → Int64) (Z : va_W) (hnp : np ≤ 100) (hpc : ∀ k, k < np → pcs k = some (pa k)) (hg : Pok np P) (k9 a b : Int32) : gM l yL_off wsL_off ({ frames := 8, cells := 2, slots := 14, locals := 145 } : Room) D tys [.ref h, .int k9, .int a, .int b, .ref o] ((h, .inr (1, [.ref a1, .ref a2, .ref a3, .ref a4, .int (nI np), .int (nI hr), .ref a5, .ref a6, .ref a7])) :: (a1, .inl (cI, 80, .inl (wet))) :: (a2, .inl (cI, 80, .inl (cover))) :: (a3, .inl (cI, 8, .inl (sun))) :: (a4, .inl (cP, 100, .inr (.inr (.inr (.inr (pcs)))))) :: (a5, .inl (cI, 80, .inl (fs))) :: (a6, .inl (cI, 80, .inl (mk))) :: (a7, .inl (cI, 80, .inl (fd))) :: (plist pa P np ++ ((o, .inl (cL, 1, .inr (.inl (g)))) :: Z))) (gHo (cdP k9 a b) (fun wX => wX = ((h, .inr (1, [.ref a1, .ref a2, .ref a3, .ref a4, .int (nI np), .int (nI hr), .ref a5, .ref a6, .ref a7])) :: (a1, .inl (cI, 80, .inl (wet))) :: (a2, .inl (cI, 80, .inl (cover))) :: (a3, .inl (cI, 8, .inl (sun))) :: (a4, .inl (cP, 100, .inr (.inr (.inr (.inr (pcs)))))) :: (a5, .inl (cI, 80, .inl (fs))) :: (a6, .inl (cI, 80, .inl (mk))) :: (a7, .inl (cI, 80, .inl (fd))) :: (plist pa P np ++ ((o, .inl (cL, 1, .inr (.inl (vp_updL g 0 ((nI (cnt (offB np P cover (vn k9) a b) 80)).toInt64))))) :: Z)))) ((h, .inr (1, [.ref a1, .ref a2, .ref a3, .ref a4, .int (nI np), .int (nI hr), .ref a5, .ref a6, .ref a7])) :: (a1, .inl (cI, 80, .inl (wet))) :: (a2, .inl (cI, 80, .inl (cover))) :: (a3, .inl (cI, 8, .inl (sun))) :: (a4, .inl (cP, 100, .inr (.inr (.inr (.inr (pcs)))))) :: (a5, .inl (cI, 80, .inl (fs))) :: (a6, .inl (cI, 80, .inl (mk))) :: (a7, .inl (cI, 80, .inl (fd))) :: (plist pa P np ++ ((o, .inl (cL, 1, .inr (.inl (g)))) :: Z)))) 2 14 := by
  refine gM_ofW (by decide +kernel) rfl (Nat.le_of_ble_eq_true rfl) ?_
  intro p e s m args below meth c A Q C hT hQ
  refine g_sub [0, 1, 2, 3, 4] (lv' := [(0, .ref h), (1, .int k9), (2, .int a), (3, .int b), (4, .ref o)]) rfl ?_
  refine g_aload C dL_off_0 4 rfl ?_
  refine g_iconst (v := 0) C dL_off_2 (by decide) ?_
  refine g_aload_n C dL_off_3 rfl 0 rfl ?_
  refine g_iload_n C dL_off_4 rfl 1 rfl ?_
  refine g_iload_n C dL_off_5 rfl 2 rfl ?_
  refine g_iload_n C dL_off_6 rfl 3 rfl ?_
  refine g_callVx (ci := 1) (Cn := RX1) (As := [.int k9, .int a, .int b]) (rest := [.int 0, .ref o]) C gm0 rfl rfl (c_X1_off l hl9 D tys cI cP ht0 ht1 h a1 a2 a3 a4 a5 a6 a7 np hr wet cover sun fs mk fd pcs pa P ((o, .inl (cL, 1, .inr (.inl (g)))) :: Z) hnp hpc hg k9 a b) (cwV 3 C.ts gL_off_X1_off rfl rfl rfl (by decide +kernel) ⟨(Nat.le_of_ble_eq_true rfl), (Nat.le_of_ble_eq_true rfl)⟩) rfl rfl (Nat.le_of_ble_eq_true rfl) dL_off_7 (Nat.le_of_ble_eq_true rfl) (Nat.le_of_ble_eq_true rfl) ?_ ?_
  · intro E hE
    obtain ⟨hc, rfl⟩ := cdE1 hE
    · refine gH_0 C hT  (by decide) (by decide) k_L_off_0 (by decide +kernel) (fun q9 => ?_)
      refine g_astore (lv' := [(5, .ref q9), (0, .ref h), (1, .int k9), (2, .int a), (3, .int b), (4, .ref o)]) C dL_off_15 (by decide) rfl ?_
      refine g_iconst (v := 1) C dL_off_17 (by decide) ?_
      refine g_iret C hQ (Nat.le_of_ble_eq_true rfl) (Nat.le_of_ble_eq_true rfl) dL_off_18 ?_
      exact Or.inr ⟨by rw [hc]; decide, by rw [hc]; rfl, rfl⟩
  · intro vq wq hq9
    obtain ⟨hcd, rfl, rfl⟩ := hq9
    refine g_i2l C dL_off_10 ?_
    refine g_last (ws' := ((h, .inr (1, [.ref a1, .ref a2, .ref a3, .ref a4, .int (nI np), .int (nI hr), .ref a5, .ref a6, .ref a7])) :: (a1, .inl (cI, 80, .inl (wet))) :: (a2, .inl (cI, 80, .inl (cover))) :: (a3, .inl (cI, 8, .inl (sun))) :: (a4, .inl (cP, 100, .inr (.inr (.inr (.inr (pcs)))))) :: (a5, .inl (cI, 80, .inl (fs))) :: (a6, .inl (cI, 80, .inl (mk))) :: (a7, .inl (cI, 80, .inl (fd))) :: (plist pa P np ++ ((o, .inl (cL, 1, .inr (.inl (vp_updL g 0 ((nI (cnt (offB np P cover (vn k9) a b) 80)).toInt64))))) :: Z)))) C (np + 8) 2 og ht2 (vp_in_nI (n := 0) (by omega) (by omega)) dL_off_11 os ?_
    refine g_goto (tgt := 19) C dL_off_12 (by decide) ?_
    refine g_iconst (v := 0) C dL_off_19 (by decide) ?_
    refine g_iret C hQ (Nat.le_of_ble_eq_true rfl) (Nat.le_of_ble_eq_true rfl) dL_off_20 ?_
    exact Or.inl ⟨hcd, rfl, rfl⟩

theorem k_L_advise_0 : Cond.classLink RL 15 "java/lang/IllegalArgumentException" ∈ wsL_advise := by decide +kernel
set_option maxHeartbeats 4000000 in
set_option maxRecDepth 100000 in
theorem c_L_advise (l : Launch) (hl9 : l.stackTraces = false) (D : va_G) (tys : List (ClassId × FieldType)) (cI cP cL : ClassId) (ht0 : tys[0]? = some (cI, .int)) (ht1 : tys[1]? = some (cP, .object RX0)) (ht2 : tys[2]? = some (cL, .long)) (h a1 a2 a3 a4 a5 a6 a7 np hr : Nat) (wet cover sun fs mk fd : Nat → Int32) (pcs : Nat → Option Nat) (pa : Nat → Nat) (P : Nat → Pd) (o : Nat) (g : Nat → Int64) (Z : va_W) (hnp : np ≤ 100) (hpc : ∀ k, k < np → pcs k = some (pa k)) (hg : Pok np P) (k9 a b : Int32) : gM l yL_advise wsL_advise ({ frames := 8, cells := 2, slots := 14, locals := 170 } : Room) D tys [.ref h, .int k9, .int a, .int b, .ref o] ((h, .inr (1, [.ref a1, .ref a2, .ref a3, .ref a4, .int (nI np), .int (nI hr), .ref a5, .ref a6, .ref a7])) :: (a1, .inl (cI, 80, .inl (wet))) :: (a2, .inl (cI, 80, .inl (cover))) :: (a3, .inl (cI, 8, .inl (sun))) :: (a4, .inl (cP, 100, .inr (.inr (.inr (.inr (pcs)))))) :: (a5, .inl (cI, 80, .inl (fs))) :: (a6, .inl (cI, 80, .inl (mk))) :: (a7, .inl (cI, 80, .inl (fd))) :: (plist pa P np ++ ((o, .inl (cL, 1, .inr (.inl (g)))) :: Z))) (gHo (cdP k9 a b) (fun wX => wX = ((h, .inr (1, [.ref a1, .ref a2, .ref a3, .ref a4, .int (nI np), .int (nI hr), .ref a5, .ref a6, .ref a7])) :: (a1, .inl (cI, 80, .inl (wet))) :: (a2, .inl (cI, 80, .inl (cover))) :: (a3, .inl (cI, 8, .inl (sun))) :: (a4, .inl (cP, 100, .inr (.inr (.inr (.inr (pcs)))))) :: (a5, .inl (cI, 80, .inl (fs))) :: (a6, .inl (cI, 80, .inl (mk))) :: (a7, .inl (cI, 80, .inl (fd))) :: (plist pa P np ++ ((o, .inl (cL, 1, .inr (.inl (vp_updL g 0 (((advS np P wet cover (vn k9) a b np).1).toInt64))))) :: Z)))) ((h, .inr (1, [.ref a1, .ref a2, .ref a3, .ref a4, .int (nI np), .int (nI hr), .ref a5, .ref a6, .ref a7])) :: (a1, .inl (cI, 80, .inl (wet))) :: (a2, .inl (cI, 80, .inl (cover))) :: (a3, .inl (cI, 8, .inl (sun))) :: (a4, .inl (cP, 100, .inr (.inr (.inr (.inr (pcs)))))) :: (a5, .inl (cI, 80, .inl (fs))) :: (a6, .inl (cI, 80, .inl (mk))) :: (a7, .inl (cI, 80, .inl (fd))) :: (plist pa P np ++ ((o, .inl (cL, 1, .inr (.inl (g)))) :: Z)))) 2 14 := by
  refine gM_ofW (by decide +kernel) rfl (Nat.le_of_ble_eq_true rfl) ?_
  intro p e s m args below meth c A Q C hT hQ
  refine g_sub [0, 1, 2, 3, 4] (lv' := [(0, .ref h), (1, .int k9), (2, .int a), (3, .int b), (4, .ref o)]) rfl ?_
  refine g_aload C dL_advise_0 4 rfl ?_
  refine g_iconst (v := 0) C dL_advise_2 (by decide) ?_
  refine g_aload_n C dL_advise_3 rfl 0 rfl ?_
  refine g_iload_n C dL_advise_4 rfl 1 rfl ?_
  refine g_iload_n C dL_advise_5 rfl 2 rfl ?_
  refine g_iload_n C dL_advise_6 rfl 3 rfl ?_
  refine g_callVx (ci := 1) (Cn := RX1) (As := [.int k9, .int a, .int b]) (rest := [.int 0, .ref o]) C gm0 rfl rfl (c_X1_advise l hl9 D tys cI cP ht0 ht1 h a1 a2 a3 a4 a5 a6 a7 np hr wet cover sun fs mk fd pcs pa P ((o, .inl (cL, 1, .inr (.inl (g)))) :: Z) hnp hpc hg k9 a b) (cwV 3 C.ts gL_advise_X1_advise rfl rfl rfl (by decide +kernel) ⟨(Nat.le_of_ble_eq_true rfl), (Nat.le_of_ble_eq_true rfl)⟩) rfl rfl (Nat.le_of_ble_eq_true rfl) dL_advise_7 (Nat.le_of_ble_eq_true rfl) (Nat.le_of_ble_eq_true rfl) ?_ ?_
  · intro E hE
    obtain ⟨hc, rfl⟩ := cdE1 hE
    · refine gH_0 C hT  (by decide) (by decide) k_L_advise_0 (by decide +kernel) (fun q9 => ?_)
      refine g_astore (lv' := [(5, .ref q9), (0, .ref h), (1, .int k9), (2, .int a), (3, .int b), (4, .ref o)]) C dL_advise_15 (by decide) rfl ?_
      refine g_iconst (v := 1) C dL_advise_17 (by decide) ?_
      refine g_iret C hQ (Nat.le_of_ble_eq_true rfl) (Nat.le_of_ble_eq_true rfl) dL_advise_18 ?_
      exact Or.inr ⟨by rw [hc]; decide, by rw [hc]; rfl, rfl⟩
  · intro vq wq hq9
    obtain ⟨hcd, rfl, rfl⟩ := hq9
    refine g_i2l C dL_advise_10 ?_
    refine g_last (ws' := ((h, .inr (1, [.ref a1, .ref a2, .ref a3, .ref a4, .int (nI np), .int (nI hr), .ref a5, .ref a6, .ref a7])) :: (a1, .inl (cI, 80, .inl (wet))) :: (a2, .inl (cI, 80, .inl (cover))) :: (a3, .inl (cI, 8, .inl (sun))) :: (a4, .inl (cP, 100, .inr (.inr (.inr (.inr (pcs)))))) :: (a5, .inl (cI, 80, .inl (fs))) :: (a6, .inl (cI, 80, .inl (mk))) :: (a7, .inl (cI, 80, .inl (fd))) :: (plist pa P np ++ ((o, .inl (cL, 1, .inr (.inl (vp_updL g 0 (((advS np P wet cover (vn k9) a b np).1).toInt64))))) :: Z)))) C (np + 8) 2 og ht2 (vp_in_nI (n := 0) (by omega) (by omega)) dL_advise_11 os ?_
    refine g_goto (tgt := 19) C dL_advise_12 (by decide) ?_
    refine g_iconst (v := 0) C dL_advise_19 (by decide) ?_
    refine g_iret C hQ (Nat.le_of_ble_eq_true rfl) (Nat.le_of_ble_eq_true rfl) dL_advise_20 ?_
    exact Or.inl ⟨hcd, rfl, rfl⟩

theorem k_L_mends_0 : Cond.classLink RL 13 "java/lang/IndexOutOfBoundsException" ∈ wsL_mends := by decide +kernel
set_option maxHeartbeats 4000000 in
set_option maxRecDepth 100000 in
theorem c_L_mends (l : Launch) (hl9 : l.stackTraces = false) (D : va_G) (tys : List (ClassId × FieldType)) (cI cP cL : ClassId) (ht0 : tys[0]? = some (cI, .int)) (ht1 : tys[1]? = some (cP, .object RX0)) (ht2 : tys[2]? = some (cL, .long)) (h a1 a2 a3 a4 a5 a6 a7 np hr : Nat) (wet cover sun fs mk fd : Nat → Int32) (pcs : Nat → Option Nat) (pa : Nat → Nat) (P : Nat → Pd) (o : Nat) (g : Nat → Int64) (Z : va_W) (hnp : np ≤ 100) (hpc : ∀ k, k < np → pcs k = some (pa k)) (hg : Pok np P) (x y : Int32) (ac : Bool) : gM l yL_mends wsL_mends ({ frames := 8, cells := 2, slots := 14, locals := 144 } : Room) D tys [.ref h, .int x, .int y, .int (gz ac), .ref o] ((h, .inr (1, [.ref a1, .ref a2, .ref a3, .ref a4, .int (nI np), .int (nI hr), .ref a5, .ref a6, .ref a7])) :: (a1, .inl (cI, 80, .inl (wet))) :: (a2, .inl (cI, 80, .inl (cover))) :: (a3, .inl (cI, 8, .inl (sun))) :: (a4, .inl (cP, 100, .inr (.inr (.inr (.inr (pcs)))))) :: (a5, .inl (cI, 80, .inl (fs))) :: (a6, .inl (cI, 80, .inl (mk))) :: (a7, .inl (cI, 80, .inl (fd))) :: (plist pa P np ++ ((o, .inl (cL, 1, .inr (.inl (g)))) :: Z))) (gHo (cdO x y) (fun wX => wX = ((h, .inr (1, [.ref a1, .ref a2, .ref a3, .ref a4, .int (nI np), .int (nI hr), .ref a5, .ref a6, .ref a7])) :: (a1, .inl (cI, 80, .inl (wet))) :: (a2, .inl (cI, 80, .inl (cover))) :: (a3, .inl (cI, 8, .inl (sun))) :: (a4, .inl (cP, 100, .inr (.inr (.inr (.inr (pcs)))))) :: (a5, .inl (cI, 80, .inl (fs))) :: (a6, .inl (cI, 80, .inl ((mgp cover x y (fun _ => 0) fd).1))) :: (a7, .inl (cI, 80, .inl ((mgp cover x y (fun _ => 0) fd).2.1))) :: (plist pa P np ++ ((o, .inl (cL, 1, .inr (.inl (vp_updL g 0 ((nI (pfm (mgp cover x y (fun _ => 0) fd).1 ac)).toInt64))))) :: Z)))) ((h, .inr (1, [.ref a1, .ref a2, .ref a3, .ref a4, .int (nI np), .int (nI hr), .ref a5, .ref a6, .ref a7])) :: (a1, .inl (cI, 80, .inl (wet))) :: (a2, .inl (cI, 80, .inl (cover))) :: (a3, .inl (cI, 8, .inl (sun))) :: (a4, .inl (cP, 100, .inr (.inr (.inr (.inr (pcs)))))) :: (a5, .inl (cI, 80, .inl (fs))) :: (a6, .inl (cI, 80, .inl (mk))) :: (a7, .inl (cI, 80, .inl (fd))) :: (plist pa P np ++ ((o, .inl (cL, 1, .inr (.inl (g)))) :: Z)))) 2 14 := by
  refine gM_ofW (by decide +kernel) rfl (Nat.le_of_ble_eq_true rfl) ?_
  intro p e s m args below meth c A Q C hT hQ
  refine g_sub [0, 1, 2, 3, 4] (lv' := [(0, .ref h), (1, .int x), (2, .int y), (3, .int (gz ac)), (4, .ref o)]) rfl ?_
  refine g_aload C dL_mends_0 4 rfl ?_
  refine g_iconst (v := 0) C dL_mends_2 (by decide) ?_
  refine g_aload_n C dL_mends_3 rfl 0 rfl ?_
  refine g_iload_n C dL_mends_4 rfl 1 rfl ?_
  refine g_iload_n C dL_mends_5 rfl 2 rfl ?_
  refine g_iload_n C dL_mends_6 rfl 3 rfl ?_
  refine g_callVx (ci := 1) (Cn := RX1) (As := [.int x, .int y, .int (gz ac)]) (rest := [.int 0, .ref o]) C gm0 rfl rfl (c_X1_mends l hl9 D tys cI cP ht0 ht1 h a1 a2 a3 a4 a5 a6 a7 np hr wet cover sun fs mk fd pcs pa P ((o, .inl (cL, 1, .inr (.inl (g)))) :: Z) hnp hpc hg x y ac) (cwV 3 C.ts gL_mends_X1_mends rfl rfl rfl (by decide +kernel) ⟨(Nat.le_of_ble_eq_true rfl), (Nat.le_of_ble_eq_true rfl)⟩) rfl rfl (Nat.le_of_ble_eq_true rfl) dL_mends_7 (Nat.le_of_ble_eq_true rfl) (Nat.le_of_ble_eq_true rfl) ?_ ?_
  · intro E hE
    obtain ⟨hc, rfl⟩ := cdE1 hE
    · refine gH_0 C hT  (by decide) (by decide) k_L_mends_0 (by decide +kernel) (fun q9 => ?_)
      refine g_astore (lv' := [(5, .ref q9), (0, .ref h), (1, .int x), (2, .int y), (3, .int (gz ac)), (4, .ref o)]) C dL_mends_15 (by decide) rfl ?_
      refine g_iconst (v := 1) C dL_mends_17 (by decide) ?_
      refine g_iret C hQ (Nat.le_of_ble_eq_true rfl) (Nat.le_of_ble_eq_true rfl) dL_mends_18 ?_
      exact Or.inr ⟨by rw [hc]; decide, by rw [hc]; rfl, rfl⟩
  · intro vq wq hq9
    obtain ⟨hcd, rfl, rfl⟩ := hq9
    refine g_i2l C dL_mends_10 ?_
    refine g_last (ws' := ((h, .inr (1, [.ref a1, .ref a2, .ref a3, .ref a4, .int (nI np), .int (nI hr), .ref a5, .ref a6, .ref a7])) :: (a1, .inl (cI, 80, .inl (wet))) :: (a2, .inl (cI, 80, .inl (cover))) :: (a3, .inl (cI, 8, .inl (sun))) :: (a4, .inl (cP, 100, .inr (.inr (.inr (.inr (pcs)))))) :: (a5, .inl (cI, 80, .inl (fs))) :: (a6, .inl (cI, 80, .inl ((mgp cover x y (fun _ => 0) fd).1))) :: (a7, .inl (cI, 80, .inl ((mgp cover x y (fun _ => 0) fd).2.1))) :: (plist pa P np ++ ((o, .inl (cL, 1, .inr (.inl (vp_updL g 0 ((nI (pfm (mgp cover x y (fun _ => 0) fd).1 ac)).toInt64))))) :: Z)))) C (np + 8) 2 og ht2 (vp_in_nI (n := 0) (by omega) (by omega)) dL_mends_11 os ?_
    refine g_goto (tgt := 19) C dL_mends_12 (by decide) ?_
    refine g_iconst (v := 0) C dL_mends_19 (by decide) ?_
    refine g_iret C hQ (Nat.le_of_ble_eq_true rfl) (Nat.le_of_ble_eq_true rfl) dL_mends_20 ?_
    exact Or.inl ⟨hcd, rfl, rfl⟩

theorem k_L_gap_0 : Cond.classLink RL 13 "java/lang/IndexOutOfBoundsException" ∈ wsL_gap := by decide +kernel
set_option maxHeartbeats 4000000 in
set_option maxRecDepth 100000 in
theorem c_L_gap (l : Launch) (hl9 : l.stackTraces = false) (D : va_G) (tys : List (ClassId × FieldType)) (cI cP cL : ClassId) (ht0 : tys[0]? = some (cI, .int)) (ht1 : tys[1]? = some (cP, .object RX0)) (ht2 : tys[2]? = some (cL, .long)) (h a1 a2 a3 a4 a5 a6 a7 np hr : Nat) (wet cover sun fs mk fd : Nat → Int32) (pcs : Nat → Option Nat) (pa : Nat → Nat) (P : Nat → Pd) (o : Nat) (g : Nat → Int64) (Z : va_W) (hnp : np ≤ 100) (hpc : ∀ k, k < np → pcs k = some (pa k)) (hg : Pok np P) (x y : Int32) : gM l yL_gap wsL_gap ({ frames := 8, cells := 2, slots := 14, locals := 143 } : Room) D tys [.ref h, .int x, .int y, .ref o] ((h, .inr (1, [.ref a1, .ref a2, .ref a3, .ref a4, .int (nI np), .int (nI hr), .ref a5, .ref a6, .ref a7])) :: (a1, .inl (cI, 80, .inl (wet))) :: (a2, .inl (cI, 80, .inl (cover))) :: (a3, .inl (cI, 8, .inl (sun))) :: (a4, .inl (cP, 100, .inr (.inr (.inr (.inr (pcs)))))) :: (a5, .inl (cI, 80, .inl (fs))) :: (a6, .inl (cI, 80, .inl (mk))) :: (a7, .inl (cI, 80, .inl (fd))) :: (plist pa P np ++ ((o, .inl (cL, 1, .inr (.inl (g)))) :: Z))) (gHo (cdO x y) (fun wX => wX = ((h, .inr (1, [.ref a1, .ref a2, .ref a3, .ref a4, .int (nI np), .int (nI hr), .ref a5, .ref a6, .ref a7])) :: (a1, .inl (cI, 80, .inl (wet))) :: (a2, .inl (cI, 80, .inl (cover))) :: (a3, .inl (cI, 8, .inl (sun))) :: (a4, .inl (cP, 100, .inr (.inr (.inr (.inr (pcs)))))) :: (a5, .inl (cI, 80, .inl (fs))) :: (a6, .inl (cI, 80, .inl ((mgp cover x y (fun _ => 0) fd).1))) :: (a7, .inl (cI, 80, .inl ((mgp cover x y (fun _ => 0) fd).2.1))) :: (plist pa P np ++ ((o, .inl (cL, 1, .inr (.inl (vp_updL g 0 ((nI (mgp cover x y (fun _ => 0) fd).2.2).toInt64))))) :: Z)))) ((h, .inr (1, [.ref a1, .ref a2, .ref a3, .ref a4, .int (nI np), .int (nI hr), .ref a5, .ref a6, .ref a7])) :: (a1, .inl (cI, 80, .inl (wet))) :: (a2, .inl (cI, 80, .inl (cover))) :: (a3, .inl (cI, 8, .inl (sun))) :: (a4, .inl (cP, 100, .inr (.inr (.inr (.inr (pcs)))))) :: (a5, .inl (cI, 80, .inl (fs))) :: (a6, .inl (cI, 80, .inl (mk))) :: (a7, .inl (cI, 80, .inl (fd))) :: (plist pa P np ++ ((o, .inl (cL, 1, .inr (.inl (g)))) :: Z)))) 2 14 := by
  refine gM_ofW (by decide +kernel) rfl (Nat.le_of_ble_eq_true rfl) ?_
  intro p e s m args below meth c A Q C hT hQ
  refine g_sub [0, 1, 2, 3] (lv' := [(0, .ref h), (1, .int x), (2, .int y), (3, .ref o)]) rfl ?_
  refine g_aload_n C dL_gap_0 rfl 3 rfl ?_
  refine g_iconst (v := 0) C dL_gap_1 (by decide) ?_
  refine g_aload_n C dL_gap_2 rfl 0 rfl ?_
  refine g_iload_n C dL_gap_3 rfl 1 rfl ?_
  refine g_iload_n C dL_gap_4 rfl 2 rfl ?_
  refine g_callVx (ci := 1) (Cn := RX1) (As := [.int x, .int y]) (rest := [.int 0, .ref o]) C gm0 rfl rfl (c_X1_gap l hl9 D tys cI cP ht0 ht1 h a1 a2 a3 a4 a5 a6 a7 np hr wet cover sun fs mk fd pcs pa P ((o, .inl (cL, 1, .inr (.inl (g)))) :: Z) hnp hpc hg x y) (cwV 2 C.ts gL_gap_X1_gap rfl rfl rfl (by decide +kernel) ⟨(Nat.le_of_ble_eq_true rfl), (Nat.le_of_ble_eq_true rfl)⟩) rfl rfl (Nat.le_of_ble_eq_true rfl) dL_gap_5 (Nat.le_of_ble_eq_true rfl) (Nat.le_of_ble_eq_true rfl) ?_ ?_
  · intro E hE
    obtain ⟨hc, rfl⟩ := cdE1 hE
    · refine gH_0 C hT  (by decide) (by decide) k_L_gap_0 (by decide +kernel) (fun q9 => ?_)
      refine g_astore (lv' := [(4, .ref q9), (0, .ref h), (1, .int x), (2, .int y), (3, .ref o)]) C dL_gap_13 (by decide) rfl ?_
      refine g_iconst (v := 1) C dL_gap_15 (by decide) ?_
      refine g_iret C hQ (Nat.le_of_ble_eq_true rfl) (Nat.le_of_ble_eq_true rfl) dL_gap_16 ?_
      exact Or.inr ⟨by rw [hc]; decide, by rw [hc]; rfl, rfl⟩
  · intro vq wq hq9
    obtain ⟨hcd, rfl, rfl⟩ := hq9
    refine g_i2l C dL_gap_8 ?_
    refine g_last (ws' := ((h, .inr (1, [.ref a1, .ref a2, .ref a3, .ref a4, .int (nI np), .int (nI hr), .ref a5, .ref a6, .ref a7])) :: (a1, .inl (cI, 80, .inl (wet))) :: (a2, .inl (cI, 80, .inl (cover))) :: (a3, .inl (cI, 8, .inl (sun))) :: (a4, .inl (cP, 100, .inr (.inr (.inr (.inr (pcs)))))) :: (a5, .inl (cI, 80, .inl (fs))) :: (a6, .inl (cI, 80, .inl ((mgp cover x y (fun _ => 0) fd).1))) :: (a7, .inl (cI, 80, .inl ((mgp cover x y (fun _ => 0) fd).2.1))) :: (plist pa P np ++ ((o, .inl (cL, 1, .inr (.inl (vp_updL g 0 ((nI (mgp cover x y (fun _ => 0) fd).2.2).toInt64))))) :: Z)))) C (np + 8) 2 og ht2 (vp_in_nI (n := 0) (by omega) (by omega)) dL_gap_9 os ?_
    refine g_goto (tgt := 17) C dL_gap_10 (by decide) ?_
    refine g_iconst (v := 0) C dL_gap_17 (by decide) ?_
    refine g_iret C hQ (Nat.le_of_ble_eq_true rfl) (Nat.le_of_ble_eq_true rfl) dL_gap_18 ?_
    exact Or.inl ⟨hcd, rfl, rfl⟩

theorem k_L_pass_0 : Cond.classLink RL 15 "java/lang/IllegalArgumentException" ∈ wsL_pass := by decide +kernel
set_option maxHeartbeats 4000000 in
set_option maxRecDepth 100000 in
theorem c_L_pass (l : Launch) (hl9 : l.stackTraces = false) (D : va_G) (tys : List (ClassId × FieldType)) (cI cP cL : ClassId) (ht0 : tys[0]? = some (cI, .int)) (ht1 : tys[1]? = some (cP, .object RX0)) (ht2 : tys[2]? = some (cL, .long)) (h a1 a2 a3 a4 a5 a6 a7 np hr : Nat) (wet cover sun fs mk fd : Nat → Int32) (pcs : Nat → Option Nat) (pa : Nat → Nat) (P : Nat → Pd) (o : Nat) (g : Nat → Int64) (Z : va_W) (hnp : np ≤ 100) (hpc : ∀ k, k < np → pcs k = some (pa k)) (hg : Pok np P) (v : Int32) (hhr : hr < 2 ^ 29) : gM l yL_pass wsL_pass ({ frames := 7, cells := 2, slots := 14, locals := 122 } : Room) D tys [.ref h, .int v, .ref o] ((h, .inr (1, [.ref a1, .ref a2, .ref a3, .ref a4, .int (nI np), .int (nI hr), .ref a5, .ref a6, .ref a7])) :: (a1, .inl (cI, 80, .inl (wet))) :: (a2, .inl (cI, 80, .inl (cover))) :: (a3, .inl (cI, 8, .inl (sun))) :: (a4, .inl (cP, 100, .inr (.inr (.inr (.inr (pcs)))))) :: (a5, .inl (cI, 80, .inl (fs))) :: (a6, .inl (cI, 80, .inl (mk))) :: (a7, .inl (cI, 80, .inl (fd))) :: (plist pa P np ++ ((o, .inl (cL, 1, .inr (.inl (g)))) :: Z))) (gHo (cdPa v) (fun wX => wX = ((h, .inr (1, [.ref a1, .ref a2, .ref a3, .ref a4, .int (nI np), .int (nI (hr + vn v)), .ref a5, .ref a6, .ref a7])) :: (a1, .inl (cI, 80, .inl (wetN wet cover sun hr (vn v)))) :: (a2, .inl (cI, 80, .inl (cover))) :: (a3, .inl (cI, 8, .inl (sun))) :: (a4, .inl (cP, 100, .inr (.inr (.inr (.inr (pcs)))))) :: (a5, .inl (cI, 80, .inl (fs))) :: (a6, .inl (cI, 80, .inl (mk))) :: (a7, .inl (cI, 80, .inl (fd))) :: (plist pa P np ++ ((o, .inl (cL, 1, .inr (.inl (vp_updL g 0 ((nI (cnt (fun k => lsp (P k) (wetN wet cover sun hr (vn v))) np)).toInt64))))) :: Z)))) ((h, .inr (1, [.ref a1, .ref a2, .ref a3, .ref a4, .int (nI np), .int (nI hr), .ref a5, .ref a6, .ref a7])) :: (a1, .inl (cI, 80, .inl (wet))) :: (a2, .inl (cI, 80, .inl (cover))) :: (a3, .inl (cI, 8, .inl (sun))) :: (a4, .inl (cP, 100, .inr (.inr (.inr (.inr (pcs)))))) :: (a5, .inl (cI, 80, .inl (fs))) :: (a6, .inl (cI, 80, .inl (mk))) :: (a7, .inl (cI, 80, .inl (fd))) :: (plist pa P np ++ ((o, .inl (cL, 1, .inr (.inl (g)))) :: Z)))) 2 14 := by
  refine gM_ofW (by decide +kernel) rfl (Nat.le_of_ble_eq_true rfl) ?_
  intro p e s m args below meth c A Q C hT hQ
  refine g_sub [0, 1, 2] (lv' := [(0, .ref h), (1, .int v), (2, .ref o)]) rfl ?_
  refine g_aload_n C dL_pass_0 rfl 2 rfl ?_
  refine g_iconst (v := 0) C dL_pass_1 (by decide) ?_
  refine g_aload_n C dL_pass_2 rfl 0 rfl ?_
  refine g_iload_n C dL_pass_3 rfl 1 rfl ?_
  refine g_callVx (ci := 1) (Cn := RX1) (As := [.int v]) (rest := [.int 0, .ref o]) C gm0 rfl rfl (c_X1_pass l hl9 D tys cI cP ht0 ht1 h a1 a2 a3 a4 a5 a6 a7 np hr wet cover sun fs mk fd pcs pa P ((o, .inl (cL, 1, .inr (.inl (g)))) :: Z) hnp hpc hg v hhr) (cwV 1 C.ts gL_pass_X1_pass rfl rfl rfl (by decide +kernel) ⟨(Nat.le_of_ble_eq_true rfl), (Nat.le_of_ble_eq_true rfl)⟩) rfl rfl (Nat.le_of_ble_eq_true rfl) dL_pass_4 (Nat.le_of_ble_eq_true rfl) (Nat.le_of_ble_eq_true rfl) ?_ ?_
  · intro E hE
    obtain ⟨hc, rfl⟩ := cdE1 hE
    · refine gH_0 C hT  (by decide) (by decide) k_L_pass_0 (by decide +kernel) (fun q9 => ?_)
      refine g_astore_n (lv' := [(3, .ref q9), (0, .ref h), (1, .int v), (2, .ref o)]) C dL_pass_12 rfl (by decide) rfl ?_
      refine g_iconst (v := 1) C dL_pass_13 (by decide) ?_
      refine g_iret C hQ (Nat.le_of_ble_eq_true rfl) (Nat.le_of_ble_eq_true rfl) dL_pass_14 ?_
      exact Or.inr ⟨by rw [hc]; decide, by rw [hc]; rfl, rfl⟩
  · intro vq wq hq9
    obtain ⟨hcd, rfl, rfl⟩ := hq9
    refine g_i2l C dL_pass_7 ?_
    refine g_last (ws' := ((h, .inr (1, [.ref a1, .ref a2, .ref a3, .ref a4, .int (nI np), .int (nI (hr + vn v)), .ref a5, .ref a6, .ref a7])) :: (a1, .inl (cI, 80, .inl (wetN wet cover sun hr (vn v)))) :: (a2, .inl (cI, 80, .inl (cover))) :: (a3, .inl (cI, 8, .inl (sun))) :: (a4, .inl (cP, 100, .inr (.inr (.inr (.inr (pcs)))))) :: (a5, .inl (cI, 80, .inl (fs))) :: (a6, .inl (cI, 80, .inl (mk))) :: (a7, .inl (cI, 80, .inl (fd))) :: (plist pa P np ++ ((o, .inl (cL, 1, .inr (.inl (vp_updL g 0 ((nI (cnt (fun k => lsp (P k) (wetN wet cover sun hr (vn v))) np)).toInt64))))) :: Z)))) C (np + 8) 2 og ht2 (vp_in_nI (n := 0) (by omega) (by omega)) dL_pass_8 os ?_
    refine g_goto (tgt := 15) C dL_pass_9 (by decide) ?_
    refine g_iconst (v := 0) C dL_pass_15 (by decide) ?_
    refine g_iret C hQ (Nat.le_of_ble_eq_true rfl) (Nat.le_of_ble_eq_true rfl) dL_pass_16 ?_
    exact Or.inl ⟨hcd, rfl, rfl⟩

theorem k_L_loose_0 : Cond.classLink RL 13 "java/lang/IndexOutOfBoundsException" ∈ wsL_loose := by decide +kernel
set_option maxHeartbeats 4000000 in
set_option maxRecDepth 100000 in
theorem c_L_loose (l : Launch) (hl9 : l.stackTraces = false) (D : va_G) (tys : List (ClassId × FieldType)) (cI cP cL : ClassId) (ht0 : tys[0]? = some (cI, .int)) (ht1 : tys[1]? = some (cP, .object RX0)) (ht2 : tys[2]? = some (cL, .long)) (h a1 a2 a3 a4 a5 a6 a7 np hr : Nat) (wet cover sun fs mk fd : Nat → Int32) (pcs : Nat → Option Nat) (pa : Nat → Nat) (P : Nat → Pd) (o : Nat) (g : Nat → Int64) (Z : va_W) (hnp : np ≤ 100) (hpc : ∀ k, k < np → pcs k = some (pa k)) (hg : Pok np P) (v : Int32) (hhr : hr < 2 ^ 29) : gM l yL_loose wsL_loose ({ frames := 7, cells := 2, slots := 14, locals := 123 } : Room) D tys [.ref h, .int v, .ref o] ((h, .inr (1, [.ref a1, .ref a2, .ref a3, .ref a4, .int (nI np), .int (nI hr), .ref a5, .ref a6, .ref a7])) :: (a1, .inl (cI, 80, .inl (wet))) :: (a2, .inl (cI, 80, .inl (cover))) :: (a3, .inl (cI, 8, .inl (sun))) :: (a4, .inl (cP, 100, .inr (.inr (.inr (.inr (pcs)))))) :: (a5, .inl (cI, 80, .inl (fs))) :: (a6, .inl (cI, 80, .inl (mk))) :: (a7, .inl (cI, 80, .inl (fd))) :: (plist pa P np ++ ((o, .inl (cL, 1, .inr (.inl (g)))) :: Z))) (gHo (cdLo np v) (fun wX => ∃ fs2, wX = ((h, .inr (1, [.ref a1, .ref a2, .ref a3, .ref a4, .int (nI np), .int (nI hr), .ref a5, .ref a6, .ref a7])) :: (a1, .inl (cI, 80, .inl (wet))) :: (a2, .inl (cI, 80, .inl (cover))) :: (a3, .inl (cI, 8, .inl (sun))) :: (a4, .inl (cP, 100, .inr (.inr (.inr (.inr (pcs)))))) :: (a5, .inl (cI, 80, .inl (fs2))) :: (a6, .inl (cI, 80, .inl (mk))) :: (a7, .inl (cI, 80, .inl (fd))) :: (plist pa P np ++ ((o, .inl (cL, 1, .inr (.inl (vp_updL g 0 ((fstI (fun i => !lsp (P (vn v)) (wetN wet cover sun hr i)) 201 0).toInt64))))) :: Z)))) ((h, .inr (1, [.ref a1, .ref a2, .ref a3, .ref a4, .int (nI np), .int (nI hr), .ref a5, .ref a6, .ref a7])) :: (a1, .inl (cI, 80, .inl (wet))) :: (a2, .inl (cI, 80, .inl (cover))) :: (a3, .inl (cI, 8, .inl (sun))) :: (a4, .inl (cP, 100, .inr (.inr (.inr (.inr (pcs)))))) :: (a5, .inl (cI, 80, .inl (fs))) :: (a6, .inl (cI, 80, .inl (mk))) :: (a7, .inl (cI, 80, .inl (fd))) :: (plist pa P np ++ ((o, .inl (cL, 1, .inr (.inl (g)))) :: Z)))) 2 14 := by
  refine gM_ofW (by decide +kernel) rfl (Nat.le_of_ble_eq_true rfl) ?_
  intro p e s m args below meth c A Q C hT hQ
  refine g_sub [0, 1, 2] (lv' := [(0, .ref h), (1, .int v), (2, .ref o)]) rfl ?_
  refine g_aload_n C dL_loose_0 rfl 2 rfl ?_
  refine g_iconst (v := 0) C dL_loose_1 (by decide) ?_
  refine g_aload_n C dL_loose_2 rfl 0 rfl ?_
  refine g_iload_n C dL_loose_3 rfl 1 rfl ?_
  refine g_callVx (ci := 1) (Cn := RX1) (As := [.int v]) (rest := [.int 0, .ref o]) C gm0 rfl rfl (c_X1_loose l hl9 D tys cI cP ht0 ht1 h a1 a2 a3 a4 a5 a6 a7 np hr wet cover sun fs mk fd pcs pa P ((o, .inl (cL, 1, .inr (.inl (g)))) :: Z) hnp hpc hg v hhr) (cwV 1 C.ts gL_loose_X1_loose rfl rfl rfl (by decide +kernel) ⟨(Nat.le_of_ble_eq_true rfl), (Nat.le_of_ble_eq_true rfl)⟩) rfl rfl (Nat.le_of_ble_eq_true rfl) dL_loose_4 (Nat.le_of_ble_eq_true rfl) (Nat.le_of_ble_eq_true rfl) ?_ ?_
  · intro E hE
    obtain ⟨hc, rfl⟩ := cdE1 hE
    · refine gH_0 C hT  (by decide) (by decide) k_L_loose_0 (by decide +kernel) (fun q9 => ?_)
      refine g_astore_n (lv' := [(3, .ref q9), (0, .ref h), (1, .int v), (2, .ref o)]) C dL_loose_12 rfl (by decide) rfl ?_
      refine g_iconst (v := 1) C dL_loose_13 (by decide) ?_
      refine g_iret C hQ (Nat.le_of_ble_eq_true rfl) (Nat.le_of_ble_eq_true rfl) dL_loose_14 ?_
      exact Or.inr ⟨by rw [hc]; decide, by rw [hc]; rfl, rfl⟩
  · intro vq wq hq9
    obtain ⟨hcd, rfl, fs2, rfl⟩ := hq9
    refine g_i2l C dL_loose_7 ?_
    refine g_last (ws' := ((h, .inr (1, [.ref a1, .ref a2, .ref a3, .ref a4, .int (nI np), .int (nI hr), .ref a5, .ref a6, .ref a7])) :: (a1, .inl (cI, 80, .inl (wet))) :: (a2, .inl (cI, 80, .inl (cover))) :: (a3, .inl (cI, 8, .inl (sun))) :: (a4, .inl (cP, 100, .inr (.inr (.inr (.inr (pcs)))))) :: (a5, .inl (cI, 80, .inl (fs2))) :: (a6, .inl (cI, 80, .inl (mk))) :: (a7, .inl (cI, 80, .inl (fd))) :: (plist pa P np ++ ((o, .inl (cL, 1, .inr (.inl (vp_updL g 0 ((fstI (fun i => !lsp (P (vn v)) (wetN wet cover sun hr i)) 201 0).toInt64))))) :: Z)))) C (np + 8) 2 og ht2 (vp_in_nI (n := 0) (by omega) (by omega)) dL_loose_8 os ?_
    refine g_goto (tgt := 15) C dL_loose_9 (by decide) ?_
    refine g_iconst (v := 0) C dL_loose_15 (by decide) ?_
    refine g_iret C hQ (Nat.le_of_ble_eq_true rfl) (Nat.le_of_ble_eq_true rfl) dL_loose_16 ?_
    exact Or.inl ⟨hcd, rfl, fs2, rfl⟩
