theorem k_X3_press_inX3 : ∀ w ∈ wsX30, w ∈ wsX3_press := by decide +kernel
theorem k_X3_press_1 : Cond.fieldLink RX3 55 "WetMosaicModel" "thrown" "I" ∈ wsX3_press := by decide +kernel
theorem k_X3_press_2 : Cond.fieldLink RX3 63 "WetMosaicModel" "pieces" "I" ∈ wsX3_press := by decide +kernel
theorem k_X3_press_3 : Cond.fieldLink RX3 9 "WetMosaicModel" "first" "[I" ∈ wsX3_press := by decide +kernel
theorem k_X3_press_4 : Cond.fieldLink RX3 13 "WetMosaicModel" "length" "[I" ∈ wsX3_press := by decide +kernel
theorem k_X3_press_5 : Cond.fieldLink RX3 16 "WetMosaicModel" "across" "[I" ∈ wsX3_press := by decide +kernel
theorem k_X3_press_6 : Cond.fieldLink RX3 19 "WetMosaicModel" "seen" "[I" ∈ wsX3_press := by decide +kernel
theorem k_X3_press_7 : Cond.fieldLink RX3 22 "WetMosaicModel" "hidden" "[I" ∈ wsX3_press := by decide +kernel
set_option maxHeartbeats 4000000 in
set_option maxRecDepth 100000 in
theorem c_X3_press (l : Launch) (D : va_G) (tys : List (ClassId × FieldType)) (cI : ClassId) (ht0 : tys[0]? = some (cI, .int)) (u0 u1 u2 u3 u4 u5 u6 u7 u8 u9 u10 u11 u12 u13 u14 np : Nat) (th : Int32) (fi le ac se hh ou cover sun rw fo wet aw : Nat → Int32) (hr : Nat) (ah : Int32) (Z : va_W) (P : Nat → Pd) (hnp : np ≤ 100) (hR : Mrel np P fi le ac se hh ou) (hg : Pok np P) (hcv : CovOk np cover) (x y ln9 f9 b9 : Int32) (ac9 : Bool) : gM l yX3_press wsX3_press ({ frames := 2, cells := 0, slots := 0, locals := 43 } : Room) D tys [.ref u0, .int x, .int y, .int ln9, .int (gz ac9), .int f9, .int b9] ((u0, .inr (3, [.int th, .int (nI np), .ref u1, .ref u2, .ref u3, .ref u4, .ref u5, .ref u6, .ref u7, .ref u8, .ref u9, .ref u10, .ref u11, .ref u13])) :: (u1, .inl (cI, 100, .inl (fi))) :: (u2, .inl (cI, 100, .inl (le))) :: (u3, .inl (cI, 100, .inl (ac))) :: (u4, .inl (cI, 100, .inl (se))) :: (u5, .inl (cI, 100, .inl (hh))) :: (u6, .inl (cI, 100, .inl (ou))) :: (u7, .inl (cI, 80, .inl (cover))) :: (u8, .inl (cI, 8, .inl (sun))) :: (u9, .inl (cI, 80, .inl (rw))) :: (u10, .inl (cI, 80, .inl (fo))) :: (u11, .inr (2, [.int (nI hr), .ref u12, .ref u0])) :: (u12, .inl (cI, 80, .inl (wet))) :: (u13, .inr (2, [.int ah, .ref u14, .ref u0])) :: (u14, .inl (cI, 80, .inl (aw))) :: Z) (gMo (cdPr np wet cover x y ln9 ac9 f9 b9) (.int (nI np)) (fun wX => wX = ((u0, .inr (3, [.int 0, .int (nI (np + 1)), .ref u1, .ref u2, .ref u3, .ref u4, .ref u5, .ref u6, .ref u7, .ref u8, .ref u9, .ref u10, .ref u11, .ref u13])) :: (u1, .inl (cI, 100, .inl (upd fi np (nI (10 * vn y + vn x))))) :: (u2, .inl (cI, 100, .inl (upd le np (nI (vn ln9))))) :: (u3, .inl (cI, 100, .inl (upd ac np (gz ac9)))) :: (u4, .inl (cI, 100, .inl (upd se np f9))) :: (u5, .inl (cI, 100, .inl (upd hh np b9))) :: (u6, .inl (cI, 100, .inl (ou))) :: (u7, .inl (cI, 80, .inl (setL cover (pcl (vn x, vn y, vn ln9, f9, b9, ac9, false, false)) (nI np) (vn ln9)))) :: (u8, .inl (cI, 8, .inl (sun))) :: (u9, .inl (cI, 80, .inl (rw))) :: (u10, .inl (cI, 80, .inl (fo))) :: (u11, .inr (2, [.int (nI hr), .ref u12, .ref u0])) :: (u12, .inl (cI, 80, .inl (wet))) :: (u13, .inr (2, [.int ah, .ref u14, .ref u0])) :: (u14, .inl (cI, 80, .inl (aw))) :: Z)) ((u0, .inr (3, [.int (nI (cdPr np wet cover x y ln9 ac9 f9 b9)), .int (nI np), .ref u1, .ref u2, .ref u3, .ref u4, .ref u5, .ref u6, .ref u7, .ref u8, .ref u9, .ref u10, .ref u11, .ref u13])) :: (u1, .inl (cI, 100, .inl (fi))) :: (u2, .inl (cI, 100, .inl (le))) :: (u3, .inl (cI, 100, .inl (ac))) :: (u4, .inl (cI, 100, .inl (se))) :: (u5, .inl (cI, 100, .inl (hh))) :: (u6, .inl (cI, 100, .inl (ou))) :: (u7, .inl (cI, 80, .inl (cover))) :: (u8, .inl (cI, 8, .inl (sun))) :: (u9, .inl (cI, 80, .inl (rw))) :: (u10, .inl (cI, 80, .inl (fo))) :: (u11, .inr (2, [.int (nI hr), .ref u12, .ref u0])) :: (u12, .inl (cI, 80, .inl (wet))) :: (u13, .inr (2, [.int ah, .ref u14, .ref u0])) :: (u14, .inl (cI, 80, .inl (aw))) :: Z)) 0 0 := by
  refine gM_of (by decide +kernel) rfl (Nat.le_of_ble_eq_true rfl) ?_
  intro p e s m args below meth c A Q hin C hQ
  refine g_sub [0, 1, 2, 3, 4, 5, 6] (lv' := [(0, .ref u0), (1, .int x), (2, .int y), (3, .int ln9), (4, .int (gz ac9)), (5, .int f9), (6, .int b9)]) rfl ?_
  refine g_aload_n C dX3_press_0 rfl 0 rfl ?_
  refine g_iconst (v := 0) C dX3_press_1 (by decide) ?_
  refine g_put (ci := 3) (Cn := RX3) (T := TX3) (N := 14) (ty := .int) (ws' := ((u0, .inr (3, [.int 0, .int (nI np), .ref u1, .ref u2, .ref u3, .ref u4, .ref u5, .ref u6, .ref u7, .ref u8, .ref u9, .ref u10, .ref u11, .ref u13])) :: (u1, .inl (cI, 100, .inl (fi))) :: (u2, .inl (cI, 100, .inl (le))) :: (u3, .inl (cI, 100, .inl (ac))) :: (u4, .inl (cI, 100, .inl (se))) :: (u5, .inl (cI, 100, .inl (hh))) :: (u6, .inl (cI, 100, .inl (ou))) :: (u7, .inl (cI, 80, .inl (cover))) :: (u8, .inl (cI, 8, .inl (sun))) :: (u9, .inl (cI, 80, .inl (rw))) :: (u10, .inl (cI, 80, .inl (fo))) :: (u11, .inr (2, [.int (nI hr), .ref u12, .ref u0])) :: (u12, .inl (cI, 80, .inl (wet))) :: (u13, .inr (2, [.int ah, .ref u14, .ref u0])) :: (u14, .inl (cI, 80, .inl (aw))) :: Z)) C k_X3_press_inX3 tyX3 tyX3_ok nmX3 0 rfl rfl 0 (by decide) k_X3_press_1 rfl rfl (by decide +kernel) rfl rfl (Nat.le_of_ble_eq_true rfl) dX3_press_2 rfl ?_
  refine g_iload_n C dX3_press_5 rfl 1 rfl ?_
  refine g_iload_n C dX3_press_6 rfl 2 rfl ?_
  refine g_callS (As := [.int x, .int y]) (rest := []) C (c_X3_isCell l D tys ((u0, .inr (3, [.int 0, .int (nI np), .ref u1, .ref u2, .ref u3, .ref u4, .ref u5, .ref u6, .ref u7, .ref u8, .ref u9, .ref u10, .ref u11, .ref u13])) :: (u1, .inl (cI, 100, .inl (fi))) :: (u2, .inl (cI, 100, .inl (le))) :: (u3, .inl (cI, 100, .inl (ac))) :: (u4, .inl (cI, 100, .inl (se))) :: (u5, .inl (cI, 100, .inl (hh))) :: (u6, .inl (cI, 100, .inl (ou))) :: (u7, .inl (cI, 80, .inl (cover))) :: (u8, .inl (cI, 8, .inl (sun))) :: (u9, .inl (cI, 80, .inl (rw))) :: (u10, .inl (cI, 80, .inl (fo))) :: (u11, .inr (2, [.int (nI hr), .ref u12, .ref u0])) :: (u12, .inl (cI, 80, .inl (wet))) :: (u13, .inr (2, [.int ah, .ref u14, .ref u0])) :: (u14, .inl (cI, 80, .inl (aw))) :: Z) x y) (va_cwS 2 C.ts gX3_press_X3_isCell rfl rfl rfl (by decide +kernel) ⟨(Nat.le_of_ble_eq_true rfl), (Nat.le_of_ble_eq_true rfl)⟩) rfl rfl (Nat.le_of_ble_eq_true rfl) dX3_press_7 (Nat.le_of_ble_eq_true rfl) (Nat.le_of_ble_eq_true rfl) (g_is (x := .int (gz (onW x y))) (W1 := ((u0, .inr (3, [.int 0, .int (nI np), .ref u1, .ref u2, .ref u3, .ref u4, .ref u5, .ref u6, .ref u7, .ref u8, .ref u9, .ref u10, .ref u11, .ref u13])) :: (u1, .inl (cI, 100, .inl (fi))) :: (u2, .inl (cI, 100, .inl (le))) :: (u3, .inl (cI, 100, .inl (ac))) :: (u4, .inl (cI, 100, .inl (se))) :: (u5, .inl (cI, 100, .inl (hh))) :: (u6, .inl (cI, 100, .inl (ou))) :: (u7, .inl (cI, 80, .inl (cover))) :: (u8, .inl (cI, 8, .inl (sun))) :: (u9, .inl (cI, 80, .inl (rw))) :: (u10, .inl (cI, 80, .inl (fo))) :: (u11, .inr (2, [.int (nI hr), .ref u12, .ref u0])) :: (u12, .inl (cI, 80, .inl (wet))) :: (u13, .inr (2, [.int ah, .ref u14, .ref u0])) :: (u14, .inl (cI, 80, .inl (aw))) :: Z)) ?_)
  refine g_if_ne (tgt := 19) C dX3_press_10 (by decide) (fun c_1 => ?_) (fun c_1 => ?_)
  · skip
    replace c_1 := gzn.mp c_1
    have how : onW x y = true := c_1
    have how2 : inR 0 9 x = true ∧ inR 0 7 y = true := by simpa [onW] using how
    obtain ⟨x9, hx9, rfl⟩ := inR_nI (n := 9) rfl how2.1
    have hclx9 : vn (nI x9) = x9 := nI_clamp (by omega)
    obtain ⟨y9, hy9, rfl⟩ := inR_nI (n := 7) rfl how2.2
    have hcly9 : vn (nI y9) = y9 := nI_clamp (by omega)
    refine g_iload_n C dX3_press_19 rfl 3 rfl ?_
    refine g_iconst (v := 1) C dX3_press_20 (by decide) ?_
    refine g_iconst (v := 3) C dX3_press_21 (by decide) ?_
    refine g_callS (As := [.int ln9, .int 1, .int 3]) (rest := []) C (c_X3_isIn l D tys ((u0, .inr (3, [.int 0, .int (nI np), .ref u1, .ref u2, .ref u3, .ref u4, .ref u5, .ref u6, .ref u7, .ref u8, .ref u9, .ref u10, .ref u11, .ref u13])) :: (u1, .inl (cI, 100, .inl (fi))) :: (u2, .inl (cI, 100, .inl (le))) :: (u3, .inl (cI, 100, .inl (ac))) :: (u4, .inl (cI, 100, .inl (se))) :: (u5, .inl (cI, 100, .inl (hh))) :: (u6, .inl (cI, 100, .inl (ou))) :: (u7, .inl (cI, 80, .inl (cover))) :: (u8, .inl (cI, 8, .inl (sun))) :: (u9, .inl (cI, 80, .inl (rw))) :: (u10, .inl (cI, 80, .inl (fo))) :: (u11, .inr (2, [.int (nI hr), .ref u12, .ref u0])) :: (u12, .inl (cI, 80, .inl (wet))) :: (u13, .inr (2, [.int ah, .ref u14, .ref u0])) :: (u14, .inl (cI, 80, .inl (aw))) :: Z) ln9 1 3) (va_cwS 3 C.ts gX3_press_X3_isIn rfl rfl rfl (by decide +kernel) ⟨(Nat.le_of_ble_eq_true rfl), (Nat.le_of_ble_eq_true rfl)⟩) rfl rfl (Nat.le_of_ble_eq_true rfl) dX3_press_22 (Nat.le_of_ble_eq_true rfl) (Nat.le_of_ble_eq_true rfl) (g_is (x := .int (gz (inR 1 3 ln9))) (W1 := ((u0, .inr (3, [.int 0, .int (nI np), .ref u1, .ref u2, .ref u3, .ref u4, .ref u5, .ref u6, .ref u7, .ref u8, .ref u9, .ref u10, .ref u11, .ref u13])) :: (u1, .inl (cI, 100, .inl (fi))) :: (u2, .inl (cI, 100, .inl (le))) :: (u3, .inl (cI, 100, .inl (ac))) :: (u4, .inl (cI, 100, .inl (se))) :: (u5, .inl (cI, 100, .inl (hh))) :: (u6, .inl (cI, 100, .inl (ou))) :: (u7, .inl (cI, 80, .inl (cover))) :: (u8, .inl (cI, 8, .inl (sun))) :: (u9, .inl (cI, 80, .inl (rw))) :: (u10, .inl (cI, 80, .inl (fo))) :: (u11, .inr (2, [.int (nI hr), .ref u12, .ref u0])) :: (u12, .inl (cI, 80, .inl (wet))) :: (u13, .inr (2, [.int ah, .ref u14, .ref u0])) :: (u14, .inl (cI, 80, .inl (aw))) :: Z)) ?_)
    refine g_if_eq (tgt := 44) C dX3_press_25 (by decide) (fun c_2 => ?_) (fun c_2 => ?_)
    · skip
      replace c_2 := gz0.mp c_2
      refine g_aload_n C dX3_press_44 rfl 0 rfl ?_
      refine g_iconst (v := 2) C dX3_press_45 (by decide) ?_
      refine g_callV (ci := 3) (Cn := RX3) (As := [.int 2]) (rest := []) C gm0 rfl rfl (c_X3_no l D tys cI ht0 u0 u1 u2 u3 u4 u5 u6 u7 u8 u9 u10 u11 u12 u13 u14 np 0 fi le ac se hh ou cover sun rw fo wet aw hr ah Z 2) (cwV 1 C.ts gX3_press_X3_no rfl rfl rfl (by decide +kernel) ⟨(Nat.le_of_ble_eq_true rfl), (Nat.le_of_ble_eq_true rfl)⟩) rfl rfl (Nat.le_of_ble_eq_true rfl) dX3_press_46 (Nat.le_of_ble_eq_true rfl) (Nat.le_of_ble_eq_true rfl) (g_is (x := .int 0) (W1 := ((u0, .inr (3, [.int 2, .int (nI np), .ref u1, .ref u2, .ref u3, .ref u4, .ref u5, .ref u6, .ref u7, .ref u8, .ref u9, .ref u10, .ref u11, .ref u13])) :: (u1, .inl (cI, 100, .inl (fi))) :: (u2, .inl (cI, 100, .inl (le))) :: (u3, .inl (cI, 100, .inl (ac))) :: (u4, .inl (cI, 100, .inl (se))) :: (u5, .inl (cI, 100, .inl (hh))) :: (u6, .inl (cI, 100, .inl (ou))) :: (u7, .inl (cI, 80, .inl (cover))) :: (u8, .inl (cI, 8, .inl (sun))) :: (u9, .inl (cI, 80, .inl (rw))) :: (u10, .inl (cI, 80, .inl (fo))) :: (u11, .inr (2, [.int (nI hr), .ref u12, .ref u0])) :: (u12, .inl (cI, 80, .inl (wet))) :: (u13, .inr (2, [.int ah, .ref u14, .ref u0])) :: (u14, .inl (cI, 80, .inl (aw))) :: Z)) ?_)
      refine g_iret C hQ (Nat.le_of_ble_eq_true rfl) (Nat.le_of_ble_eq_true rfl) dX3_press_49 ?_
      have e : cdPr np wet cover (nI x9) (nI y9) ln9 ac9 f9 b9 = 2 := by simp [cdPr, *]
      exact Or.inr ⟨by rw [e]; decide, rfl, by rw [e]; rfl⟩
    · skip
      replace c_2 := gzn.mp c_2
      refine g_iload C dX3_press_28 5 rfl ?_
      refine g_callS (As := [.int f9]) (rest := []) C (c_X3_isColour l D tys ((u0, .inr (3, [.int 0, .int (nI np), .ref u1, .ref u2, .ref u3, .ref u4, .ref u5, .ref u6, .ref u7, .ref u8, .ref u9, .ref u10, .ref u11, .ref u13])) :: (u1, .inl (cI, 100, .inl (fi))) :: (u2, .inl (cI, 100, .inl (le))) :: (u3, .inl (cI, 100, .inl (ac))) :: (u4, .inl (cI, 100, .inl (se))) :: (u5, .inl (cI, 100, .inl (hh))) :: (u6, .inl (cI, 100, .inl (ou))) :: (u7, .inl (cI, 80, .inl (cover))) :: (u8, .inl (cI, 8, .inl (sun))) :: (u9, .inl (cI, 80, .inl (rw))) :: (u10, .inl (cI, 80, .inl (fo))) :: (u11, .inr (2, [.int (nI hr), .ref u12, .ref u0])) :: (u12, .inl (cI, 80, .inl (wet))) :: (u13, .inr (2, [.int ah, .ref u14, .ref u0])) :: (u14, .inl (cI, 80, .inl (aw))) :: Z) f9) (va_cwS 1 C.ts gX3_press_X3_isColour rfl rfl rfl (by decide +kernel) ⟨(Nat.le_of_ble_eq_true rfl), (Nat.le_of_ble_eq_true rfl)⟩) rfl rfl (Nat.le_of_ble_eq_true rfl) dX3_press_30 (Nat.le_of_ble_eq_true rfl) (Nat.le_of_ble_eq_true rfl) (g_is (x := .int (gz (inR 0 6 f9))) (W1 := ((u0, .inr (3, [.int 0, .int (nI np), .ref u1, .ref u2, .ref u3, .ref u4, .ref u5, .ref u6, .ref u7, .ref u8, .ref u9, .ref u10, .ref u11, .ref u13])) :: (u1, .inl (cI, 100, .inl (fi))) :: (u2, .inl (cI, 100, .inl (le))) :: (u3, .inl (cI, 100, .inl (ac))) :: (u4, .inl (cI, 100, .inl (se))) :: (u5, .inl (cI, 100, .inl (hh))) :: (u6, .inl (cI, 100, .inl (ou))) :: (u7, .inl (cI, 80, .inl (cover))) :: (u8, .inl (cI, 8, .inl (sun))) :: (u9, .inl (cI, 80, .inl (rw))) :: (u10, .inl (cI, 80, .inl (fo))) :: (u11, .inr (2, [.int (nI hr), .ref u12, .ref u0])) :: (u12, .inl (cI, 80, .inl (wet))) :: (u13, .inr (2, [.int ah, .ref u14, .ref u0])) :: (u14, .inl (cI, 80, .inl (aw))) :: Z)) ?_)
      refine g_if_eq (tgt := 44) C dX3_press_33 (by decide) (fun c_3 => ?_) (fun c_3 => ?_)
      · skip
        replace c_3 := gz0.mp c_3
        refine g_aload_n C dX3_press_44 rfl 0 rfl ?_
        refine g_iconst (v := 2) C dX3_press_45 (by decide) ?_
        refine g_callV (ci := 3) (Cn := RX3) (As := [.int 2]) (rest := []) C gm0 rfl rfl (c_X3_no l D tys cI ht0 u0 u1 u2 u3 u4 u5 u6 u7 u8 u9 u10 u11 u12 u13 u14 np 0 fi le ac se hh ou cover sun rw fo wet aw hr ah Z 2) (cwV 1 C.ts gX3_press_X3_no rfl rfl rfl (by decide +kernel) ⟨(Nat.le_of_ble_eq_true rfl), (Nat.le_of_ble_eq_true rfl)⟩) rfl rfl (Nat.le_of_ble_eq_true rfl) dX3_press_46 (Nat.le_of_ble_eq_true rfl) (Nat.le_of_ble_eq_true rfl) (g_is (x := .int 0) (W1 := ((u0, .inr (3, [.int 2, .int (nI np), .ref u1, .ref u2, .ref u3, .ref u4, .ref u5, .ref u6, .ref u7, .ref u8, .ref u9, .ref u10, .ref u11, .ref u13])) :: (u1, .inl (cI, 100, .inl (fi))) :: (u2, .inl (cI, 100, .inl (le))) :: (u3, .inl (cI, 100, .inl (ac))) :: (u4, .inl (cI, 100, .inl (se))) :: (u5, .inl (cI, 100, .inl (hh))) :: (u6, .inl (cI, 100, .inl (ou))) :: (u7, .inl (cI, 80, .inl (cover))) :: (u8, .inl (cI, 8, .inl (sun))) :: (u9, .inl (cI, 80, .inl (rw))) :: (u10, .inl (cI, 80, .inl (fo))) :: (u11, .inr (2, [.int (nI hr), .ref u12, .ref u0])) :: (u12, .inl (cI, 80, .inl (wet))) :: (u13, .inr (2, [.int ah, .ref u14, .ref u0])) :: (u14, .inl (cI, 80, .inl (aw))) :: Z)) ?_)
        refine g_iret C hQ (Nat.le_of_ble_eq_true rfl) (Nat.le_of_ble_eq_true rfl) dX3_press_49 ?_
        have e : cdPr np wet cover (nI x9) (nI y9) ln9 ac9 f9 b9 = 2 := by simp [cdPr, *]
        exact Or.inr ⟨by rw [e]; decide, rfl, by rw [e]; rfl⟩
      · skip
        replace c_3 := gzn.mp c_3
        refine g_iload C dX3_press_36 6 rfl ?_
        refine g_callS (As := [.int b9]) (rest := []) C (c_X3_isColour l D tys ((u0, .inr (3, [.int 0, .int (nI np), .ref u1, .ref u2, .ref u3, .ref u4, .ref u5, .ref u6, .ref u7, .ref u8, .ref u9, .ref u10, .ref u11, .ref u13])) :: (u1, .inl (cI, 100, .inl (fi))) :: (u2, .inl (cI, 100, .inl (le))) :: (u3, .inl (cI, 100, .inl (ac))) :: (u4, .inl (cI, 100, .inl (se))) :: (u5, .inl (cI, 100, .inl (hh))) :: (u6, .inl (cI, 100, .inl (ou))) :: (u7, .inl (cI, 80, .inl (cover))) :: (u8, .inl (cI, 8, .inl (sun))) :: (u9, .inl (cI, 80, .inl (rw))) :: (u10, .inl (cI, 80, .inl (fo))) :: (u11, .inr (2, [.int (nI hr), .ref u12, .ref u0])) :: (u12, .inl (cI, 80, .inl (wet))) :: (u13, .inr (2, [.int ah, .ref u14, .ref u0])) :: (u14, .inl (cI, 80, .inl (aw))) :: Z) b9) (va_cwS 1 C.ts gX3_press_X3_isColour rfl rfl rfl (by decide +kernel) ⟨(Nat.le_of_ble_eq_true rfl), (Nat.le_of_ble_eq_true rfl)⟩) rfl rfl (Nat.le_of_ble_eq_true rfl) dX3_press_38 (Nat.le_of_ble_eq_true rfl) (Nat.le_of_ble_eq_true rfl) (g_is (x := .int (gz (inR 0 6 b9))) (W1 := ((u0, .inr (3, [.int 0, .int (nI np), .ref u1, .ref u2, .ref u3, .ref u4, .ref u5, .ref u6, .ref u7, .ref u8, .ref u9, .ref u10, .ref u11, .ref u13])) :: (u1, .inl (cI, 100, .inl (fi))) :: (u2, .inl (cI, 100, .inl (le))) :: (u3, .inl (cI, 100, .inl (ac))) :: (u4, .inl (cI, 100, .inl (se))) :: (u5, .inl (cI, 100, .inl (hh))) :: (u6, .inl (cI, 100, .inl (ou))) :: (u7, .inl (cI, 80, .inl (cover))) :: (u8, .inl (cI, 8, .inl (sun))) :: (u9, .inl (cI, 80, .inl (rw))) :: (u10, .inl (cI, 80, .inl (fo))) :: (u11, .inr (2, [.int (nI hr), .ref u12, .ref u0])) :: (u12, .inl (cI, 80, .inl (wet))) :: (u13, .inr (2, [.int ah, .ref u14, .ref u0])) :: (u14, .inl (cI, 80, .inl (aw))) :: Z)) ?_)
        refine g_if_ne (tgt := 50) C dX3_press_41 (by decide) (fun c_4 => ?_) (fun c_4 => ?_)
        · skip
          replace c_4 := gzn.mp c_4
          obtain ⟨n, hn1, hn2, rfl⟩ := inR1_of (N := 3) rfl (by decide) c_2
          have hcln : vn (nI n) = n := nI_clamp (by omega)
          refine g_aload_n C dX3_press_50 rfl 0 rfl ?_
          refine g_get (v := .int (nI np)) (ci := 3) (Cn := RX3) (T := TX3) (N := 14) C k_X3_press_inX3 gm0 rfl 1 (by decide) k_X3_press_2 rfl rfl dX3_press_51 ?_
          refine g_bipush (v := 100) C dX3_press_54 (by decide) ?_
          refine g_icmp_eq (tgt := 76) C dX3_press_56 (by decide) (fun c_5 => ?_) (fun c_5 => ?_)
          · skip
            rw [show (100 : Int32) = nI 100 from rfl, nI_eq (by omega) (by omega)] at c_5
            have h99 : inR 0 99 (nI np) = false := by rw [c_5]; decide
            have h99b : inR 0 99 (nI 100) = false := by decide
            refine g_aload_n C dX3_press_76 rfl 0 rfl ?_
            refine g_iconst (v := 3) C dX3_press_77 (by decide) ?_
            refine g_callV (ci := 3) (Cn := RX3) (As := [.int 3]) (rest := []) C gm0 rfl rfl (c_X3_no l D tys cI ht0 u0 u1 u2 u3 u4 u5 u6 u7 u8 u9 u10 u11 u12 u13 u14 np 0 fi le ac se hh ou cover sun rw fo wet aw hr ah Z 3) (cwV 1 C.ts gX3_press_X3_no rfl rfl rfl (by decide +kernel) ⟨(Nat.le_of_ble_eq_true rfl), (Nat.le_of_ble_eq_true rfl)⟩) rfl rfl (Nat.le_of_ble_eq_true rfl) dX3_press_78 (Nat.le_of_ble_eq_true rfl) (Nat.le_of_ble_eq_true rfl) (g_is (x := .int 0) (W1 := ((u0, .inr (3, [.int 3, .int (nI np), .ref u1, .ref u2, .ref u3, .ref u4, .ref u5, .ref u6, .ref u7, .ref u8, .ref u9, .ref u10, .ref u11, .ref u13])) :: (u1, .inl (cI, 100, .inl (fi))) :: (u2, .inl (cI, 100, .inl (le))) :: (u3, .inl (cI, 100, .inl (ac))) :: (u4, .inl (cI, 100, .inl (se))) :: (u5, .inl (cI, 100, .inl (hh))) :: (u6, .inl (cI, 100, .inl (ou))) :: (u7, .inl (cI, 80, .inl (cover))) :: (u8, .inl (cI, 8, .inl (sun))) :: (u9, .inl (cI, 80, .inl (rw))) :: (u10, .inl (cI, 80, .inl (fo))) :: (u11, .inr (2, [.int (nI hr), .ref u12, .ref u0])) :: (u12, .inl (cI, 80, .inl (wet))) :: (u13, .inr (2, [.int ah, .ref u14, .ref u0])) :: (u14, .inl (cI, 80, .inl (aw))) :: Z)) ?_)
            refine g_iret C hQ (Nat.le_of_ble_eq_true rfl) (Nat.le_of_ble_eq_true rfl) dX3_press_81 ?_
            have e : cdPr np wet cover (nI x9) (nI y9) (nI n) ac9 f9 b9 = 3 := by simp [cdPr, *]
            exact Or.inr ⟨by rw [e]; decide, rfl, by rw [e]; rfl⟩
          · skip
            rw [show (100 : Int32) = nI 100 from rfl, nI_eq (by omega) (by omega)] at c_5
            have h99 : inR 0 99 (nI np) = true := inR_of (n := 99) rfl (by omega)
            refine g_aload_n C dX3_press_59 rfl 0 rfl ?_
            refine g_bipush (v := 10) C dX3_press_60 (by decide) ?_
            refine g_iload_n C dX3_press_62 rfl 2 rfl ?_
            refine g_imul C dX3_press_63 ?_
            refine g_iload_n C dX3_press_64 rfl 1 rfl ?_
            refine g_iadd C dX3_press_65 ?_
            refine g_eqi (x := (10 * (nI y9)) + (nI x9)) (y := nI (10 * y9 + x9)) (cel_nI _ _) ?_
            refine g_iload_n C dX3_press_66 rfl 3 rfl ?_
            refine g_iload C dX3_press_67 4 rfl ?_
            refine g_iconst (v := (-1)) C dX3_press_69 (by decide) ?_
            refine g_callV (ci := 3) (Cn := RX3) (As := [.int (nI (10 * y9 + x9)), .int (nI n), .int (gz ac9), .int ((-1))]) (rest := []) C gm0 rfl rfl (c_X3_canLie l D tys cI ht0 ((u0, .inr (3, [.int 0, .int (nI np), .ref u1, .ref u2, .ref u3, .ref u4, .ref u5, .ref u6, .ref u7, .ref u8, .ref u9, .ref u10, .ref u11, .ref u13])) :: (u1, .inl (cI, 100, .inl (fi))) :: (u2, .inl (cI, 100, .inl (le))) :: (u3, .inl (cI, 100, .inl (ac))) :: (u4, .inl (cI, 100, .inl (se))) :: (u5, .inl (cI, 100, .inl (hh))) :: (u6, .inl (cI, 100, .inl (ou))) :: (u7, .inl (cI, 80, .inl (cover))) :: (u8, .inl (cI, 8, .inl (sun))) :: (u9, .inl (cI, 80, .inl (rw))) :: (u10, .inl (cI, 80, .inl (fo))) :: (u11, .inr (2, [.int (nI hr), .ref u12, .ref u0])) :: (u12, .inl (cI, 80, .inl (wet))) :: (u13, .inr (2, [.int ah, .ref u14, .ref u0])) :: (u14, .inl (cI, 80, .inl (aw))) :: Z) u0 u1 u2 u3 u4 u5 u6 u7 u8 u9 u10 u11 u12 u13 u14 np 0 hr wet cover x9 y9 n ac9 (-1) (by omega) (by omega) (by omega) (by omega) gm0 (gmT (gmT (gmT (gmT (gmT (gmT (gmT (gmT (gmT (gmT (gmT gm0))))))))))) (gmT (gmT (gmT (gmT (gmT (gmT (gmT (gmT (gmT (gmT (gmT (gmT gm0)))))))))))) (gmT (gmT (gmT (gmT (gmT (gmT (gmT gm0)))))))) (cwV 4 C.ts gX3_press_X3_canLie rfl rfl rfl (by decide +kernel) ⟨(Nat.le_of_ble_eq_true rfl), (Nat.le_of_ble_eq_true rfl)⟩) rfl rfl (Nat.le_of_ble_eq_true rfl) dX3_press_70 (Nat.le_of_ble_eq_true rfl) (Nat.le_of_ble_eq_true rfl) (g_is (x := .int (gz (lieB wet cover x9 y9 n ac9 (-1)))) (W1 := ((u0, .inr (3, [.int 0, .int (nI np), .ref u1, .ref u2, .ref u3, .ref u4, .ref u5, .ref u6, .ref u7, .ref u8, .ref u9, .ref u10, .ref u11, .ref u13])) :: (u1, .inl (cI, 100, .inl (fi))) :: (u2, .inl (cI, 100, .inl (le))) :: (u3, .inl (cI, 100, .inl (ac))) :: (u4, .inl (cI, 100, .inl (se))) :: (u5, .inl (cI, 100, .inl (hh))) :: (u6, .inl (cI, 100, .inl (ou))) :: (u7, .inl (cI, 80, .inl (cover))) :: (u8, .inl (cI, 8, .inl (sun))) :: (u9, .inl (cI, 80, .inl (rw))) :: (u10, .inl (cI, 80, .inl (fo))) :: (u11, .inr (2, [.int (nI hr), .ref u12, .ref u0])) :: (u12, .inl (cI, 80, .inl (wet))) :: (u13, .inr (2, [.int ah, .ref u14, .ref u0])) :: (u14, .inl (cI, 80, .inl (aw))) :: Z)) ?_)
            refine g_if_ne (tgt := 82) C dX3_press_73 (by decide) (fun c_6 => ?_) (fun c_6 => ?_)
            · skip
              replace c_6 := gzn.mp c_6
              have hrm9 := c_6
              rw [← lie_hrm (by omega) (by omega) hn1 hn2] at hrm9
              refine g_aload_n C dX3_press_82 rfl 0 rfl ?_
              refine g_get (v := .ref u1) (ci := 3) (Cn := RX3) (T := TX3) (N := 14) C k_X3_press_inX3 gm0 rfl 2 (by decide) k_X3_press_3 rfl rfl dX3_press_83 ?_
              refine g_aload_n C dX3_press_86 rfl 0 rfl ?_
              refine g_get (v := .int (nI np)) (ci := 3) (Cn := RX3) (T := TX3) (N := 14) C k_X3_press_inX3 gm0 rfl 1 (by decide) k_X3_press_2 rfl rfl dX3_press_87 ?_
              refine g_bipush (v := 10) C dX3_press_90 (by decide) ?_
              refine g_iload_n C dX3_press_92 rfl 2 rfl ?_
              refine g_imul C dX3_press_93 ?_
              refine g_iload_n C dX3_press_94 rfl 1 rfl ?_
              refine g_iadd C dX3_press_95 ?_
              refine g_eqi (x := (10 * (nI y9)) + (nI x9)) (y := nI (10 * y9 + x9)) (cel_nI _ _) ?_
              refine g_iast (ws' := ((u0, .inr (3, [.int 0, .int (nI np), .ref u1, .ref u2, .ref u3, .ref u4, .ref u5, .ref u6, .ref u7, .ref u8, .ref u9, .ref u10, .ref u11, .ref u13])) :: (u1, .inl (cI, 100, .inl (upd fi (nI np).toNatClampNeg (nI (10 * y9 + x9))))) :: (u2, .inl (cI, 100, .inl (le))) :: (u3, .inl (cI, 100, .inl (ac))) :: (u4, .inl (cI, 100, .inl (se))) :: (u5, .inl (cI, 100, .inl (hh))) :: (u6, .inl (cI, 100, .inl (ou))) :: (u7, .inl (cI, 80, .inl (cover))) :: (u8, .inl (cI, 8, .inl (sun))) :: (u9, .inl (cI, 80, .inl (rw))) :: (u10, .inl (cI, 80, .inl (fo))) :: (u11, .inr (2, [.int (nI hr), .ref u12, .ref u0])) :: (u12, .inl (cI, 80, .inl (wet))) :: (u13, .inr (2, [.int ah, .ref u14, .ref u0])) :: (u14, .inl (cI, 80, .inl (aw))) :: Z)) C 1 0 rfl ht0 (vp_in_nI (by omega) (by omega)) dX3_press_96 rfl ?_
              rw [nI_clamp (n := np) (by omega)]
              refine g_aload_n C dX3_press_97 rfl 0 rfl ?_
              refine g_get (v := .ref u2) (ci := 3) (Cn := RX3) (T := TX3) (N := 14) C k_X3_press_inX3 gm0 rfl 3 (by decide) k_X3_press_4 rfl rfl dX3_press_98 ?_
              refine g_aload_n C dX3_press_101 rfl 0 rfl ?_
              refine g_get (v := .int (nI np)) (ci := 3) (Cn := RX3) (T := TX3) (N := 14) C k_X3_press_inX3 gm0 rfl 1 (by decide) k_X3_press_2 rfl rfl dX3_press_102 ?_
              refine g_iload_n C dX3_press_105 rfl 3 rfl ?_
              refine g_iast (ws' := ((u0, .inr (3, [.int 0, .int (nI np), .ref u1, .ref u2, .ref u3, .ref u4, .ref u5, .ref u6, .ref u7, .ref u8, .ref u9, .ref u10, .ref u11, .ref u13])) :: (u1, .inl (cI, 100, .inl (upd fi np (nI (10 * y9 + x9))))) :: (u2, .inl (cI, 100, .inl (upd le (nI np).toNatClampNeg (nI n)))) :: (u3, .inl (cI, 100, .inl (ac))) :: (u4, .inl (cI, 100, .inl (se))) :: (u5, .inl (cI, 100, .inl (hh))) :: (u6, .inl (cI, 100, .inl (ou))) :: (u7, .inl (cI, 80, .inl (cover))) :: (u8, .inl (cI, 8, .inl (sun))) :: (u9, .inl (cI, 80, .inl (rw))) :: (u10, .inl (cI, 80, .inl (fo))) :: (u11, .inr (2, [.int (nI hr), .ref u12, .ref u0])) :: (u12, .inl (cI, 80, .inl (wet))) :: (u13, .inr (2, [.int ah, .ref u14, .ref u0])) :: (u14, .inl (cI, 80, .inl (aw))) :: Z)) C 2 0 rfl ht0 (vp_in_nI (by omega) (by omega)) dX3_press_106 rfl ?_
              rw [nI_clamp (n := np) (by omega)]
              refine g_aload_n C dX3_press_107 rfl 0 rfl ?_
              refine g_get (v := .ref u3) (ci := 3) (Cn := RX3) (T := TX3) (N := 14) C k_X3_press_inX3 gm0 rfl 4 (by decide) k_X3_press_5 rfl rfl dX3_press_108 ?_
              refine g_aload_n C dX3_press_111 rfl 0 rfl ?_
              refine g_get (v := .int (nI np)) (ci := 3) (Cn := RX3) (T := TX3) (N := 14) C k_X3_press_inX3 gm0 rfl 1 (by decide) k_X3_press_2 rfl rfl dX3_press_112 ?_
              refine g_iload C dX3_press_115 4 rfl ?_
              refine g_if_eq (tgt := 124) C dX3_press_117 (by decide) (fun c_7 => ?_) (fun c_7 => ?_)
              · skip
                replace c_7 := gz0.mp c_7
                refine g_iconst (v := 0) C dX3_press_124 (by decide) ?_
                refine g_eqi (x := 0) (y := gz ac9) (by first | (simp [gz, *]; done) | (simp_all [gz]; done)) ?_
                refine g_iast (ws' := ((u0, .inr (3, [.int 0, .int (nI np), .ref u1, .ref u2, .ref u3, .ref u4, .ref u5, .ref u6, .ref u7, .ref u8, .ref u9, .ref u10, .ref u11, .ref u13])) :: (u1, .inl (cI, 100, .inl (upd fi np (nI (10 * y9 + x9))))) :: (u2, .inl (cI, 100, .inl (upd le np (nI n)))) :: (u3, .inl (cI, 100, .inl (upd ac (nI np).toNatClampNeg (gz ac9)))) :: (u4, .inl (cI, 100, .inl (se))) :: (u5, .inl (cI, 100, .inl (hh))) :: (u6, .inl (cI, 100, .inl (ou))) :: (u7, .inl (cI, 80, .inl (cover))) :: (u8, .inl (cI, 8, .inl (sun))) :: (u9, .inl (cI, 80, .inl (rw))) :: (u10, .inl (cI, 80, .inl (fo))) :: (u11, .inr (2, [.int (nI hr), .ref u12, .ref u0])) :: (u12, .inl (cI, 80, .inl (wet))) :: (u13, .inr (2, [.int ah, .ref u14, .ref u0])) :: (u14, .inl (cI, 80, .inl (aw))) :: Z)) C 3 0 rfl ht0 (vp_in_nI (by omega) (by omega)) dX3_press_125 rfl ?_
                rw [nI_clamp (n := np) (by omega)]
                refine g_aload_n C dX3_press_126 rfl 0 rfl ?_
                refine g_get (v := .ref u4) (ci := 3) (Cn := RX3) (T := TX3) (N := 14) C k_X3_press_inX3 gm0 rfl 5 (by decide) k_X3_press_6 rfl rfl dX3_press_127 ?_
                refine g_aload_n C dX3_press_130 rfl 0 rfl ?_
                refine g_get (v := .int (nI np)) (ci := 3) (Cn := RX3) (T := TX3) (N := 14) C k_X3_press_inX3 gm0 rfl 1 (by decide) k_X3_press_2 rfl rfl dX3_press_131 ?_
                refine g_iload C dX3_press_134 5 rfl ?_
                refine g_iast (ws' := ((u0, .inr (3, [.int 0, .int (nI np), .ref u1, .ref u2, .ref u3, .ref u4, .ref u5, .ref u6, .ref u7, .ref u8, .ref u9, .ref u10, .ref u11, .ref u13])) :: (u1, .inl (cI, 100, .inl (upd fi np (nI (10 * y9 + x9))))) :: (u2, .inl (cI, 100, .inl (upd le np (nI n)))) :: (u3, .inl (cI, 100, .inl (upd ac np (gz ac9)))) :: (u4, .inl (cI, 100, .inl (upd se (nI np).toNatClampNeg f9))) :: (u5, .inl (cI, 100, .inl (hh))) :: (u6, .inl (cI, 100, .inl (ou))) :: (u7, .inl (cI, 80, .inl (cover))) :: (u8, .inl (cI, 8, .inl (sun))) :: (u9, .inl (cI, 80, .inl (rw))) :: (u10, .inl (cI, 80, .inl (fo))) :: (u11, .inr (2, [.int (nI hr), .ref u12, .ref u0])) :: (u12, .inl (cI, 80, .inl (wet))) :: (u13, .inr (2, [.int ah, .ref u14, .ref u0])) :: (u14, .inl (cI, 80, .inl (aw))) :: Z)) C 4 0 rfl ht0 (vp_in_nI (by omega) (by omega)) dX3_press_136 rfl ?_
                rw [nI_clamp (n := np) (by omega)]
                refine g_aload_n C dX3_press_137 rfl 0 rfl ?_
                refine g_get (v := .ref u5) (ci := 3) (Cn := RX3) (T := TX3) (N := 14) C k_X3_press_inX3 gm0 rfl 6 (by decide) k_X3_press_7 rfl rfl dX3_press_138 ?_
                refine g_aload_n C dX3_press_141 rfl 0 rfl ?_
                refine g_get (v := .int (nI np)) (ci := 3) (Cn := RX3) (T := TX3) (N := 14) C k_X3_press_inX3 gm0 rfl 1 (by decide) k_X3_press_2 rfl rfl dX3_press_142 ?_
                refine g_iload C dX3_press_145 6 rfl ?_
                refine g_iast (ws' := ((u0, .inr (3, [.int 0, .int (nI np), .ref u1, .ref u2, .ref u3, .ref u4, .ref u5, .ref u6, .ref u7, .ref u8, .ref u9, .ref u10, .ref u11, .ref u13])) :: (u1, .inl (cI, 100, .inl (upd fi np (nI (10 * y9 + x9))))) :: (u2, .inl (cI, 100, .inl (upd le np (nI n)))) :: (u3, .inl (cI, 100, .inl (upd ac np (gz ac9)))) :: (u4, .inl (cI, 100, .inl (upd se np f9))) :: (u5, .inl (cI, 100, .inl (upd hh (nI np).toNatClampNeg b9))) :: (u6, .inl (cI, 100, .inl (ou))) :: (u7, .inl (cI, 80, .inl (cover))) :: (u8, .inl (cI, 8, .inl (sun))) :: (u9, .inl (cI, 80, .inl (rw))) :: (u10, .inl (cI, 80, .inl (fo))) :: (u11, .inr (2, [.int (nI hr), .ref u12, .ref u0])) :: (u12, .inl (cI, 80, .inl (wet))) :: (u13, .inr (2, [.int ah, .ref u14, .ref u0])) :: (u14, .inl (cI, 80, .inl (aw))) :: Z)) C 5 0 rfl ht0 (vp_in_nI (by omega) (by omega)) dX3_press_147 rfl ?_
                rw [nI_clamp (n := np) (by omega)]
                refine g_aload_n C dX3_press_148 rfl 0 rfl ?_
                refine g_aload_n C dX3_press_149 rfl 0 rfl ?_
                refine g_get (v := .int (nI np)) (ci := 3) (Cn := RX3) (T := TX3) (N := 14) C k_X3_press_inX3 gm0 rfl 1 (by decide) k_X3_press_2 rfl rfl dX3_press_150 ?_
                refine g_aload_n C dX3_press_153 rfl 0 rfl ?_
                refine g_get (v := .int (nI np)) (ci := 3) (Cn := RX3) (T := TX3) (N := 14) C k_X3_press_inX3 gm0 rfl 1 (by decide) k_X3_press_2 rfl rfl dX3_press_154 ?_
                refine g_callV (ci := 3) (Cn := RX3) (As := [.int (nI np), .int (nI np)]) (rest := []) C gm0 rfl rfl (c_X3_coverBy l D tys cI ht0 u0 u1 u2 u3 u4 u5 u6 u7 u8 u9 u10 u11 u12 u13 u14 np 0 (upd fi np (nI (10 * y9 + x9))) (upd le np (nI n)) (upd ac np (gz ac9)) (upd se np f9) (upd hh np b9) ou cover sun rw fo wet aw hr ah Z np (x9, y9, n, f9, b9, ac9, false, false) (by omega) pk_us pk_us pk_us ⟨hn1, hn2, hx9, hy9, hrm_cel hx9 hy9 hn2 hrm9⟩ (nI np)) (cwV 2 C.ts gX3_press_X3_coverBy rfl rfl rfl (by decide +kernel) ⟨(Nat.le_of_ble_eq_true rfl), (Nat.le_of_ble_eq_true rfl)⟩) rfl rfl (Nat.le_of_ble_eq_true rfl) dX3_press_157 (Nat.le_of_ble_eq_true rfl) (Nat.le_of_ble_eq_true rfl) (g_isV (W1 := ((u0, .inr (3, [.int 0, .int (nI np), .ref u1, .ref u2, .ref u3, .ref u4, .ref u5, .ref u6, .ref u7, .ref u8, .ref u9, .ref u10, .ref u11, .ref u13])) :: (u1, .inl (cI, 100, .inl (upd fi np (nI (10 * y9 + x9))))) :: (u2, .inl (cI, 100, .inl (upd le np (nI n)))) :: (u3, .inl (cI, 100, .inl (upd ac np (gz ac9)))) :: (u4, .inl (cI, 100, .inl (upd se np f9))) :: (u5, .inl (cI, 100, .inl (upd hh np b9))) :: (u6, .inl (cI, 100, .inl (ou))) :: (u7, .inl (cI, 80, .inl (setL cover (pcl (x9, y9, n, f9, b9, ac9, false, false)) (nI np) n))) :: (u8, .inl (cI, 8, .inl (sun))) :: (u9, .inl (cI, 80, .inl (rw))) :: (u10, .inl (cI, 80, .inl (fo))) :: (u11, .inr (2, [.int (nI hr), .ref u12, .ref u0])) :: (u12, .inl (cI, 80, .inl (wet))) :: (u13, .inr (2, [.int ah, .ref u14, .ref u0])) :: (u14, .inl (cI, 80, .inl (aw))) :: Z)) ?_)
                refine g_aload_n C dX3_press_160 rfl 0 rfl ?_
                refine g_dup C dX3_press_161 rfl ?_
                refine g_get (v := .int (nI np)) (ci := 3) (Cn := RX3) (T := TX3) (N := 14) C k_X3_press_inX3 gm0 rfl 1 (by decide) k_X3_press_2 rfl rfl dX3_press_162 ?_
                refine g_iconst (v := 1) C dX3_press_165 (by decide) ?_
                refine g_iadd C dX3_press_166 ?_
                refine g_eqi (x := (nI np) + 1) (y := nI (np + 1)) (nI_add _ 1) ?_
                refine g_put (ci := 3) (Cn := RX3) (T := TX3) (N := 14) (ty := .int) (ws' := ((u0, .inr (3, [.int 0, .int (nI (np + 1)), .ref u1, .ref u2, .ref u3, .ref u4, .ref u5, .ref u6, .ref u7, .ref u8, .ref u9, .ref u10, .ref u11, .ref u13])) :: (u1, .inl (cI, 100, .inl (upd fi np (nI (10 * y9 + x9))))) :: (u2, .inl (cI, 100, .inl (upd le np (nI n)))) :: (u3, .inl (cI, 100, .inl (upd ac np (gz ac9)))) :: (u4, .inl (cI, 100, .inl (upd se np f9))) :: (u5, .inl (cI, 100, .inl (upd hh np b9))) :: (u6, .inl (cI, 100, .inl (ou))) :: (u7, .inl (cI, 80, .inl (setL cover (pcl (x9, y9, n, f9, b9, ac9, false, false)) (nI np) n))) :: (u8, .inl (cI, 8, .inl (sun))) :: (u9, .inl (cI, 80, .inl (rw))) :: (u10, .inl (cI, 80, .inl (fo))) :: (u11, .inr (2, [.int (nI hr), .ref u12, .ref u0])) :: (u12, .inl (cI, 80, .inl (wet))) :: (u13, .inr (2, [.int ah, .ref u14, .ref u0])) :: (u14, .inl (cI, 80, .inl (aw))) :: Z)) C k_X3_press_inX3 tyX3 tyX3_ok nmX3 0 rfl rfl 1 (by decide) k_X3_press_2 rfl rfl (by decide +kernel) rfl rfl (Nat.le_of_ble_eq_true rfl) dX3_press_167 rfl ?_
                refine g_aload_n C dX3_press_170 rfl 0 rfl ?_
                refine g_get (v := .int (nI (np + 1))) (ci := 3) (Cn := RX3) (T := TX3) (N := 14) C k_X3_press_inX3 gm0 rfl 1 (by decide) k_X3_press_2 rfl rfl dX3_press_171 ?_
                refine g_iconst (v := 1) C dX3_press_174 (by decide) ?_
                refine g_isub C dX3_press_175 ?_
                refine g_eqi (x := (nI (np + 1)) - 1) (y := nI np) ((sub1N (np + 1) (by omega)).trans (by rw [Nat.add_sub_cancel])) ?_
                refine g_iret C hQ (Nat.le_of_ble_eq_true rfl) (Nat.le_of_ble_eq_true rfl) dX3_press_176 ?_
                refine Or.inl ⟨by first | (simp [cdPr, *]; done) | (rw [c_7] at hrm9; simp [cdPr, *]), ?_, ?_⟩
                · rfl
                · simp only [hclx9, hcly9, hcln]
              · skip
                replace c_7 := gzn.mp c_7
                refine g_iconst (v := 1) C dX3_press_120 (by decide) ?_
                refine g_goto (tgt := 125) C dX3_press_121 (by decide) ?_
                refine g_eqi (x := 1) (y := gz ac9) (by first | (simp [gz, *]; done) | (simp_all [gz]; done)) ?_
                refine g_iast (ws' := ((u0, .inr (3, [.int 0, .int (nI np), .ref u1, .ref u2, .ref u3, .ref u4, .ref u5, .ref u6, .ref u7, .ref u8, .ref u9, .ref u10, .ref u11, .ref u13])) :: (u1, .inl (cI, 100, .inl (upd fi np (nI (10 * y9 + x9))))) :: (u2, .inl (cI, 100, .inl (upd le np (nI n)))) :: (u3, .inl (cI, 100, .inl (upd ac (nI np).toNatClampNeg (gz ac9)))) :: (u4, .inl (cI, 100, .inl (se))) :: (u5, .inl (cI, 100, .inl (hh))) :: (u6, .inl (cI, 100, .inl (ou))) :: (u7, .inl (cI, 80, .inl (cover))) :: (u8, .inl (cI, 8, .inl (sun))) :: (u9, .inl (cI, 80, .inl (rw))) :: (u10, .inl (cI, 80, .inl (fo))) :: (u11, .inr (2, [.int (nI hr), .ref u12, .ref u0])) :: (u12, .inl (cI, 80, .inl (wet))) :: (u13, .inr (2, [.int ah, .ref u14, .ref u0])) :: (u14, .inl (cI, 80, .inl (aw))) :: Z)) C 3 0 rfl ht0 (vp_in_nI (by omega) (by omega)) dX3_press_125 rfl ?_
                rw [nI_clamp (n := np) (by omega)]
                refine g_aload_n C dX3_press_126 rfl 0 rfl ?_
                refine g_get (v := .ref u4) (ci := 3) (Cn := RX3) (T := TX3) (N := 14) C k_X3_press_inX3 gm0 rfl 5 (by decide) k_X3_press_6 rfl rfl dX3_press_127 ?_
                refine g_aload_n C dX3_press_130 rfl 0 rfl ?_
                refine g_get (v := .int (nI np)) (ci := 3) (Cn := RX3) (T := TX3) (N := 14) C k_X3_press_inX3 gm0 rfl 1 (by decide) k_X3_press_2 rfl rfl dX3_press_131 ?_
                refine g_iload C dX3_press_134 5 rfl ?_
                refine g_iast (ws' := ((u0, .inr (3, [.int 0, .int (nI np), .ref u1, .ref u2, .ref u3, .ref u4, .ref u5, .ref u6, .ref u7, .ref u8, .ref u9, .ref u10, .ref u11, .ref u13])) :: (u1, .inl (cI, 100, .inl (upd fi np (nI (10 * y9 + x9))))) :: (u2, .inl (cI, 100, .inl (upd le np (nI n)))) :: (u3, .inl (cI, 100, .inl (upd ac np (gz ac9)))) :: (u4, .inl (cI, 100, .inl (upd se (nI np).toNatClampNeg f9))) :: (u5, .inl (cI, 100, .inl (hh))) :: (u6, .inl (cI, 100, .inl (ou))) :: (u7, .inl (cI, 80, .inl (cover))) :: (u8, .inl (cI, 8, .inl (sun))) :: (u9, .inl (cI, 80, .inl (rw))) :: (u10, .inl (cI, 80, .inl (fo))) :: (u11, .inr (2, [.int (nI hr), .ref u12, .ref u0])) :: (u12, .inl (cI, 80, .inl (wet))) :: (u13, .inr (2, [.int ah, .ref u14, .ref u0])) :: (u14, .inl (cI, 80, .inl (aw))) :: Z)) C 4 0 rfl ht0 (vp_in_nI (by omega) (by omega)) dX3_press_136 rfl ?_
                rw [nI_clamp (n := np) (by omega)]
                refine g_aload_n C dX3_press_137 rfl 0 rfl ?_
                refine g_get (v := .ref u5) (ci := 3) (Cn := RX3) (T := TX3) (N := 14) C k_X3_press_inX3 gm0 rfl 6 (by decide) k_X3_press_7 rfl rfl dX3_press_138 ?_
                refine g_aload_n C dX3_press_141 rfl 0 rfl ?_
                refine g_get (v := .int (nI np)) (ci := 3) (Cn := RX3) (T := TX3) (N := 14) C k_X3_press_inX3 gm0 rfl 1 (by decide) k_X3_press_2 rfl rfl dX3_press_142 ?_
                refine g_iload C dX3_press_145 6 rfl ?_
                refine g_iast (ws' := ((u0, .inr (3, [.int 0, .int (nI np), .ref u1, .ref u2, .ref u3, .ref u4, .ref u5, .ref u6, .ref u7, .ref u8, .ref u9, .ref u10, .ref u11, .ref u13])) :: (u1, .inl (cI, 100, .inl (upd fi np (nI (10 * y9 + x9))))) :: (u2, .inl (cI, 100, .inl (upd le np (nI n)))) :: (u3, .inl (cI, 100, .inl (upd ac np (gz ac9)))) :: (u4, .inl (cI, 100, .inl (upd se np f9))) :: (u5, .inl (cI, 100, .inl (upd hh (nI np).toNatClampNeg b9))) :: (u6, .inl (cI, 100, .inl (ou))) :: (u7, .inl (cI, 80, .inl (cover))) :: (u8, .inl (cI, 8, .inl (sun))) :: (u9, .inl (cI, 80, .inl (rw))) :: (u10, .inl (cI, 80, .inl (fo))) :: (u11, .inr (2, [.int (nI hr), .ref u12, .ref u0])) :: (u12, .inl (cI, 80, .inl (wet))) :: (u13, .inr (2, [.int ah, .ref u14, .ref u0])) :: (u14, .inl (cI, 80, .inl (aw))) :: Z)) C 5 0 rfl ht0 (vp_in_nI (by omega) (by omega)) dX3_press_147 rfl ?_
                rw [nI_clamp (n := np) (by omega)]
                refine g_aload_n C dX3_press_148 rfl 0 rfl ?_
                refine g_aload_n C dX3_press_149 rfl 0 rfl ?_
                refine g_get (v := .int (nI np)) (ci := 3) (Cn := RX3) (T := TX3) (N := 14) C k_X3_press_inX3 gm0 rfl 1 (by decide) k_X3_press_2 rfl rfl dX3_press_150 ?_
                refine g_aload_n C dX3_press_153 rfl 0 rfl ?_
                refine g_get (v := .int (nI np)) (ci := 3) (Cn := RX3) (T := TX3) (N := 14) C k_X3_press_inX3 gm0 rfl 1 (by decide) k_X3_press_2 rfl rfl dX3_press_154 ?_
                refine g_callV (ci := 3) (Cn := RX3) (As := [.int (nI np), .int (nI np)]) (rest := []) C gm0 rfl rfl (c_X3_coverBy l D tys cI ht0 u0 u1 u2 u3 u4 u5 u6 u7 u8 u9 u10 u11 u12 u13 u14 np 0 (upd fi np (nI (10 * y9 + x9))) (upd le np (nI n)) (upd ac np (gz ac9)) (upd se np f9) (upd hh np b9) ou cover sun rw fo wet aw hr ah Z np (x9, y9, n, f9, b9, ac9, false, false) (by omega) pk_us pk_us pk_us ⟨hn1, hn2, hx9, hy9, hrm_cel hx9 hy9 hn2 hrm9⟩ (nI np)) (cwV 2 C.ts gX3_press_X3_coverBy rfl rfl rfl (by decide +kernel) ⟨(Nat.le_of_ble_eq_true rfl), (Nat.le_of_ble_eq_true rfl)⟩) rfl rfl (Nat.le_of_ble_eq_true rfl) dX3_press_157 (Nat.le_of_ble_eq_true rfl) (Nat.le_of_ble_eq_true rfl) (g_isV (W1 := ((u0, .inr (3, [.int 0, .int (nI np), .ref u1, .ref u2, .ref u3, .ref u4, .ref u5, .ref u6, .ref u7, .ref u8, .ref u9, .ref u10, .ref u11, .ref u13])) :: (u1, .inl (cI, 100, .inl (upd fi np (nI (10 * y9 + x9))))) :: (u2, .inl (cI, 100, .inl (upd le np (nI n)))) :: (u3, .inl (cI, 100, .inl (upd ac np (gz ac9)))) :: (u4, .inl (cI, 100, .inl (upd se np f9))) :: (u5, .inl (cI, 100, .inl (upd hh np b9))) :: (u6, .inl (cI, 100, .inl (ou))) :: (u7, .inl (cI, 80, .inl (setL cover (pcl (x9, y9, n, f9, b9, ac9, false, false)) (nI np) n))) :: (u8, .inl (cI, 8, .inl (sun))) :: (u9, .inl (cI, 80, .inl (rw))) :: (u10, .inl (cI, 80, .inl (fo))) :: (u11, .inr (2, [.int (nI hr), .ref u12, .ref u0])) :: (u12, .inl (cI, 80, .inl (wet))) :: (u13, .inr (2, [.int ah, .ref u14, .ref u0])) :: (u14, .inl (cI, 80, .inl (aw))) :: Z)) ?_)
                refine g_aload_n C dX3_press_160 rfl 0 rfl ?_
                refine g_dup C dX3_press_161 rfl ?_
                refine g_get (v := .int (nI np)) (ci := 3) (Cn := RX3) (T := TX3) (N := 14) C k_X3_press_inX3 gm0 rfl 1 (by decide) k_X3_press_2 rfl rfl dX3_press_162 ?_
                refine g_iconst (v := 1) C dX3_press_165 (by decide) ?_
                refine g_iadd C dX3_press_166 ?_
                refine g_eqi (x := (nI np) + 1) (y := nI (np + 1)) (nI_add _ 1) ?_
                refine g_put (ci := 3) (Cn := RX3) (T := TX3) (N := 14) (ty := .int) (ws' := ((u0, .inr (3, [.int 0, .int (nI (np + 1)), .ref u1, .ref u2, .ref u3, .ref u4, .ref u5, .ref u6, .ref u7, .ref u8, .ref u9, .ref u10, .ref u11, .ref u13])) :: (u1, .inl (cI, 100, .inl (upd fi np (nI (10 * y9 + x9))))) :: (u2, .inl (cI, 100, .inl (upd le np (nI n)))) :: (u3, .inl (cI, 100, .inl (upd ac np (gz ac9)))) :: (u4, .inl (cI, 100, .inl (upd se np f9))) :: (u5, .inl (cI, 100, .inl (upd hh np b9))) :: (u6, .inl (cI, 100, .inl (ou))) :: (u7, .inl (cI, 80, .inl (setL cover (pcl (x9, y9, n, f9, b9, ac9, false, false)) (nI np) n))) :: (u8, .inl (cI, 8, .inl (sun))) :: (u9, .inl (cI, 80, .inl (rw))) :: (u10, .inl (cI, 80, .inl (fo))) :: (u11, .inr (2, [.int (nI hr), .ref u12, .ref u0])) :: (u12, .inl (cI, 80, .inl (wet))) :: (u13, .inr (2, [.int ah, .ref u14, .ref u0])) :: (u14, .inl (cI, 80, .inl (aw))) :: Z)) C k_X3_press_inX3 tyX3 tyX3_ok nmX3 0 rfl rfl 1 (by decide) k_X3_press_2 rfl rfl (by decide +kernel) rfl rfl (Nat.le_of_ble_eq_true rfl) dX3_press_167 rfl ?_
                refine g_aload_n C dX3_press_170 rfl 0 rfl ?_
                refine g_get (v := .int (nI (np + 1))) (ci := 3) (Cn := RX3) (T := TX3) (N := 14) C k_X3_press_inX3 gm0 rfl 1 (by decide) k_X3_press_2 rfl rfl dX3_press_171 ?_
                refine g_iconst (v := 1) C dX3_press_174 (by decide) ?_
                refine g_isub C dX3_press_175 ?_
                refine g_eqi (x := (nI (np + 1)) - 1) (y := nI np) ((sub1N (np + 1) (by omega)).trans (by rw [Nat.add_sub_cancel])) ?_
                refine g_iret C hQ (Nat.le_of_ble_eq_true rfl) (Nat.le_of_ble_eq_true rfl) dX3_press_176 ?_
                refine Or.inl ⟨by first | (simp [cdPr, *]; done) | (rw [c_7] at hrm9; simp [cdPr, *]), ?_, ?_⟩
                · rfl
                · simp only [hclx9, hcly9, hcln]
            · skip
              replace c_6 := gz0.mp c_6
              have hrm9 := c_6
              rw [← lie_hrm (by omega) (by omega) hn1 hn2] at hrm9
              refine g_aload_n C dX3_press_76 rfl 0 rfl ?_
              refine g_iconst (v := 3) C dX3_press_77 (by decide) ?_
              refine g_callV (ci := 3) (Cn := RX3) (As := [.int 3]) (rest := []) C gm0 rfl rfl (c_X3_no l D tys cI ht0 u0 u1 u2 u3 u4 u5 u6 u7 u8 u9 u10 u11 u12 u13 u14 np 0 fi le ac se hh ou cover sun rw fo wet aw hr ah Z 3) (cwV 1 C.ts gX3_press_X3_no rfl rfl rfl (by decide +kernel) ⟨(Nat.le_of_ble_eq_true rfl), (Nat.le_of_ble_eq_true rfl)⟩) rfl rfl (Nat.le_of_ble_eq_true rfl) dX3_press_78 (Nat.le_of_ble_eq_true rfl) (Nat.le_of_ble_eq_true rfl) (g_is (x := .int 0) (W1 := ((u0, .inr (3, [.int 3, .int (nI np), .ref u1, .ref u2, .ref u3, .ref u4, .ref u5, .ref u6, .ref u7, .ref u8, .ref u9, .ref u10, .ref u11, .ref u13])) :: (u1, .inl (cI, 100, .inl (fi))) :: (u2, .inl (cI, 100, .inl (le))) :: (u3, .inl (cI, 100, .inl (ac))) :: (u4, .inl (cI, 100, .inl (se))) :: (u5, .inl (cI, 100, .inl (hh))) :: (u6, .inl (cI, 100, .inl (ou))) :: (u7, .inl (cI, 80, .inl (cover))) :: (u8, .inl (cI, 8, .inl (sun))) :: (u9, .inl (cI, 80, .inl (rw))) :: (u10, .inl (cI, 80, .inl (fo))) :: (u11, .inr (2, [.int (nI hr), .ref u12, .ref u0])) :: (u12, .inl (cI, 80, .inl (wet))) :: (u13, .inr (2, [.int ah, .ref u14, .ref u0])) :: (u14, .inl (cI, 80, .inl (aw))) :: Z)) ?_)
              refine g_iret C hQ (Nat.le_of_ble_eq_true rfl) (Nat.le_of_ble_eq_true rfl) dX3_press_81 ?_
              have e : cdPr np wet cover (nI x9) (nI y9) (nI n) ac9 f9 b9 = 3 := by simp [cdPr, *]
              exact Or.inr ⟨by rw [e]; decide, rfl, by rw [e]; rfl⟩
        · skip
          replace c_4 := gz0.mp c_4
          refine g_aload_n C dX3_press_44 rfl 0 rfl ?_
          refine g_iconst (v := 2) C dX3_press_45 (by decide) ?_
          refine g_callV (ci := 3) (Cn := RX3) (As := [.int 2]) (rest := []) C gm0 rfl rfl (c_X3_no l D tys cI ht0 u0 u1 u2 u3 u4 u5 u6 u7 u8 u9 u10 u11 u12 u13 u14 np 0 fi le ac se hh ou cover sun rw fo wet aw hr ah Z 2) (cwV 1 C.ts gX3_press_X3_no rfl rfl rfl (by decide +kernel) ⟨(Nat.le_of_ble_eq_true rfl), (Nat.le_of_ble_eq_true rfl)⟩) rfl rfl (Nat.le_of_ble_eq_true rfl) dX3_press_46 (Nat.le_of_ble_eq_true rfl) (Nat.le_of_ble_eq_true rfl) (g_is (x := .int 0) (W1 := ((u0, .inr (3, [.int 2, .int (nI np), .ref u1, .ref u2, .ref u3, .ref u4, .ref u5, .ref u6, .ref u7, .ref u8, .ref u9, .ref u10, .ref u11, .ref u13])) :: (u1, .inl (cI, 100, .inl (fi))) :: (u2, .inl (cI, 100, .inl (le))) :: (u3, .inl (cI, 100, .inl (ac))) :: (u4, .inl (cI, 100, .inl (se))) :: (u5, .inl (cI, 100, .inl (hh))) :: (u6, .inl (cI, 100, .inl (ou))) :: (u7, .inl (cI, 80, .inl (cover))) :: (u8, .inl (cI, 8, .inl (sun))) :: (u9, .inl (cI, 80, .inl (rw))) :: (u10, .inl (cI, 80, .inl (fo))) :: (u11, .inr (2, [.int (nI hr), .ref u12, .ref u0])) :: (u12, .inl (cI, 80, .inl (wet))) :: (u13, .inr (2, [.int ah, .ref u14, .ref u0])) :: (u14, .inl (cI, 80, .inl (aw))) :: Z)) ?_)
          refine g_iret C hQ (Nat.le_of_ble_eq_true rfl) (Nat.le_of_ble_eq_true rfl) dX3_press_49 ?_
          have e : cdPr np wet cover (nI x9) (nI y9) ln9 ac9 f9 b9 = 2 := by simp [cdPr, *]
          exact Or.inr ⟨by rw [e]; decide, rfl, by rw [e]; rfl⟩
  · skip
    replace c_1 := gz0.mp c_1
    refine g_aload_n C dX3_press_13 rfl 0 rfl ?_
    refine g_iconst (v := 1) C dX3_press_14 (by decide) ?_
    refine g_callV (ci := 3) (Cn := RX3) (As := [.int 1]) (rest := []) C gm0 rfl rfl (c_X3_no l D tys cI ht0 u0 u1 u2 u3 u4 u5 u6 u7 u8 u9 u10 u11 u12 u13 u14 np 0 fi le ac se hh ou cover sun rw fo wet aw hr ah Z 1) (cwV 1 C.ts gX3_press_X3_no rfl rfl rfl (by decide +kernel) ⟨(Nat.le_of_ble_eq_true rfl), (Nat.le_of_ble_eq_true rfl)⟩) rfl rfl (Nat.le_of_ble_eq_true rfl) dX3_press_15 (Nat.le_of_ble_eq_true rfl) (Nat.le_of_ble_eq_true rfl) (g_is (x := .int 0) (W1 := ((u0, .inr (3, [.int 1, .int (nI np), .ref u1, .ref u2, .ref u3, .ref u4, .ref u5, .ref u6, .ref u7, .ref u8, .ref u9, .ref u10, .ref u11, .ref u13])) :: (u1, .inl (cI, 100, .inl (fi))) :: (u2, .inl (cI, 100, .inl (le))) :: (u3, .inl (cI, 100, .inl (ac))) :: (u4, .inl (cI, 100, .inl (se))) :: (u5, .inl (cI, 100, .inl (hh))) :: (u6, .inl (cI, 100, .inl (ou))) :: (u7, .inl (cI, 80, .inl (cover))) :: (u8, .inl (cI, 8, .inl (sun))) :: (u9, .inl (cI, 80, .inl (rw))) :: (u10, .inl (cI, 80, .inl (fo))) :: (u11, .inr (2, [.int (nI hr), .ref u12, .ref u0])) :: (u12, .inl (cI, 80, .inl (wet))) :: (u13, .inr (2, [.int ah, .ref u14, .ref u0])) :: (u14, .inl (cI, 80, .inl (aw))) :: Z)) ?_)
    refine g_iret C hQ (Nat.le_of_ble_eq_true rfl) (Nat.le_of_ble_eq_true rfl) dX3_press_18 ?_
    have e : cdPr np wet cover x y ln9 ac9 f9 b9 = 1 := by simp [cdPr, *]
    exact Or.inr ⟨by rw [e]; decide, rfl, by rw [e]; rfl⟩

theorem k_X3_advise_inX3 : ∀ w ∈ wsX30, w ∈ wsX3_advise := by decide +kernel
theorem k_X3_advise_1 : Cond.fieldLink RX3 55 "WetMosaicModel" "thrown" "I" ∈ wsX3_advise := by decide +kernel
theorem k_X3_advise_2 : Cond.fieldLink RX3 63 "WetMosaicModel" "pieces" "I" ∈ wsX3_advise := by decide +kernel
theorem k_X3_advise_3 : Cond.fieldLink RX3 45 "WetMosaicModel" "s" "LWetMosaicModel$State;" ∈ wsX3_advise := by decide +kernel
set_option maxHeartbeats 4000000 in
set_option maxRecDepth 100000 in
theorem c_X3_advise (l : Launch) (D : va_G) (tys : List (ClassId × FieldType)) (cI : ClassId) (ht0 : tys[0]? = some (cI, .int)) (u0 u1 u2 u3 u4 u5 u6 u7 u8 u9 u10 u11 u12 u13 u14 np : Nat) (th : Int32) (fi le ac se hh ou cover sun rw fo wet aw : Nat → Int32) (hr : Nat) (ah : Int32) (Z : va_W) (P : Nat → Pd) (hnp : np ≤ 100) (hR : Mrel np P fi le ac se hh ou) (hg : Pok np P) (hcv : CovOk np cover) (k9 a b : Int32) : gM l yX3_advise wsX3_advise ({ frames := 3, cells := 0, slots := 0, locals := 73 } : Room) D tys [.ref u0, .int k9, .int a, .int b] ((u0, .inr (3, [.int th, .int (nI np), .ref u1, .ref u2, .ref u3, .ref u4, .ref u5, .ref u6, .ref u7, .ref u8, .ref u9, .ref u10, .ref u11, .ref u13])) :: (u1, .inl (cI, 100, .inl (fi))) :: (u2, .inl (cI, 100, .inl (le))) :: (u3, .inl (cI, 100, .inl (ac))) :: (u4, .inl (cI, 100, .inl (se))) :: (u5, .inl (cI, 100, .inl (hh))) :: (u6, .inl (cI, 100, .inl (ou))) :: (u7, .inl (cI, 80, .inl (cover))) :: (u8, .inl (cI, 8, .inl (sun))) :: (u9, .inl (cI, 80, .inl (rw))) :: (u10, .inl (cI, 80, .inl (fo))) :: (u11, .inr (2, [.int (nI hr), .ref u12, .ref u0])) :: (u12, .inl (cI, 80, .inl (wet))) :: (u13, .inr (2, [.int ah, .ref u14, .ref u0])) :: (u14, .inl (cI, 80, .inl (aw))) :: Z) (gMo (cdP k9 a b) (.int ((advS np P wet cover (vn k9) a b np).1)) (fun wX => wX = ((u0, .inr (3, [.int 0, .int (nI np), .ref u1, .ref u2, .ref u3, .ref u4, .ref u5, .ref u6, .ref u7, .ref u8, .ref u9, .ref u10, .ref u11, .ref u13])) :: (u1, .inl (cI, 100, .inl (fi))) :: (u2, .inl (cI, 100, .inl (le))) :: (u3, .inl (cI, 100, .inl (ac))) :: (u4, .inl (cI, 100, .inl (se))) :: (u5, .inl (cI, 100, .inl (hh))) :: (u6, .inl (cI, 100, .inl (ou))) :: (u7, .inl (cI, 80, .inl (cover))) :: (u8, .inl (cI, 8, .inl (sun))) :: (u9, .inl (cI, 80, .inl (rw))) :: (u10, .inl (cI, 80, .inl (fo))) :: (u11, .inr (2, [.int (nI hr), .ref u12, .ref u0])) :: (u12, .inl (cI, 80, .inl (wet))) :: (u13, .inr (2, [.int ah, .ref u14, .ref u0])) :: (u14, .inl (cI, 80, .inl (aw))) :: Z)) ((u0, .inr (3, [.int (nI (cdP k9 a b)), .int (nI np), .ref u1, .ref u2, .ref u3, .ref u4, .ref u5, .ref u6, .ref u7, .ref u8, .ref u9, .ref u10, .ref u11, .ref u13])) :: (u1, .inl (cI, 100, .inl (fi))) :: (u2, .inl (cI, 100, .inl (le))) :: (u3, .inl (cI, 100, .inl (ac))) :: (u4, .inl (cI, 100, .inl (se))) :: (u5, .inl (cI, 100, .inl (hh))) :: (u6, .inl (cI, 100, .inl (ou))) :: (u7, .inl (cI, 80, .inl (cover))) :: (u8, .inl (cI, 8, .inl (sun))) :: (u9, .inl (cI, 80, .inl (rw))) :: (u10, .inl (cI, 80, .inl (fo))) :: (u11, .inr (2, [.int (nI hr), .ref u12, .ref u0])) :: (u12, .inl (cI, 80, .inl (wet))) :: (u13, .inr (2, [.int ah, .ref u14, .ref u0])) :: (u14, .inl (cI, 80, .inl (aw))) :: Z)) 0 0 := by
  refine gM_of (by decide +kernel) rfl (Nat.le_of_ble_eq_true rfl) ?_
  intro p e s m args below meth c A Q hin C hQ
  refine g_sub [0, 1, 2, 3] (lv' := [(0, .ref u0), (1, .int k9), (2, .int a), (3, .int b)]) rfl ?_
  refine g_aload_n C dX3_advise_0 rfl 0 rfl ?_
  refine g_iconst (v := 0) C dX3_advise_1 (by decide) ?_
  refine g_put (ci := 3) (Cn := RX3) (T := TX3) (N := 14) (ty := .int) (ws' := ((u0, .inr (3, [.int 0, .int (nI np), .ref u1, .ref u2, .ref u3, .ref u4, .ref u5, .ref u6, .ref u7, .ref u8, .ref u9, .ref u10, .ref u11, .ref u13])) :: (u1, .inl (cI, 100, .inl (fi))) :: (u2, .inl (cI, 100, .inl (le))) :: (u3, .inl (cI, 100, .inl (ac))) :: (u4, .inl (cI, 100, .inl (se))) :: (u5, .inl (cI, 100, .inl (hh))) :: (u6, .inl (cI, 100, .inl (ou))) :: (u7, .inl (cI, 80, .inl (cover))) :: (u8, .inl (cI, 8, .inl (sun))) :: (u9, .inl (cI, 80, .inl (rw))) :: (u10, .inl (cI, 80, .inl (fo))) :: (u11, .inr (2, [.int (nI hr), .ref u12, .ref u0])) :: (u12, .inl (cI, 80, .inl (wet))) :: (u13, .inr (2, [.int ah, .ref u14, .ref u0])) :: (u14, .inl (cI, 80, .inl (aw))) :: Z)) C k_X3_advise_inX3 tyX3 tyX3_ok nmX3 0 rfl rfl 0 (by decide) k_X3_advise_1 rfl rfl (by decide +kernel) rfl rfl (Nat.le_of_ble_eq_true rfl) dX3_advise_2 rfl ?_
  refine g_iload_n C dX3_advise_5 rfl 1 rfl ?_
  refine g_iload_n C dX3_advise_6 rfl 2 rfl ?_
  refine g_iload_n C dX3_advise_7 rfl 3 rfl ?_
  refine g_callS (As := [.int k9, .int a, .int b]) (rest := []) C (c_X3_isPattern l D tys ((u0, .inr (3, [.int 0, .int (nI np), .ref u1, .ref u2, .ref u3, .ref u4, .ref u5, .ref u6, .ref u7, .ref u8, .ref u9, .ref u10, .ref u11, .ref u13])) :: (u1, .inl (cI, 100, .inl (fi))) :: (u2, .inl (cI, 100, .inl (le))) :: (u3, .inl (cI, 100, .inl (ac))) :: (u4, .inl (cI, 100, .inl (se))) :: (u5, .inl (cI, 100, .inl (hh))) :: (u6, .inl (cI, 100, .inl (ou))) :: (u7, .inl (cI, 80, .inl (cover))) :: (u8, .inl (cI, 8, .inl (sun))) :: (u9, .inl (cI, 80, .inl (rw))) :: (u10, .inl (cI, 80, .inl (fo))) :: (u11, .inr (2, [.int (nI hr), .ref u12, .ref u0])) :: (u12, .inl (cI, 80, .inl (wet))) :: (u13, .inr (2, [.int ah, .ref u14, .ref u0])) :: (u14, .inl (cI, 80, .inl (aw))) :: Z) k9 a b) (va_cwS 3 C.ts gX3_advise_X3_isPattern rfl rfl rfl (by decide +kernel) ⟨(Nat.le_of_ble_eq_true rfl), (Nat.le_of_ble_eq_true rfl)⟩) rfl rfl (Nat.le_of_ble_eq_true rfl) dX3_advise_8 (Nat.le_of_ble_eq_true rfl) (Nat.le_of_ble_eq_true rfl) (g_is (x := .int (gz (patB k9 a b))) (W1 := ((u0, .inr (3, [.int 0, .int (nI np), .ref u1, .ref u2, .ref u3, .ref u4, .ref u5, .ref u6, .ref u7, .ref u8, .ref u9, .ref u10, .ref u11, .ref u13])) :: (u1, .inl (cI, 100, .inl (fi))) :: (u2, .inl (cI, 100, .inl (le))) :: (u3, .inl (cI, 100, .inl (ac))) :: (u4, .inl (cI, 100, .inl (se))) :: (u5, .inl (cI, 100, .inl (hh))) :: (u6, .inl (cI, 100, .inl (ou))) :: (u7, .inl (cI, 80, .inl (cover))) :: (u8, .inl (cI, 8, .inl (sun))) :: (u9, .inl (cI, 80, .inl (rw))) :: (u10, .inl (cI, 80, .inl (fo))) :: (u11, .inr (2, [.int (nI hr), .ref u12, .ref u0])) :: (u12, .inl (cI, 80, .inl (wet))) :: (u13, .inr (2, [.int ah, .ref u14, .ref u0])) :: (u14, .inl (cI, 80, .inl (aw))) :: Z)) ?_)
  refine g_if_ne (tgt := 20) C dX3_advise_11 (by decide) (fun c_1 => ?_) (fun c_1 => ?_)
  · skip
    replace c_1 := gzn.mp c_1
    have hpt : patB k9 a b = true := c_1
    have hpt2 : inR 0 3 k9 = true ∧ inR 0 6 a = true ∧ inR 0 6 b = true := by simpa [patB] using hpt
    obtain ⟨kk, hkk, rfl⟩ := inR_nI (n := 3) rfl hpt2.1
    have hclkk : vn (nI kk) = kk := nI_clamp (by omega)
    refine g_aload_n C dX3_advise_20 rfl 0 rfl ?_
    refine g_iload_n C dX3_advise_21 rfl 1 rfl ?_
    refine g_iload_n C dX3_advise_22 rfl 2 rfl ?_
    refine g_iload_n C dX3_advise_23 rfl 3 rfl ?_
    refine g_callV (ci := 3) (Cn := RX3) (As := [.int (nI kk), .int a, .int b]) (rest := []) C gm0 rfl rfl (c_X3_offBy l D tys cI ht0 ((u0, .inr (3, [.int 0, .int (nI np), .ref u1, .ref u2, .ref u3, .ref u4, .ref u5, .ref u6, .ref u7, .ref u8, .ref u9, .ref u10, .ref u11, .ref u13])) :: (u1, .inl (cI, 100, .inl (fi))) :: (u2, .inl (cI, 100, .inl (le))) :: (u3, .inl (cI, 100, .inl (ac))) :: (u4, .inl (cI, 100, .inl (se))) :: (u5, .inl (cI, 100, .inl (hh))) :: (u6, .inl (cI, 100, .inl (ou))) :: (u7, .inl (cI, 80, .inl (cover))) :: (u8, .inl (cI, 8, .inl (sun))) :: (u9, .inl (cI, 80, .inl (rw))) :: (u10, .inl (cI, 80, .inl (fo))) :: (u11, .inr (2, [.int (nI hr), .ref u12, .ref u0])) :: (u12, .inl (cI, 80, .inl (wet))) :: (u13, .inr (2, [.int ah, .ref u14, .ref u0])) :: (u14, .inl (cI, 80, .inl (aw))) :: Z) u0 u1 u2 u3 u4 u5 u6 u7 u8 u9 u10 u11 u12 u13 u14 np 0 fi le ac se hh ou P cover kk a b  (by omega) hnp hR hcv gm0 (gmT (gmT (gmT (gmT gm0)))) (gmT (gmT (gmT (gmT (gmT (gmT (gmT gm0)))))))) (cwV 3 C.ts gX3_advise_X3_offBy rfl rfl rfl (by decide +kernel) ⟨(Nat.le_of_ble_eq_true rfl), (Nat.le_of_ble_eq_true rfl)⟩) rfl rfl (Nat.le_of_ble_eq_true rfl) dX3_advise_24 (Nat.le_of_ble_eq_true rfl) (Nat.le_of_ble_eq_true rfl) (g_is (x := .int (nI (cnt (offB np P cover kk a b) 80))) (W1 := ((u0, .inr (3, [.int 0, .int (nI np), .ref u1, .ref u2, .ref u3, .ref u4, .ref u5, .ref u6, .ref u7, .ref u8, .ref u9, .ref u10, .ref u11, .ref u13])) :: (u1, .inl (cI, 100, .inl (fi))) :: (u2, .inl (cI, 100, .inl (le))) :: (u3, .inl (cI, 100, .inl (ac))) :: (u4, .inl (cI, 100, .inl (se))) :: (u5, .inl (cI, 100, .inl (hh))) :: (u6, .inl (cI, 100, .inl (ou))) :: (u7, .inl (cI, 80, .inl (cover))) :: (u8, .inl (cI, 8, .inl (sun))) :: (u9, .inl (cI, 80, .inl (rw))) :: (u10, .inl (cI, 80, .inl (fo))) :: (u11, .inr (2, [.int (nI hr), .ref u12, .ref u0])) :: (u12, .inl (cI, 80, .inl (wet))) :: (u13, .inr (2, [.int ah, .ref u14, .ref u0])) :: (u14, .inl (cI, 80, .inl (aw))) :: Z)) ?_)
    refine g_istore (lv' := [(4, .int (nI (cnt (offB np P cover kk a b) 80))), (0, .ref u0), (1, .int (nI kk)), (2, .int a), (3, .int b)]) C dX3_advise_27 (by decide) rfl ?_
    refine g_iconst (v := (-1)) C dX3_advise_29 (by decide) ?_
    refine g_istore (lv' := [(5, .int ((-1))), (4, .int (nI (cnt (offB np P cover kk a b) 80))), (0, .ref u0), (1, .int (nI kk)), (2, .int a), (3, .int b)]) C dX3_advise_30 (by decide) rfl ?_
    refine g_iconst (v := 0) C dX3_advise_32 (by decide) ?_
    refine g_istore (lv' := [(6, .int 0), (5, .int ((-1))), (4, .int (nI (cnt (offB np P cover kk a b) 80))), (0, .ref u0), (1, .int (nI kk)), (2, .int a), (3, .int b)]) C dX3_advise_33 (by decide) rfl ?_
    have lp35 : ∀ (n9 : Nat) (i fe : Nat) (be : Int32) (hb : (advS np P wet cover kk a b i).1 = be) (hf : (advS np P wet cover kk a b i).2 = fe) (hi : i ≤ np) (hn : np + 1 ≤ i + n9), G p l e ({ frames := 3, cells := 0, slots := 0, locals := 73 } : Room) s m args below meth c D A s.heap 8 0 0 Q 35 [(0, .ref u0), (1, .int (nI kk)), (2, .int a), (3, .int b), (4, .int (nI fe)), (5, .int be), (6, .int (nI i))] [] ((u0, .inr (3, [.int 0, .int (nI np), .ref u1, .ref u2, .ref u3, .ref u4, .ref u5, .ref u6, .ref u7, .ref u8, .ref u9, .ref u10, .ref u11, .ref u13])) :: (u1, .inl (cI, 100, .inl (fi))) :: (u2, .inl (cI, 100, .inl (le))) :: (u3, .inl (cI, 100, .inl (ac))) :: (u4, .inl (cI, 100, .inl (se))) :: (u5, .inl (cI, 100, .inl (hh))) :: (u6, .inl (cI, 100, .inl (ou))) :: (u7, .inl (cI, 80, .inl (cover))) :: (u8, .inl (cI, 8, .inl (sun))) :: (u9, .inl (cI, 80, .inl (rw))) :: (u10, .inl (cI, 80, .inl (fo))) :: (u11, .inr (2, [.int (nI hr), .ref u12, .ref u0])) :: (u12, .inl (cI, 80, .inl (wet))) :: (u13, .inr (2, [.int ah, .ref u14, .ref u0])) :: (u14, .inl (cI, 80, .inl (aw))) :: Z) := by
      intro n9
      induction n9 with
      | zero =>
        intro i fe be hb hf hi hn
        exfalso; omega
      | succ n9 ih =>
        intro i fe be hb hf hi hn
        have hfe := advS_n np P wet cover kk a b i
        refine g_iload C dX3_advise_35 6 rfl ?_
        refine g_aload_n C dX3_advise_37 rfl 0 rfl ?_
        refine g_get (v := .int (nI np)) (ci := 3) (Cn := RX3) (T := TX3) (N := 14) C k_X3_advise_inX3 gm0 rfl 1 (by decide) k_X3_advise_2 rfl rfl dX3_advise_38 ?_
        refine g_icmp_ge (tgt := 104) C dX3_advise_41 (by decide) (fun c_2 => ?_) (fun c_2 => ?_)
        · skip
          rw [nI_leI (by omega) (by omega)] at c_2
          refine g_iload C dX3_advise_104 5 rfl ?_
          refine g_iret C hQ (Nat.le_of_ble_eq_true rfl) (Nat.le_of_ble_eq_true rfl) dX3_advise_106 ?_
          refine Or.inl ⟨by simp [cdP, *], ?_, ?_⟩
          · rw [hclkk, ← hb, show i = np by omega]
          · rfl
        · skip
          rw [nI_leI (by omega) (by omega)] at c_2
          refine g_aload_n C dX3_advise_44 rfl 0 rfl ?_
          refine g_get (v := .ref u11) (ci := 3) (Cn := RX3) (T := TX3) (N := 14) C k_X3_advise_inX3 gm0 rfl 12 (by decide) k_X3_advise_3 rfl rfl dX3_advise_45 ?_
          refine g_iload C dX3_advise_48 6 rfl ?_
          refine g_callV (ci := 2) (Cn := RX2) (As := [.int (nI i)]) (rest := []) C (gmT (gmT (gmT (gmT (gmT (gmT (gmT (gmT (gmT (gmT (gmT gm0))))))))))) rfl rfl (c_X2_isLoose l D tys cI ht0 ((u0, .inr (3, [.int 0, .int (nI np), .ref u1, .ref u2, .ref u3, .ref u4, .ref u5, .ref u6, .ref u7, .ref u8, .ref u9, .ref u10, .ref u11, .ref u13])) :: (u1, .inl (cI, 100, .inl (fi))) :: (u2, .inl (cI, 100, .inl (le))) :: (u3, .inl (cI, 100, .inl (ac))) :: (u4, .inl (cI, 100, .inl (se))) :: (u5, .inl (cI, 100, .inl (hh))) :: (u6, .inl (cI, 100, .inl (ou))) :: (u7, .inl (cI, 80, .inl (cover))) :: (u8, .inl (cI, 8, .inl (sun))) :: (u9, .inl (cI, 80, .inl (rw))) :: (u10, .inl (cI, 80, .inl (fo))) :: (u11, .inr (2, [.int (nI hr), .ref u12, .ref u0])) :: (u12, .inl (cI, 80, .inl (wet))) :: (u13, .inr (2, [.int ah, .ref u14, .ref u0])) :: (u14, .inl (cI, 80, .inl (aw))) :: Z) u0 u1 u2 u3 u4 u5 u6 u7 u8 u9 u10 u11 u12 u13 u14 np 0 fi le ac se hh ou P u11 u12 (nI hr) wet i (by omega) hnp hR (hg i (by omega)) gm0 (gmT (gmT (gmT (gmT (gmT (gmT (gmT (gmT (gmT (gmT (gmT gm0))))))))))) (gmT (gmT (gmT (gmT (gmT (gmT (gmT (gmT (gmT (gmT (gmT (gmT gm0)))))))))))) (gmT gm0) (gmT (gmT gm0)) (gmT (gmT (gmT gm0))) (gmT (gmT (gmT (gmT (gmT (gmT gm0))))))) (cwV 1 C.ts gX3_advise_X2_isLoose rfl rfl rfl (by decide +kernel) ⟨(Nat.le_of_ble_eq_true rfl), (Nat.le_of_ble_eq_true rfl)⟩) rfl rfl (Nat.le_of_ble_eq_true rfl) dX3_advise_50 (Nat.le_of_ble_eq_true rfl) (Nat.le_of_ble_eq_true rfl) (g_is (x := .int (gz (lsp (P i) wet))) (W1 := ((u0, .inr (3, [.int 0, .int (nI np), .ref u1, .ref u2, .ref u3, .ref u4, .ref u5, .ref u6, .ref u7, .ref u8, .ref u9, .ref u10, .ref u11, .ref u13])) :: (u1, .inl (cI, 100, .inl (fi))) :: (u2, .inl (cI, 100, .inl (le))) :: (u3, .inl (cI, 100, .inl (ac))) :: (u4, .inl (cI, 100, .inl (se))) :: (u5, .inl (cI, 100, .inl (hh))) :: (u6, .inl (cI, 100, .inl (ou))) :: (u7, .inl (cI, 80, .inl (cover))) :: (u8, .inl (cI, 8, .inl (sun))) :: (u9, .inl (cI, 80, .inl (rw))) :: (u10, .inl (cI, 80, .inl (fo))) :: (u11, .inr (2, [.int (nI hr), .ref u12, .ref u0])) :: (u12, .inl (cI, 80, .inl (wet))) :: (u13, .inr (2, [.int ah, .ref u14, .ref u0])) :: (u14, .inl (cI, 80, .inl (aw))) :: Z)) ?_)
          refine g_if_ne (tgt := 59) C dX3_advise_53 (by decide) (fun c_3 => ?_) (fun c_3 => ?_)
          · skip
            replace c_3 := gzn.mp c_3
            refine g_aload_n C dX3_advise_59 rfl 0 rfl ?_
            refine g_iload C dX3_advise_60 6 rfl ?_
            refine g_callV (ci := 3) (Cn := RX3) (As := [.int (nI i)]) (rest := []) C gm0 rfl rfl (c_X3_swap l D tys cI ht0 u0 u1 u2 u3 u4 u5 u6 u7 u8 u9 u10 u11 u12 u13 u14 np 0 fi le ac se hh ou cover sun rw fo wet aw hr ah Z i (by omega)) (cwV 1 C.ts gX3_advise_X3_swap rfl rfl rfl (by decide +kernel) ⟨(Nat.le_of_ble_eq_true rfl), (Nat.le_of_ble_eq_true rfl)⟩) rfl rfl (Nat.le_of_ble_eq_true rfl) dX3_advise_62 (Nat.le_of_ble_eq_true rfl) (Nat.le_of_ble_eq_true rfl) (g_isV (W1 := ((u0, .inr (3, [.int 0, .int (nI np), .ref u1, .ref u2, .ref u3, .ref u4, .ref u5, .ref u6, .ref u7, .ref u8, .ref u9, .ref u10, .ref u11, .ref u13])) :: (u1, .inl (cI, 100, .inl (fi))) :: (u2, .inl (cI, 100, .inl (le))) :: (u3, .inl (cI, 100, .inl (ac))) :: (u4, .inl (cI, 100, .inl (upd se i (hh i)))) :: (u5, .inl (cI, 100, .inl (upd hh i (se i)))) :: (u6, .inl (cI, 100, .inl (ou))) :: (u7, .inl (cI, 80, .inl (cover))) :: (u8, .inl (cI, 8, .inl (sun))) :: (u9, .inl (cI, 80, .inl (rw))) :: (u10, .inl (cI, 80, .inl (fo))) :: (u11, .inr (2, [.int (nI hr), .ref u12, .ref u0])) :: (u12, .inl (cI, 80, .inl (wet))) :: (u13, .inr (2, [.int ah, .ref u14, .ref u0])) :: (u14, .inl (cI, 80, .inl (aw))) :: Z)) ?_)
            refine g_aload_n C dX3_advise_65 rfl 0 rfl ?_
            refine g_iload_n C dX3_advise_66 rfl 1 rfl ?_
            refine g_iload_n C dX3_advise_67 rfl 2 rfl ?_
            refine g_iload_n C dX3_advise_68 rfl 3 rfl ?_
            refine g_callV (ci := 3) (Cn := RX3) (As := [.int (nI kk), .int a, .int b]) (rest := []) C gm0 rfl rfl (c_X3_offBy l D tys cI ht0 ((u0, .inr (3, [.int 0, .int (nI np), .ref u1, .ref u2, .ref u3, .ref u4, .ref u5, .ref u6, .ref u7, .ref u8, .ref u9, .ref u10, .ref u11, .ref u13])) :: (u1, .inl (cI, 100, .inl (fi))) :: (u2, .inl (cI, 100, .inl (le))) :: (u3, .inl (cI, 100, .inl (ac))) :: (u4, .inl (cI, 100, .inl (upd se i (hh i)))) :: (u5, .inl (cI, 100, .inl (upd hh i (se i)))) :: (u6, .inl (cI, 100, .inl (ou))) :: (u7, .inl (cI, 80, .inl (cover))) :: (u8, .inl (cI, 8, .inl (sun))) :: (u9, .inl (cI, 80, .inl (rw))) :: (u10, .inl (cI, 80, .inl (fo))) :: (u11, .inr (2, [.int (nI hr), .ref u12, .ref u0])) :: (u12, .inl (cI, 80, .inl (wet))) :: (u13, .inr (2, [.int ah, .ref u14, .ref u0])) :: (u14, .inl (cI, 80, .inl (aw))) :: Z) u0 u1 u2 u3 u4 u5 u6 u7 u8 u9 u10 u11 u12 u13 u14 np 0 fi le ac (upd se i (hh i)) (upd hh i (se i)) ou (pup P i (flp (P i))) cover kk a b  (by omega) hnp (Mrel_flp hR (show i < np by omega)) hcv gm0 (gmT (gmT (gmT (gmT gm0)))) (gmT (gmT (gmT (gmT (gmT (gmT (gmT gm0)))))))) (cwV 3 C.ts gX3_advise_X3_offBy rfl rfl rfl (by decide +kernel) ⟨(Nat.le_of_ble_eq_true rfl), (Nat.le_of_ble_eq_true rfl)⟩) rfl rfl (Nat.le_of_ble_eq_true rfl) dX3_advise_69 (Nat.le_of_ble_eq_true rfl) (Nat.le_of_ble_eq_true rfl) (g_is (x := .int (nI (cnt (offB np (pup P i (flp (P i))) cover kk a b) 80))) (W1 := ((u0, .inr (3, [.int 0, .int (nI np), .ref u1, .ref u2, .ref u3, .ref u4, .ref u5, .ref u6, .ref u7, .ref u8, .ref u9, .ref u10, .ref u11, .ref u13])) :: (u1, .inl (cI, 100, .inl (fi))) :: (u2, .inl (cI, 100, .inl (le))) :: (u3, .inl (cI, 100, .inl (ac))) :: (u4, .inl (cI, 100, .inl (upd se i (hh i)))) :: (u5, .inl (cI, 100, .inl (upd hh i (se i)))) :: (u6, .inl (cI, 100, .inl (ou))) :: (u7, .inl (cI, 80, .inl (cover))) :: (u8, .inl (cI, 8, .inl (sun))) :: (u9, .inl (cI, 80, .inl (rw))) :: (u10, .inl (cI, 80, .inl (fo))) :: (u11, .inr (2, [.int (nI hr), .ref u12, .ref u0])) :: (u12, .inl (cI, 80, .inl (wet))) :: (u13, .inr (2, [.int ah, .ref u14, .ref u0])) :: (u14, .inl (cI, 80, .inl (aw))) :: Z)) ?_)
            have hcn := cnt_le (offB np (pup P i (flp (P i))) cover kk a b) 80
            refine g_istore (lv' := [(7, .int (nI (cnt (offB np (pup P i (flp (P i))) cover kk a b) 80))), (0, .ref u0), (1, .int (nI kk)), (2, .int a), (3, .int b), (4, .int (nI fe)), (5, .int be), (6, .int (nI i))]) C dX3_advise_72 (by decide) rfl ?_
            refine g_aload_n C dX3_advise_74 rfl 1 rfl ?_
            refine g_iload C dX3_advise_75 7 rfl ?_
            refine g_callV (ci := 3) (Cn := RX3) (As := [.int (nI i)]) (rest := []) C gm0 rfl rfl (c_X3_swap l D tys cI ht0 u0 u1 u2 u3 u4 u5 u6 u7 u8 u9 u10 u11 u12 u13 u14 np 0 fi le ac (upd se i (hh i)) (upd hh i (se i)) ou cover sun rw fo wet aw hr ah Z i (by omega)) (cwV 1 C.ts gX3_advise_X3_swap rfl rfl rfl (by decide +kernel) ⟨(Nat.le_of_ble_eq_true rfl), (Nat.le_of_ble_eq_true rfl)⟩) rfl rfl (Nat.le_of_ble_eq_true rfl) dX3_advise_77 (Nat.le_of_ble_eq_true rfl) (Nat.le_of_ble_eq_true rfl) (g_isV (W1 := ((u0, .inr (3, [.int 0, .int (nI np), .ref u1, .ref u2, .ref u3, .ref u4, .ref u5, .ref u6, .ref u7, .ref u8, .ref u9, .ref u10, .ref u11, .ref u13])) :: (u1, .inl (cI, 100, .inl (fi))) :: (u2, .inl (cI, 100, .inl (le))) :: (u3, .inl (cI, 100, .inl (ac))) :: (u4, .inl (cI, 100, .inl (upd (upd se i (hh i)) i ((upd hh i (se i)) i)))) :: (u5, .inl (cI, 100, .inl (upd (upd hh i (se i)) i ((upd se i (hh i)) i)))) :: (u6, .inl (cI, 100, .inl (ou))) :: (u7, .inl (cI, 80, .inl (cover))) :: (u8, .inl (cI, 8, .inl (sun))) :: (u9, .inl (cI, 80, .inl (rw))) :: (u10, .inl (cI, 80, .inl (fo))) :: (u11, .inr (2, [.int (nI hr), .ref u12, .ref u0])) :: (u12, .inl (cI, 80, .inl (wet))) :: (u13, .inr (2, [.int ah, .ref u14, .ref u0])) :: (u14, .inl (cI, 80, .inl (aw))) :: Z)) ?_)
            refine g_eqw (ws' := ((u0, .inr (3, [.int 0, .int (nI np), .ref u1, .ref u2, .ref u3, .ref u4, .ref u5, .ref u6, .ref u7, .ref u8, .ref u9, .ref u10, .ref u11, .ref u13])) :: (u1, .inl (cI, 100, .inl (fi))) :: (u2, .inl (cI, 100, .inl (le))) :: (u3, .inl (cI, 100, .inl (ac))) :: (u4, .inl (cI, 100, .inl (se))) :: (u5, .inl (cI, 100, .inl (hh))) :: (u6, .inl (cI, 100, .inl (ou))) :: (u7, .inl (cI, 80, .inl (cover))) :: (u8, .inl (cI, 8, .inl (sun))) :: (u9, .inl (cI, 80, .inl (rw))) :: (u10, .inl (cI, 80, .inl (fo))) :: (u11, .inr (2, [.int (nI hr), .ref u12, .ref u0])) :: (u12, .inl (cI, 80, .inl (wet))) :: (u13, .inr (2, [.int ah, .ref u14, .ref u0])) :: (u14, .inl (cI, 80, .inl (aw))) :: Z)) (by rw [sw2 pk_us, sw2 pk_us]) ?_
            refine g_iload C dX3_advise_80 0 rfl ?_
            refine g_iload C dX3_advise_82 5 rfl ?_
            refine g_icmp_lt (tgt := 90) C dX3_advise_84 (by decide) (fun c_4 => ?_) (fun c_4 => ?_)
            · skip
              rw [nI_ltI (by omega) (by omega)] at c_4
              refine g_iload C dX3_advise_90 0 rfl ?_
              refine g_istore (lv' := [(4, .int (nI (cnt (offB np (pup P i (flp (P i))) cover kk a b) 80))), (7, .int (nI (cnt (offB np (pup P i (flp (P i))) cover kk a b) 80))), (0, .ref u0), (1, .int (nI kk)), (2, .int a), (3, .int b), (5, .int be), (6, .int (nI i))]) C dX3_advise_92 (by decide) rfl ?_
              refine g_iload C dX3_advise_94 7 rfl ?_
              refine g_istore (lv' := [(5, .int (nI i)), (4, .int (nI (cnt (offB np (pup P i (flp (P i))) cover kk a b) 80))), (7, .int (nI (cnt (offB np (pup P i (flp (P i))) cover kk a b) 80))), (0, .ref u0), (1, .int (nI kk)), (2, .int a), (3, .int b), (6, .int (nI i))]) C dX3_advise_96 (by decide) rfl ?_
              refine g_iinc (v := nI (i + 1)) (lv' := [(6, .int (nI (i + 1))), (5, .int (nI i)), (4, .int (nI (cnt (offB np (pup P i (flp (P i))) cover kk a b) 80))), (7, .int (nI (cnt (offB np (pup P i (flp (P i))) cover kk a b) 80))), (0, .ref u0), (1, .int (nI kk)), (2, .int a), (3, .int b)]) C dX3_advise_98 7 rfl (by exact nI_add _ 1) (by decide) rfl ?_
              refine g_goto (tgt := 35) C dX3_advise_101 (by decide) ?_
              refine g_sub [4, 5, 6, 7, 2, 1, 0] (lv' := [(0, .ref u0), (1, .int (nI kk)), (2, .int a), (3, .int b), (4, .int (nI (cnt (offB np (pup P i (flp (P i))) cover kk a b) 80))), (5, .int (nI i)), (6, .int (nI (i + 1)))]) rfl ?_
              exact ih (i + 1) _ _ (by rw [advS]; first | (simp [*]; done) | (simp [*]; rw [if_pos (by omega)]) | (simp [*]; rw [if_neg (by omega)]; assumption)) (by rw [advS]; first | (simp [*]; done) | (simp [*]; rw [if_pos (by omega)]) | (simp [*]; rw [if_neg (by omega)]; assumption)) (by omega) (by omega)
            · skip
              rw [nI_ltI (by omega) (by omega)] at c_4
              refine g_goto (tgt := 98) C dX3_advise_87 (by decide) ?_
              refine g_iinc (v := nI (i + 1)) (lv' := [(6, .int (nI (i + 1))), (7, .int (nI (cnt (offB np (pup P i (flp (P i))) cover kk a b) 80))), (0, .ref u0), (1, .int (nI kk)), (2, .int a), (3, .int b), (4, .int (nI fe)), (5, .int be)]) C dX3_advise_98 7 rfl (by exact nI_add _ 1) (by decide) rfl ?_
              refine g_goto (tgt := 35) C dX3_advise_101 (by decide) ?_
              refine g_sub [2, 3, 4, 5, 6, 7, 0] (lv' := [(0, .ref u0), (1, .int (nI kk)), (2, .int a), (3, .int b), (4, .int (nI fe)), (5, .int be), (6, .int (nI (i + 1)))]) rfl ?_
              exact ih (i + 1) _ _ (by rw [advS]; first | (simp [*]; done) | (simp [*]; rw [if_pos (by omega)]) | (simp [*]; rw [if_neg (by omega)]; assumption)) (by rw [advS]; first | (simp [*]; done) | (simp [*]; rw [if_pos (by omega)]) | (simp [*]; rw [if_neg (by omega)]; assumption)) (by omega) (by omega)
          · skip
            replace c_3 := gz0.mp c_3
            refine g_goto (tgt := 98) C dX3_advise_56 (by decide) ?_
            refine g_iinc (v := nI (i + 1)) (lv' := [(6, .int (nI (i + 1))), (0, .ref u0), (1, .int (nI kk)), (2, .int a), (3, .int b), (4, .int (nI fe)), (5, .int be)]) C dX3_advise_98 6 rfl (by exact nI_add _ 1) (by decide) rfl ?_
            refine g_goto (tgt := 35) C dX3_advise_101 (by decide) ?_
            refine g_sub [1, 2, 3, 4, 5, 6, 0] (lv' := [(0, .ref u0), (1, .int (nI kk)), (2, .int a), (3, .int b), (4, .int (nI fe)), (5, .int be), (6, .int (nI (i + 1)))]) rfl ?_
            exact ih (i + 1) _ _ (by rw [advS]; first | (simp [*]; done) | (simp [*]; rw [if_pos (by omega)]) | (simp [*]; rw [if_neg (by omega)]; assumption)) (by rw [advS]; first | (simp [*]; done) | (simp [*]; rw [if_pos (by omega)]) | (simp [*]; rw [if_neg (by omega)]; assumption)) (by omega) (by omega)
    refine g_sub [3, 4, 5, 6, 2, 1, 0] (lv' := [(0, .ref u0), (1, .int (nI kk)), (2, .int a), (3, .int b), (4, .int (nI (cnt (offB np P cover kk a b) 80))), (5, .int ((-1))), (6, .int 0)]) rfl ?_
    exact lp35 (np + 1) 0 _ _ rfl rfl (by omega) (by omega)
  · skip
    replace c_1 := gz0.mp c_1
    refine g_aload_n C dX3_advise_14 rfl 0 rfl ?_
    refine g_iconst (v := 1) C dX3_advise_15 (by decide) ?_
    refine g_callV (ci := 3) (Cn := RX3) (As := [.int 1]) (rest := []) C gm0 rfl rfl (c_X3_no l D tys cI ht0 u0 u1 u2 u3 u4 u5 u6 u7 u8 u9 u10 u11 u12 u13 u14 np 0 fi le ac se hh ou cover sun rw fo wet aw hr ah Z 1) (cwV 1 C.ts gX3_advise_X3_no rfl rfl rfl (by decide +kernel) ⟨(Nat.le_of_ble_eq_true rfl), (Nat.le_of_ble_eq_true rfl)⟩) rfl rfl (Nat.le_of_ble_eq_true rfl) dX3_advise_16 (Nat.le_of_ble_eq_true rfl) (Nat.le_of_ble_eq_true rfl) (g_is (x := .int 0) (W1 := ((u0, .inr (3, [.int 1, .int (nI np), .ref u1, .ref u2, .ref u3, .ref u4, .ref u5, .ref u6, .ref u7, .ref u8, .ref u9, .ref u10, .ref u11, .ref u13])) :: (u1, .inl (cI, 100, .inl (fi))) :: (u2, .inl (cI, 100, .inl (le))) :: (u3, .inl (cI, 100, .inl (ac))) :: (u4, .inl (cI, 100, .inl (se))) :: (u5, .inl (cI, 100, .inl (hh))) :: (u6, .inl (cI, 100, .inl (ou))) :: (u7, .inl (cI, 80, .inl (cover))) :: (u8, .inl (cI, 8, .inl (sun))) :: (u9, .inl (cI, 80, .inl (rw))) :: (u10, .inl (cI, 80, .inl (fo))) :: (u11, .inr (2, [.int (nI hr), .ref u12, .ref u0])) :: (u12, .inl (cI, 80, .inl (wet))) :: (u13, .inr (2, [.int ah, .ref u14, .ref u0])) :: (u14, .inl (cI, 80, .inl (aw))) :: Z)) ?_)
    refine g_iret C hQ (Nat.le_of_ble_eq_true rfl) (Nat.le_of_ble_eq_true rfl) dX3_advise_19 ?_
    have e : cdP k9 a b = 1 := by simp [cdP, *]
    exact Or.inr ⟨by rw [e]; decide, rfl, by rw [e]; rfl⟩

theorem k_X3_gap_inX3 : ∀ w ∈ wsX30, w ∈ wsX3_gap := by decide +kernel
theorem k_X3_gap_1 : Cond.fieldLink RX3 55 "WetMosaicModel" "thrown" "I" ∈ wsX3_gap := by decide +kernel
theorem k_X3_gap_2 : Cond.fieldLink RX3 28 "WetMosaicModel" "cover" "[I" ∈ wsX3_gap := by decide +kernel
set_option maxHeartbeats 4000000 in
set_option maxRecDepth 100000 in
theorem c_X3_gap (l : Launch) (D : va_G) (tys : List (ClassId × FieldType)) (cI : ClassId) (ht0 : tys[0]? = some (cI, .int)) (u0 u1 u2 u3 u4 u5 u6 u7 u8 u9 u10 u11 u12 u13 u14 np : Nat) (th : Int32) (fi le ac se hh ou cover sun rw fo wet aw : Nat → Int32) (hr : Nat) (ah : Int32) (Z : va_W) (P : Nat → Pd) (hnp : np ≤ 100) (hR : Mrel np P fi le ac se hh ou) (hg : Pok np P) (hcv : CovOk np cover) (x y : Int32) : gM l yX3_gap wsX3_gap ({ frames := 4, cells := 0, slots := 0, locals := 90 } : Room) D tys [.ref u0, .int x, .int y] ((u0, .inr (3, [.int th, .int (nI np), .ref u1, .ref u2, .ref u3, .ref u4, .ref u5, .ref u6, .ref u7, .ref u8, .ref u9, .ref u10, .ref u11, .ref u13])) :: (u1, .inl (cI, 100, .inl (fi))) :: (u2, .inl (cI, 100, .inl (le))) :: (u3, .inl (cI, 100, .inl (ac))) :: (u4, .inl (cI, 100, .inl (se))) :: (u5, .inl (cI, 100, .inl (hh))) :: (u6, .inl (cI, 100, .inl (ou))) :: (u7, .inl (cI, 80, .inl (cover))) :: (u8, .inl (cI, 8, .inl (sun))) :: (u9, .inl (cI, 80, .inl (rw))) :: (u10, .inl (cI, 80, .inl (fo))) :: (u11, .inr (2, [.int (nI hr), .ref u12, .ref u0])) :: (u12, .inl (cI, 80, .inl (wet))) :: (u13, .inr (2, [.int ah, .ref u14, .ref u0])) :: (u14, .inl (cI, 80, .inl (aw))) :: Z) (gMo (cdO x y) (.int (gapM cover rw (10 * vn y + vn x))) (fun wX => wX = ((u0, .inr (3, [.int 0, .int (nI np), .ref u1, .ref u2, .ref u3, .ref u4, .ref u5, .ref u6, .ref u7, .ref u8, .ref u9, .ref u10, .ref u11, .ref u13])) :: (u1, .inl (cI, 100, .inl (fi))) :: (u2, .inl (cI, 100, .inl (le))) :: (u3, .inl (cI, 100, .inl (ac))) :: (u4, .inl (cI, 100, .inl (se))) :: (u5, .inl (cI, 100, .inl (hh))) :: (u6, .inl (cI, 100, .inl (ou))) :: (u7, .inl (cI, 80, .inl (cover))) :: (u8, .inl (cI, 8, .inl (sun))) :: (u9, .inl (cI, 80, .inl ((menW cover rw fo (10 * vn y + vn x)).2))) :: (u10, .inl (cI, 80, .inl ((menW cover rw fo (10 * vn y + vn x)).1))) :: (u11, .inr (2, [.int (nI hr), .ref u12, .ref u0])) :: (u12, .inl (cI, 80, .inl (wet))) :: (u13, .inr (2, [.int ah, .ref u14, .ref u0])) :: (u14, .inl (cI, 80, .inl (aw))) :: Z)) ((u0, .inr (3, [.int (nI (cdO x y)), .int (nI np), .ref u1, .ref u2, .ref u3, .ref u4, .ref u5, .ref u6, .ref u7, .ref u8, .ref u9, .ref u10, .ref u11, .ref u13])) :: (u1, .inl (cI, 100, .inl (fi))) :: (u2, .inl (cI, 100, .inl (le))) :: (u3, .inl (cI, 100, .inl (ac))) :: (u4, .inl (cI, 100, .inl (se))) :: (u5, .inl (cI, 100, .inl (hh))) :: (u6, .inl (cI, 100, .inl (ou))) :: (u7, .inl (cI, 80, .inl (cover))) :: (u8, .inl (cI, 8, .inl (sun))) :: (u9, .inl (cI, 80, .inl (rw))) :: (u10, .inl (cI, 80, .inl (fo))) :: (u11, .inr (2, [.int (nI hr), .ref u12, .ref u0])) :: (u12, .inl (cI, 80, .inl (wet))) :: (u13, .inr (2, [.int ah, .ref u14, .ref u0])) :: (u14, .inl (cI, 80, .inl (aw))) :: Z)) 0 0 := by
  refine gM_of (by decide +kernel) rfl (Nat.le_of_ble_eq_true rfl) ?_
  intro p e s m args below meth c A Q hin C hQ
  refine g_sub [0, 1, 2] (lv' := [(0, .ref u0), (1, .int x), (2, .int y)]) rfl ?_
  refine g_aload_n C dX3_gap_0 rfl 0 rfl ?_
  refine g_iconst (v := 0) C dX3_gap_1 (by decide) ?_
  refine g_put (ci := 3) (Cn := RX3) (T := TX3) (N := 14) (ty := .int) (ws' := ((u0, .inr (3, [.int 0, .int (nI np), .ref u1, .ref u2, .ref u3, .ref u4, .ref u5, .ref u6, .ref u7, .ref u8, .ref u9, .ref u10, .ref u11, .ref u13])) :: (u1, .inl (cI, 100, .inl (fi))) :: (u2, .inl (cI, 100, .inl (le))) :: (u3, .inl (cI, 100, .inl (ac))) :: (u4, .inl (cI, 100, .inl (se))) :: (u5, .inl (cI, 100, .inl (hh))) :: (u6, .inl (cI, 100, .inl (ou))) :: (u7, .inl (cI, 80, .inl (cover))) :: (u8, .inl (cI, 8, .inl (sun))) :: (u9, .inl (cI, 80, .inl (rw))) :: (u10, .inl (cI, 80, .inl (fo))) :: (u11, .inr (2, [.int (nI hr), .ref u12, .ref u0])) :: (u12, .inl (cI, 80, .inl (wet))) :: (u13, .inr (2, [.int ah, .ref u14, .ref u0])) :: (u14, .inl (cI, 80, .inl (aw))) :: Z)) C k_X3_gap_inX3 tyX3 tyX3_ok nmX3 0 rfl rfl 0 (by decide) k_X3_gap_1 rfl rfl (by decide +kernel) rfl rfl (Nat.le_of_ble_eq_true rfl) dX3_gap_2 rfl ?_
  refine g_iload_n C dX3_gap_5 rfl 1 rfl ?_
  refine g_iload_n C dX3_gap_6 rfl 2 rfl ?_
  refine g_callS (As := [.int x, .int y]) (rest := []) C (c_X3_isCell l D tys ((u0, .inr (3, [.int 0, .int (nI np), .ref u1, .ref u2, .ref u3, .ref u4, .ref u5, .ref u6, .ref u7, .ref u8, .ref u9, .ref u10, .ref u11, .ref u13])) :: (u1, .inl (cI, 100, .inl (fi))) :: (u2, .inl (cI, 100, .inl (le))) :: (u3, .inl (cI, 100, .inl (ac))) :: (u4, .inl (cI, 100, .inl (se))) :: (u5, .inl (cI, 100, .inl (hh))) :: (u6, .inl (cI, 100, .inl (ou))) :: (u7, .inl (cI, 80, .inl (cover))) :: (u8, .inl (cI, 8, .inl (sun))) :: (u9, .inl (cI, 80, .inl (rw))) :: (u10, .inl (cI, 80, .inl (fo))) :: (u11, .inr (2, [.int (nI hr), .ref u12, .ref u0])) :: (u12, .inl (cI, 80, .inl (wet))) :: (u13, .inr (2, [.int ah, .ref u14, .ref u0])) :: (u14, .inl (cI, 80, .inl (aw))) :: Z) x y) (va_cwS 2 C.ts gX3_gap_X3_isCell rfl rfl rfl (by decide +kernel) ⟨(Nat.le_of_ble_eq_true rfl), (Nat.le_of_ble_eq_true rfl)⟩) rfl rfl (Nat.le_of_ble_eq_true rfl) dX3_gap_7 (Nat.le_of_ble_eq_true rfl) (Nat.le_of_ble_eq_true rfl) (g_is (x := .int (gz (onW x y))) (W1 := ((u0, .inr (3, [.int 0, .int (nI np), .ref u1, .ref u2, .ref u3, .ref u4, .ref u5, .ref u6, .ref u7, .ref u8, .ref u9, .ref u10, .ref u11, .ref u13])) :: (u1, .inl (cI, 100, .inl (fi))) :: (u2, .inl (cI, 100, .inl (le))) :: (u3, .inl (cI, 100, .inl (ac))) :: (u4, .inl (cI, 100, .inl (se))) :: (u5, .inl (cI, 100, .inl (hh))) :: (u6, .inl (cI, 100, .inl (ou))) :: (u7, .inl (cI, 80, .inl (cover))) :: (u8, .inl (cI, 8, .inl (sun))) :: (u9, .inl (cI, 80, .inl (rw))) :: (u10, .inl (cI, 80, .inl (fo))) :: (u11, .inr (2, [.int (nI hr), .ref u12, .ref u0])) :: (u12, .inl (cI, 80, .inl (wet))) :: (u13, .inr (2, [.int ah, .ref u14, .ref u0])) :: (u14, .inl (cI, 80, .inl (aw))) :: Z)) ?_)
  refine g_if_ne (tgt := 19) C dX3_gap_10 (by decide) (fun c_1 => ?_) (fun c_1 => ?_)
  · skip
    replace c_1 := gzn.mp c_1
    have how : onW x y = true := c_1
    have how2 : inR 0 9 x = true ∧ inR 0 7 y = true := by simpa [onW] using how
    obtain ⟨x9, hx9, rfl⟩ := inR_nI (n := 9) rfl how2.1
    have hclx9 : vn (nI x9) = x9 := nI_clamp (by omega)
    obtain ⟨y9, hy9, rfl⟩ := inR_nI (n := 7) rfl how2.2
    have hcly9 : vn (nI y9) = y9 := nI_clamp (by omega)
    refine g_aload_n C dX3_gap_19 rfl 0 rfl ?_
    refine g_get (v := .ref u7) (ci := 3) (Cn := RX3) (T := TX3) (N := 14) C k_X3_gap_inX3 gm0 rfl 8 (by decide) k_X3_gap_2 rfl rfl dX3_gap_20 ?_
    refine g_bipush (v := 10) C dX3_gap_23 (by decide) ?_
    refine g_iload_n C dX3_gap_25 rfl 2 rfl ?_
    refine g_imul C dX3_gap_26 ?_
    refine g_iload_n C dX3_gap_27 rfl 1 rfl ?_
    refine g_iadd C dX3_gap_28 ?_
    refine g_eqi (x := (10 * (nI y9)) + (nI x9)) (y := nI (10 * y9 + x9)) (cel_nI _ _) ?_
    refine g_iald C 0 (gmT (gmT (gmT (gmT (gmT (gmT (gmT gm0))))))) ht0 (vp_in_nI (by omega) (by omega)) dX3_gap_29 ?_
    refine g_eqi (x := cover (nI (10 * y9 + x9)).toNatClampNeg) (y := cover (10 * y9 + x9)) (by rw [nI_clamp (by omega)]) ?_
    refine g_iconst (v := (-1)) C dX3_gap_30 (by decide) ?_
    refine g_icmp_eq (tgt := 36) C dX3_gap_31 (by decide) (fun c_2 => ?_) (fun c_2 => ?_)
    · skip
      have hcc := c_2
      refine g_aload_n C dX3_gap_36 rfl 0 rfl ?_
      refine g_callV (ci := 3) (Cn := RX3) (As := []) (rest := []) C gm0 rfl rfl (c_X3_clear l D tys cI ht0 u0 u1 u2 u3 u4 u5 u6 u7 u8 u9 u10 u11 u12 u13 u14 np 0 fi le ac se hh ou cover sun rw fo wet aw hr ah Z) (cwV 0 C.ts gX3_gap_X3_clear rfl rfl rfl (by decide +kernel) ⟨(Nat.le_of_ble_eq_true rfl), (Nat.le_of_ble_eq_true rfl)⟩) rfl rfl (Nat.le_of_ble_eq_true rfl) dX3_gap_37 (Nat.le_of_ble_eq_true rfl) (Nat.le_of_ble_eq_true rfl) (g_isV (W1 := ((u0, .inr (3, [.int 0, .int (nI np), .ref u1, .ref u2, .ref u3, .ref u4, .ref u5, .ref u6, .ref u7, .ref u8, .ref u9, .ref u10, .ref u11, .ref u13])) :: (u1, .inl (cI, 100, .inl (fi))) :: (u2, .inl (cI, 100, .inl (le))) :: (u3, .inl (cI, 100, .inl (ac))) :: (u4, .inl (cI, 100, .inl (se))) :: (u5, .inl (cI, 100, .inl (hh))) :: (u6, .inl (cI, 100, .inl (ou))) :: (u7, .inl (cI, 80, .inl (cover))) :: (u8, .inl (cI, 8, .inl (sun))) :: (u9, .inl (cI, 80, .inl (rw))) :: (u10, .inl (cI, 80, .inl (fun _ => 0))) :: (u11, .inr (2, [.int (nI hr), .ref u12, .ref u0])) :: (u12, .inl (cI, 80, .inl (wet))) :: (u13, .inr (2, [.int ah, .ref u14, .ref u0])) :: (u14, .inl (cI, 80, .inl (aw))) :: Z)) ?_)
      refine g_aload_n C dX3_gap_40 rfl 0 rfl ?_
      refine g_bipush (v := 10) C dX3_gap_41 (by decide) ?_
      refine g_iload_n C dX3_gap_43 rfl 2 rfl ?_
      refine g_imul C dX3_gap_44 ?_
      refine g_iload_n C dX3_gap_45 rfl 1 rfl ?_
      refine g_iadd C dX3_gap_46 ?_
      refine g_eqi (x := (10 * (nI y9)) + (nI x9)) (y := nI (10 * y9 + x9)) (cel_nI _ _) ?_
      refine g_callV (ci := 3) (Cn := RX3) (As := [.int (nI (10 * y9 + x9))]) (rest := []) C gm0 rfl rfl (c_X3_fill l D tys cI ht0 u0 u1 u2 u3 u4 u5 u6 u7 u8 u9 u10 u11 u12 u13 u14 np 0 fi le ac se hh ou cover sun rw (fun _ => 0) wet aw hr ah Z (10 * y9 + x9) (by omega) rfl) (cwV 1 C.ts gX3_gap_X3_fill rfl rfl rfl (by decide +kernel) ⟨(Nat.le_of_ble_eq_true rfl), (Nat.le_of_ble_eq_true rfl)⟩) rfl rfl (Nat.le_of_ble_eq_true rfl) dX3_gap_47 (Nat.le_of_ble_eq_true rfl) (Nat.le_of_ble_eq_true rfl) (g_is (x := .int (nI (flP cover (10 * y9 + x9) (fun _ => 0) rw).2.2)) (W1 := ((u0, .inr (3, [.int 0, .int (nI np), .ref u1, .ref u2, .ref u3, .ref u4, .ref u5, .ref u6, .ref u7, .ref u8, .ref u9, .ref u10, .ref u11, .ref u13])) :: (u1, .inl (cI, 100, .inl (fi))) :: (u2, .inl (cI, 100, .inl (le))) :: (u3, .inl (cI, 100, .inl (ac))) :: (u4, .inl (cI, 100, .inl (se))) :: (u5, .inl (cI, 100, .inl (hh))) :: (u6, .inl (cI, 100, .inl (ou))) :: (u7, .inl (cI, 80, .inl (cover))) :: (u8, .inl (cI, 8, .inl (sun))) :: (u9, .inl (cI, 80, .inl ((flP cover (10 * y9 + x9) (fun _ => 0) rw).2.1))) :: (u10, .inl (cI, 80, .inl ((flP cover (10 * y9 + x9) (fun _ => 0) rw).1))) :: (u11, .inr (2, [.int (nI hr), .ref u12, .ref u0])) :: (u12, .inl (cI, 80, .inl (wet))) :: (u13, .inr (2, [.int ah, .ref u14, .ref u0])) :: (u14, .inl (cI, 80, .inl (aw))) :: Z)) ?_)
      refine g_iret C hQ (Nat.le_of_ble_eq_true rfl) (Nat.le_of_ble_eq_true rfl) dX3_gap_50 ?_
      refine Or.inl ⟨by simp [cdO, *], ?_, ?_⟩
      · rw [hclx9, hcly9, gapM]; first | rw [if_pos hcc] | rw [if_neg hcc]
      · simp only [hclx9, hcly9, menW]; first | rw [if_pos hcc] | rw [if_neg hcc]
    · skip
      have hcc := c_2
      refine g_iconst (v := 0) C dX3_gap_34 (by decide) ?_
      refine g_iret C hQ (Nat.le_of_ble_eq_true rfl) (Nat.le_of_ble_eq_true rfl) dX3_gap_35 ?_
      refine Or.inl ⟨by simp [cdO, *], ?_, ?_⟩
      · rw [hclx9, hcly9, gapM]; first | rw [if_pos hcc] | rw [if_neg hcc]
      · simp only [hclx9, hcly9, menW]; first | rw [if_pos hcc] | rw [if_neg hcc]
  · skip
    replace c_1 := gz0.mp c_1
    refine g_aload_n C dX3_gap_13 rfl 0 rfl ?_
    refine g_iconst (v := 1) C dX3_gap_14 (by decide) ?_
    refine g_callV (ci := 3) (Cn := RX3) (As := [.int 1]) (rest := []) C gm0 rfl rfl (c_X3_no l D tys cI ht0 u0 u1 u2 u3 u4 u5 u6 u7 u8 u9 u10 u11 u12 u13 u14 np 0 fi le ac se hh ou cover sun rw fo wet aw hr ah Z 1) (cwV 1 C.ts gX3_gap_X3_no rfl rfl rfl (by decide +kernel) ⟨(Nat.le_of_ble_eq_true rfl), (Nat.le_of_ble_eq_true rfl)⟩) rfl rfl (Nat.le_of_ble_eq_true rfl) dX3_gap_15 (Nat.le_of_ble_eq_true rfl) (Nat.le_of_ble_eq_true rfl) (g_is (x := .int 0) (W1 := ((u0, .inr (3, [.int 1, .int (nI np), .ref u1, .ref u2, .ref u3, .ref u4, .ref u5, .ref u6, .ref u7, .ref u8, .ref u9, .ref u10, .ref u11, .ref u13])) :: (u1, .inl (cI, 100, .inl (fi))) :: (u2, .inl (cI, 100, .inl (le))) :: (u3, .inl (cI, 100, .inl (ac))) :: (u4, .inl (cI, 100, .inl (se))) :: (u5, .inl (cI, 100, .inl (hh))) :: (u6, .inl (cI, 100, .inl (ou))) :: (u7, .inl (cI, 80, .inl (cover))) :: (u8, .inl (cI, 8, .inl (sun))) :: (u9, .inl (cI, 80, .inl (rw))) :: (u10, .inl (cI, 80, .inl (fo))) :: (u11, .inr (2, [.int (nI hr), .ref u12, .ref u0])) :: (u12, .inl (cI, 80, .inl (wet))) :: (u13, .inr (2, [.int ah, .ref u14, .ref u0])) :: (u14, .inl (cI, 80, .inl (aw))) :: Z)) ?_)
    refine g_iret C hQ (Nat.le_of_ble_eq_true rfl) (Nat.le_of_ble_eq_true rfl) dX3_gap_18 ?_
    have e : cdO x y = 1 := by simp [cdO, *]
    exact Or.inr ⟨by rw [e]; decide, rfl, by rw [e]; rfl⟩

theorem k_X3_mends_inX3 : ∀ w ∈ wsX30, w ∈ wsX3_mends := by decide +kernel
theorem k_X3_mends_1 : Cond.fieldLink RX3 55 "WetMosaicModel" "thrown" "I" ∈ wsX3_mends := by decide +kernel
theorem k_X3_mends_2 : Cond.fieldLink RX3 28 "WetMosaicModel" "cover" "[I" ∈ wsX3_mends := by decide +kernel
theorem k_X3_mends_3 : Cond.fieldLink RX3 37 "WetMosaicModel" "found" "[I" ∈ wsX3_mends := by decide +kernel
set_option maxHeartbeats 4000000 in
set_option maxRecDepth 100000 in
theorem c_X3_mends (l : Launch) (D : va_G) (tys : List (ClassId × FieldType)) (cI : ClassId) (ht0 : tys[0]? = some (cI, .int)) (u0 u1 u2 u3 u4 u5 u6 u7 u8 u9 u10 u11 u12 u13 u14 np : Nat) (th : Int32) (fi le ac se hh ou cover sun rw fo wet aw : Nat → Int32) (hr : Nat) (ah : Int32) (Z : va_W) (P : Nat → Pd) (hnp : np ≤ 100) (hR : Mrel np P fi le ac se hh ou) (hg : Pok np P) (hcv : CovOk np cover) (x y : Int32) (ac9 : Bool) : gM l yX3_mends wsX3_mends ({ frames := 4, cells := 0, slots := 0, locals := 90 } : Room) D tys [.ref u0, .int x, .int y, .int (gz ac9)] ((u0, .inr (3, [.int th, .int (nI np), .ref u1, .ref u2, .ref u3, .ref u4, .ref u5, .ref u6, .ref u7, .ref u8, .ref u9, .ref u10, .ref u11, .ref u13])) :: (u1, .inl (cI, 100, .inl (fi))) :: (u2, .inl (cI, 100, .inl (le))) :: (u3, .inl (cI, 100, .inl (ac))) :: (u4, .inl (cI, 100, .inl (se))) :: (u5, .inl (cI, 100, .inl (hh))) :: (u6, .inl (cI, 100, .inl (ou))) :: (u7, .inl (cI, 80, .inl (cover))) :: (u8, .inl (cI, 8, .inl (sun))) :: (u9, .inl (cI, 80, .inl (rw))) :: (u10, .inl (cI, 80, .inl (fo))) :: (u11, .inr (2, [.int (nI hr), .ref u12, .ref u0])) :: (u12, .inl (cI, 80, .inl (wet))) :: (u13, .inr (2, [.int ah, .ref u14, .ref u0])) :: (u14, .inl (cI, 80, .inl (aw))) :: Z) (gMo (cdO x y) (.int (menM cover rw (10 * vn y + vn x) ac9)) (fun wX => wX = ((u0, .inr (3, [.int 0, .int (nI np), .ref u1, .ref u2, .ref u3, .ref u4, .ref u5, .ref u6, .ref u7, .ref u8, .ref u9, .ref u10, .ref u11, .ref u13])) :: (u1, .inl (cI, 100, .inl (fi))) :: (u2, .inl (cI, 100, .inl (le))) :: (u3, .inl (cI, 100, .inl (ac))) :: (u4, .inl (cI, 100, .inl (se))) :: (u5, .inl (cI, 100, .inl (hh))) :: (u6, .inl (cI, 100, .inl (ou))) :: (u7, .inl (cI, 80, .inl (cover))) :: (u8, .inl (cI, 8, .inl (sun))) :: (u9, .inl (cI, 80, .inl ((menW cover rw fo (10 * vn y + vn x)).2))) :: (u10, .inl (cI, 80, .inl ((menW cover rw fo (10 * vn y + vn x)).1))) :: (u11, .inr (2, [.int (nI hr), .ref u12, .ref u0])) :: (u12, .inl (cI, 80, .inl (wet))) :: (u13, .inr (2, [.int ah, .ref u14, .ref u0])) :: (u14, .inl (cI, 80, .inl (aw))) :: Z)) ((u0, .inr (3, [.int (nI (cdO x y)), .int (nI np), .ref u1, .ref u2, .ref u3, .ref u4, .ref u5, .ref u6, .ref u7, .ref u8, .ref u9, .ref u10, .ref u11, .ref u13])) :: (u1, .inl (cI, 100, .inl (fi))) :: (u2, .inl (cI, 100, .inl (le))) :: (u3, .inl (cI, 100, .inl (ac))) :: (u4, .inl (cI, 100, .inl (se))) :: (u5, .inl (cI, 100, .inl (hh))) :: (u6, .inl (cI, 100, .inl (ou))) :: (u7, .inl (cI, 80, .inl (cover))) :: (u8, .inl (cI, 8, .inl (sun))) :: (u9, .inl (cI, 80, .inl (rw))) :: (u10, .inl (cI, 80, .inl (fo))) :: (u11, .inr (2, [.int (nI hr), .ref u12, .ref u0])) :: (u12, .inl (cI, 80, .inl (wet))) :: (u13, .inr (2, [.int ah, .ref u14, .ref u0])) :: (u14, .inl (cI, 80, .inl (aw))) :: Z)) 0 0 := by
  refine gM_of (by decide +kernel) rfl (Nat.le_of_ble_eq_true rfl) ?_
  intro p e s m args below meth c A Q hin C hQ
  refine g_sub [0, 1, 2, 3] (lv' := [(0, .ref u0), (1, .int x), (2, .int y), (3, .int (gz ac9))]) rfl ?_
  refine g_aload_n C dX3_mends_0 rfl 0 rfl ?_
  refine g_iconst (v := 0) C dX3_mends_1 (by decide) ?_
  refine g_put (ci := 3) (Cn := RX3) (T := TX3) (N := 14) (ty := .int) (ws' := ((u0, .inr (3, [.int 0, .int (nI np), .ref u1, .ref u2, .ref u3, .ref u4, .ref u5, .ref u6, .ref u7, .ref u8, .ref u9, .ref u10, .ref u11, .ref u13])) :: (u1, .inl (cI, 100, .inl (fi))) :: (u2, .inl (cI, 100, .inl (le))) :: (u3, .inl (cI, 100, .inl (ac))) :: (u4, .inl (cI, 100, .inl (se))) :: (u5, .inl (cI, 100, .inl (hh))) :: (u6, .inl (cI, 100, .inl (ou))) :: (u7, .inl (cI, 80, .inl (cover))) :: (u8, .inl (cI, 8, .inl (sun))) :: (u9, .inl (cI, 80, .inl (rw))) :: (u10, .inl (cI, 80, .inl (fo))) :: (u11, .inr (2, [.int (nI hr), .ref u12, .ref u0])) :: (u12, .inl (cI, 80, .inl (wet))) :: (u13, .inr (2, [.int ah, .ref u14, .ref u0])) :: (u14, .inl (cI, 80, .inl (aw))) :: Z)) C k_X3_mends_inX3 tyX3 tyX3_ok nmX3 0 rfl rfl 0 (by decide) k_X3_mends_1 rfl rfl (by decide +kernel) rfl rfl (Nat.le_of_ble_eq_true rfl) dX3_mends_2 rfl ?_
  refine g_iload_n C dX3_mends_5 rfl 1 rfl ?_
  refine g_iload_n C dX3_mends_6 rfl 2 rfl ?_
  refine g_callS (As := [.int x, .int y]) (rest := []) C (c_X3_isCell l D tys ((u0, .inr (3, [.int 0, .int (nI np), .ref u1, .ref u2, .ref u3, .ref u4, .ref u5, .ref u6, .ref u7, .ref u8, .ref u9, .ref u10, .ref u11, .ref u13])) :: (u1, .inl (cI, 100, .inl (fi))) :: (u2, .inl (cI, 100, .inl (le))) :: (u3, .inl (cI, 100, .inl (ac))) :: (u4, .inl (cI, 100, .inl (se))) :: (u5, .inl (cI, 100, .inl (hh))) :: (u6, .inl (cI, 100, .inl (ou))) :: (u7, .inl (cI, 80, .inl (cover))) :: (u8, .inl (cI, 8, .inl (sun))) :: (u9, .inl (cI, 80, .inl (rw))) :: (u10, .inl (cI, 80, .inl (fo))) :: (u11, .inr (2, [.int (nI hr), .ref u12, .ref u0])) :: (u12, .inl (cI, 80, .inl (wet))) :: (u13, .inr (2, [.int ah, .ref u14, .ref u0])) :: (u14, .inl (cI, 80, .inl (aw))) :: Z) x y) (va_cwS 2 C.ts gX3_mends_X3_isCell rfl rfl rfl (by decide +kernel) ⟨(Nat.le_of_ble_eq_true rfl), (Nat.le_of_ble_eq_true rfl)⟩) rfl rfl (Nat.le_of_ble_eq_true rfl) dX3_mends_7 (Nat.le_of_ble_eq_true rfl) (Nat.le_of_ble_eq_true rfl) (g_is (x := .int (gz (onW x y))) (W1 := ((u0, .inr (3, [.int 0, .int (nI np), .ref u1, .ref u2, .ref u3, .ref u4, .ref u5, .ref u6, .ref u7, .ref u8, .ref u9, .ref u10, .ref u11, .ref u13])) :: (u1, .inl (cI, 100, .inl (fi))) :: (u2, .inl (cI, 100, .inl (le))) :: (u3, .inl (cI, 100, .inl (ac))) :: (u4, .inl (cI, 100, .inl (se))) :: (u5, .inl (cI, 100, .inl (hh))) :: (u6, .inl (cI, 100, .inl (ou))) :: (u7, .inl (cI, 80, .inl (cover))) :: (u8, .inl (cI, 8, .inl (sun))) :: (u9, .inl (cI, 80, .inl (rw))) :: (u10, .inl (cI, 80, .inl (fo))) :: (u11, .inr (2, [.int (nI hr), .ref u12, .ref u0])) :: (u12, .inl (cI, 80, .inl (wet))) :: (u13, .inr (2, [.int ah, .ref u14, .ref u0])) :: (u14, .inl (cI, 80, .inl (aw))) :: Z)) ?_)
  refine g_if_ne (tgt := 19) C dX3_mends_10 (by decide) (fun c_1 => ?_) (fun c_1 => ?_)
  · skip
    replace c_1 := gzn.mp c_1
    have how : onW x y = true := c_1
    have how2 : inR 0 9 x = true ∧ inR 0 7 y = true := by simpa [onW] using how
    obtain ⟨x9, hx9, rfl⟩ := inR_nI (n := 9) rfl how2.1
    have hclx9 : vn (nI x9) = x9 := nI_clamp (by omega)
    obtain ⟨y9, hy9, rfl⟩ := inR_nI (n := 7) rfl how2.2
    have hcly9 : vn (nI y9) = y9 := nI_clamp (by omega)
    refine g_aload_n C dX3_mends_19 rfl 0 rfl ?_
    refine g_get (v := .ref u7) (ci := 3) (Cn := RX3) (T := TX3) (N := 14) C k_X3_mends_inX3 gm0 rfl 8 (by decide) k_X3_mends_2 rfl rfl dX3_mends_20 ?_
    refine g_bipush (v := 10) C dX3_mends_23 (by decide) ?_
    refine g_iload_n C dX3_mends_25 rfl 2 rfl ?_
    refine g_imul C dX3_mends_26 ?_
    refine g_iload_n C dX3_mends_27 rfl 1 rfl ?_
    refine g_iadd C dX3_mends_28 ?_
    refine g_eqi (x := (10 * (nI y9)) + (nI x9)) (y := nI (10 * y9 + x9)) (cel_nI _ _) ?_
    refine g_iald C 0 (gmT (gmT (gmT (gmT (gmT (gmT (gmT gm0))))))) ht0 (vp_in_nI (by omega) (by omega)) dX3_mends_29 ?_
    refine g_eqi (x := cover (nI (10 * y9 + x9)).toNatClampNeg) (y := cover (10 * y9 + x9)) (by rw [nI_clamp (by omega)]) ?_
    refine g_iconst (v := (-1)) C dX3_mends_30 (by decide) ?_
    refine g_icmp_eq (tgt := 36) C dX3_mends_31 (by decide) (fun c_2 => ?_) (fun c_2 => ?_)
    · skip
      have hcc := c_2
      refine g_aload_n C dX3_mends_36 rfl 0 rfl ?_
      refine g_callV (ci := 3) (Cn := RX3) (As := []) (rest := []) C gm0 rfl rfl (c_X3_clear l D tys cI ht0 u0 u1 u2 u3 u4 u5 u6 u7 u8 u9 u10 u11 u12 u13 u14 np 0 fi le ac se hh ou cover sun rw fo wet aw hr ah Z) (cwV 0 C.ts gX3_mends_X3_clear rfl rfl rfl (by decide +kernel) ⟨(Nat.le_of_ble_eq_true rfl), (Nat.le_of_ble_eq_true rfl)⟩) rfl rfl (Nat.le_of_ble_eq_true rfl) dX3_mends_37 (Nat.le_of_ble_eq_true rfl) (Nat.le_of_ble_eq_true rfl) (g_isV (W1 := ((u0, .inr (3, [.int 0, .int (nI np), .ref u1, .ref u2, .ref u3, .ref u4, .ref u5, .ref u6, .ref u7, .ref u8, .ref u9, .ref u10, .ref u11, .ref u13])) :: (u1, .inl (cI, 100, .inl (fi))) :: (u2, .inl (cI, 100, .inl (le))) :: (u3, .inl (cI, 100, .inl (ac))) :: (u4, .inl (cI, 100, .inl (se))) :: (u5, .inl (cI, 100, .inl (hh))) :: (u6, .inl (cI, 100, .inl (ou))) :: (u7, .inl (cI, 80, .inl (cover))) :: (u8, .inl (cI, 8, .inl (sun))) :: (u9, .inl (cI, 80, .inl (rw))) :: (u10, .inl (cI, 80, .inl (fun _ => 0))) :: (u11, .inr (2, [.int (nI hr), .ref u12, .ref u0])) :: (u12, .inl (cI, 80, .inl (wet))) :: (u13, .inr (2, [.int ah, .ref u14, .ref u0])) :: (u14, .inl (cI, 80, .inl (aw))) :: Z)) ?_)
      refine g_aload_n C dX3_mends_40 rfl 0 rfl ?_
      refine g_bipush (v := 10) C dX3_mends_41 (by decide) ?_
      refine g_iload_n C dX3_mends_43 rfl 2 rfl ?_
      refine g_imul C dX3_mends_44 ?_
      refine g_iload_n C dX3_mends_45 rfl 1 rfl ?_
      refine g_iadd C dX3_mends_46 ?_
      refine g_eqi (x := (10 * (nI y9)) + (nI x9)) (y := nI (10 * y9 + x9)) (cel_nI _ _) ?_
      refine g_callV (ci := 3) (Cn := RX3) (As := [.int (nI (10 * y9 + x9))]) (rest := []) C gm0 rfl rfl (c_X3_fill l D tys cI ht0 u0 u1 u2 u3 u4 u5 u6 u7 u8 u9 u10 u11 u12 u13 u14 np 0 fi le ac se hh ou cover sun rw (fun _ => 0) wet aw hr ah Z (10 * y9 + x9) (by omega) rfl) (cwV 1 C.ts gX3_mends_X3_fill rfl rfl rfl (by decide +kernel) ⟨(Nat.le_of_ble_eq_true rfl), (Nat.le_of_ble_eq_true rfl)⟩) rfl rfl (Nat.le_of_ble_eq_true rfl) dX3_mends_47 (Nat.le_of_ble_eq_true rfl) (Nat.le_of_ble_eq_true rfl) (g_is (x := .int (nI (flP cover (10 * y9 + x9) (fun _ => 0) rw).2.2)) (W1 := ((u0, .inr (3, [.int 0, .int (nI np), .ref u1, .ref u2, .ref u3, .ref u4, .ref u5, .ref u6, .ref u7, .ref u8, .ref u9, .ref u10, .ref u11, .ref u13])) :: (u1, .inl (cI, 100, .inl (fi))) :: (u2, .inl (cI, 100, .inl (le))) :: (u3, .inl (cI, 100, .inl (ac))) :: (u4, .inl (cI, 100, .inl (se))) :: (u5, .inl (cI, 100, .inl (hh))) :: (u6, .inl (cI, 100, .inl (ou))) :: (u7, .inl (cI, 80, .inl (cover))) :: (u8, .inl (cI, 8, .inl (sun))) :: (u9, .inl (cI, 80, .inl ((flP cover (10 * y9 + x9) (fun _ => 0) rw).2.1))) :: (u10, .inl (cI, 80, .inl ((flP cover (10 * y9 + x9) (fun _ => 0) rw).1))) :: (u11, .inr (2, [.int (nI hr), .ref u12, .ref u0])) :: (u12, .inl (cI, 80, .inl (wet))) :: (u13, .inr (2, [.int ah, .ref u14, .ref u0])) :: (u14, .inl (cI, 80, .inl (aw))) :: Z)) ?_)
      refine g_pop C dX3_mends_50 rfl ?_
      cases ac9 with
      | false =>
        refine g_iconst (v := 0) C dX3_mends_51 (by decide) ?_
        refine g_istore (lv' := [(4, .int 0), (0, .ref u0), (1, .int (nI x9)), (2, .int (nI y9)), (3, .int (gz false))]) C dX3_mends_52 (by decide) rfl ?_
        refine g_iload_n C dX3_mends_54 rfl 4 rfl ?_
        refine g_if_eq (tgt := 63) C dX3_mends_55 (by decide) (fun c_3 => ?_) (fun c_3 => by exfalso; revert c_3; decide)
        refine g_bipush (v := 10) C dX3_mends_63 (by decide) ?_
        refine g_istore (lv' := [(5, .int 10), (4, .int 0), (0, .ref u0), (1, .int (nI x9)), (2, .int (nI y9)), (3, .int (gz false))]) C dX3_mends_65 (by decide) rfl ?_
        refine g_bipush (v := 80) C dX3_mends_67 (by decide) ?_
        refine g_iload C dX3_mends_69 0 rfl ?_
        refine g_idiv C dX3_mends_71 (by decide) ?_
        refine g_eqi (x := 80 / 10) (y := 8) (by decide) ?_
        refine g_istore (lv' := [(6, .int 8), (5, .int 10), (4, .int 0), (0, .ref u0), (1, .int (nI x9)), (2, .int (nI y9)), (3, .int (gz false))]) C dX3_mends_72 (by decide) rfl ?_
        refine g_iconst (v := 0) C dX3_mends_74 (by decide) ?_
        refine g_istore (lv' := [(7, .int 0), (6, .int 8), (5, .int 10), (4, .int 0), (0, .ref u0), (1, .int (nI x9)), (2, .int (nI y9)), (3, .int (gz false))]) C dX3_mends_75 (by decide) rfl ?_
        have lp77 : ∀ (n9 : Nat) (i q : Nat) (hq : q = ndL (pfM (flP cover (10 * y9 + x9) (fun _ => 0) rw).1 false) 8 i) (hi : i ≤ 10) (hn : 10 + 1 ≤ i + n9), G p l e ({ frames := 4, cells := 0, slots := 0, locals := 90 } : Room) s m args below meth c D A s.heap 11 0 0 Q 77 [(0, .ref u0), (1, .int (nI x9)), (2, .int (nI y9)), (3, .int (gz false)), (4, .int (nI q)), (5, .int 10), (6, .int 8), (7, .int (nI i))] [] ((u0, .inr (3, [.int 0, .int (nI np), .ref u1, .ref u2, .ref u3, .ref u4, .ref u5, .ref u6, .ref u7, .ref u8, .ref u9, .ref u10, .ref u11, .ref u13])) :: (u1, .inl (cI, 100, .inl (fi))) :: (u2, .inl (cI, 100, .inl (le))) :: (u3, .inl (cI, 100, .inl (ac))) :: (u4, .inl (cI, 100, .inl (se))) :: (u5, .inl (cI, 100, .inl (hh))) :: (u6, .inl (cI, 100, .inl (ou))) :: (u7, .inl (cI, 80, .inl (cover))) :: (u8, .inl (cI, 8, .inl (sun))) :: (u9, .inl (cI, 80, .inl ((flP cover (10 * y9 + x9) (fun _ => 0) rw).2.1))) :: (u10, .inl (cI, 80, .inl ((flP cover (10 * y9 + x9) (fun _ => 0) rw).1))) :: (u11, .inr (2, [.int (nI hr), .ref u12, .ref u0])) :: (u12, .inl (cI, 80, .inl (wet))) :: (u13, .inr (2, [.int ah, .ref u14, .ref u0])) :: (u14, .inl (cI, 80, .inl (aw))) :: Z) := by
          intro n9
          induction n9 with
          | zero =>
            intro i q hq hi hn
            exfalso; omega
          | succ n9 ih =>
            intro i q hq hi hn
            refine g_iload C dX3_mends_77 7 rfl ?_
            refine g_iload C dX3_mends_79 5 rfl ?_
            refine g_icmp_ge (tgt := 166) C dX3_mends_81 (by decide) (fun c_4 => ?_) (fun c_4 => ?_)
            · skip
              rw [show (10 : Int32) = nI 10 from rfl, nI_leI (by omega) (by omega)] at c_4
              refine g_iload C dX3_mends_166 4 rfl ?_
              refine g_iret C hQ (Nat.le_of_ble_eq_true rfl) (Nat.le_of_ble_eq_true rfl) dX3_mends_168 ?_
              refine Or.inl ⟨by simp [cdO, *], ?_, ?_⟩
              · rw [hclx9, hcly9, menM, if_pos hcc, hq, show i = 10 by omega]; rfl
              · simp only [hclx9, hcly9, menW]; first | rw [if_pos hcc] | rw [if_neg hcc]
            · skip
              rw [show (10 : Int32) = nI 10 from rfl, nI_leI (by omega) (by omega)] at c_4
              refine g_iconst (v := 0) C dX3_mends_84 (by decide) ?_
              refine g_istore (lv' := [(8, .int 0), (0, .ref u0), (1, .int (nI x9)), (2, .int (nI y9)), (3, .int (gz false)), (4, .int (nI q)), (5, .int 10), (6, .int 8), (7, .int (nI i))]) C dX3_mends_85 (by decide) rfl ?_
              refine g_iconst (v := 0) C dX3_mends_87 (by decide) ?_
              refine g_istore (lv' := [(9, .int 0), (8, .int 0), (0, .ref u0), (1, .int (nI x9)), (2, .int (nI y9)), (3, .int (gz false)), (4, .int (nI q)), (5, .int 10), (6, .int 8), (7, .int (nI i))]) C dX3_mends_88 (by decide) rfl ?_
              have lp90 : ∀ (n9 : Nat) (t q r : Nat) (hq2 : q = ndL (pfM (flP cover (10 * y9 + x9) (fun _ => 0) rw).1 false) 8 i + (ndI ((pfM (flP cover (10 * y9 + x9) (fun _ => 0) rw).1 false) i) t).1) (hrr : (ndI ((pfM (flP cover (10 * y9 + x9) (fun _ => 0) rw).1 false) i) t).2 = r) (hi2 : t ≤ 8) (hn2 : 8 + 1 ≤ t + n9), G p l e ({ frames := 4, cells := 0, slots := 0, locals := 90 } : Room) s m args below meth c D A s.heap 11 0 0 Q 90 [(0, .ref u0), (1, .int (nI x9)), (2, .int (nI y9)), (3, .int (gz false)), (4, .int (nI q)), (5, .int 10), (6, .int 8), (7, .int (nI i)), (8, .int (nI r)), (9, .int (nI t))] [] ((u0, .inr (3, [.int 0, .int (nI np), .ref u1, .ref u2, .ref u3, .ref u4, .ref u5, .ref u6, .ref u7, .ref u8, .ref u9, .ref u10, .ref u11, .ref u13])) :: (u1, .inl (cI, 100, .inl (fi))) :: (u2, .inl (cI, 100, .inl (le))) :: (u3, .inl (cI, 100, .inl (ac))) :: (u4, .inl (cI, 100, .inl (se))) :: (u5, .inl (cI, 100, .inl (hh))) :: (u6, .inl (cI, 100, .inl (ou))) :: (u7, .inl (cI, 80, .inl (cover))) :: (u8, .inl (cI, 8, .inl (sun))) :: (u9, .inl (cI, 80, .inl ((flP cover (10 * y9 + x9) (fun _ => 0) rw).2.1))) :: (u10, .inl (cI, 80, .inl ((flP cover (10 * y9 + x9) (fun _ => 0) rw).1))) :: (u11, .inr (2, [.int (nI hr), .ref u12, .ref u0])) :: (u12, .inl (cI, 80, .inl (wet))) :: (u13, .inr (2, [.int ah, .ref u14, .ref u0])) :: (u14, .inl (cI, 80, .inl (aw))) :: Z) := by
                intro n9
                induction n9 with
                | zero =>
                  intro t q r hq2 hrr hi2 hn2
                  exfalso; omega
                | succ n9 ih2 =>
                  intro t q r hq2 hrr hi2 hn2
                  have hb := ndI_le ((pfM (flP cover (10 * y9 + x9) (fun _ => 0) rw).1 false) i) t
                  refine g_iload C dX3_mends_90 9 rfl ?_
                  refine g_iload C dX3_mends_92 6 rfl ?_
                  refine g_icmp_ge (tgt := 160) C dX3_mends_94 (by decide) (fun c_5 => ?_) (fun c_5 => ?_)
                  · skip
                    rw [show (8 : Int32) = nI 8 from rfl, nI_leI (by omega) (by omega)] at c_5
                    refine g_iinc (v := nI (i + 1)) (lv' := [(7, .int (nI (i + 1))), (0, .ref u0), (1, .int (nI x9)), (2, .int (nI y9)), (3, .int (gz false)), (4, .int (nI q)), (5, .int 10), (6, .int 8), (8, .int (nI r)), (9, .int (nI t))]) C dX3_mends_160 7 rfl (by exact nI_add _ 1) (by decide) rfl ?_
                    refine g_goto (tgt := 77) C dX3_mends_163 (by decide) ?_
                    refine g_sub [1, 2, 3, 4, 5, 6, 7, 0] (lv' := [(0, .ref u0), (1, .int (nI x9)), (2, .int (nI y9)), (3, .int (gz false)), (4, .int (nI q)), (5, .int 10), (6, .int 8), (7, .int (nI (i + 1)))]) rfl ?_
                    exact ih (i + 1) q (by rw [hq2, show t = 8 by omega]; rfl) (by omega) (by omega)
                  · skip
                    rw [show (8 : Int32) = nI 8 from rfl, nI_leI (by omega) (by omega)] at c_5
                    refine g_iload_n C dX3_mends_97 rfl 3 rfl ?_
                    refine g_if_eq (tgt := 112) C dX3_mends_98 (by decide) (fun c_6 => ?_) (fun c_6 => by exfalso; revert c_6; decide)
                    refine g_bipush (v := 10) C dX3_mends_112 (by decide) ?_
                    refine g_iload C dX3_mends_114 9 rfl ?_
                    refine g_imul C dX3_mends_116 ?_
                    refine g_eqi (x := 10 * (nI t)) (y := nI (10 * t)) (by rw [show (10 : Int32) = nI 10 from rfl, pk_mul]) ?_
                    refine g_iload C dX3_mends_117 7 rfl ?_
                    refine g_iadd C dX3_mends_119 ?_
                    refine g_eqi (x := (nI (10 * t)) + (nI i)) (y := nI ((10 * t) + i)) (nI_add _ _) ?_
                    refine g_istore (lv' := [(10, .int (nI ((10 * t) + i))), (0, .ref u0), (1, .int (nI x9)), (2, .int (nI y9)), (3, .int (gz false)), (4, .int (nI q)), (5, .int 10), (6, .int 8), (7, .int (nI i)), (8, .int (nI r)), (9, .int (nI t))]) C dX3_mends_120 (by decide) rfl ?_
                    refine g_aload_n C dX3_mends_122 rfl 1 rfl ?_
                    refine g_get (v := .ref u10) (ci := 3) (Cn := RX3) (T := TX3) (N := 14) C k_X3_mends_inX3 gm0 rfl 11 (by decide) k_X3_mends_3 rfl rfl dX3_mends_123 ?_
                    refine g_iload C dX3_mends_126 0 rfl ?_
                    refine g_iald C 0 (gmT (gmT (gmT (gmT (gmT (gmT (gmT (gmT (gmT (gmT gm0)))))))))) ht0 (vp_in_nI (by omega) (by omega)) dX3_mends_128 ?_
                    refine g_eqi (x := ((flP cover (10 * y9 + x9) (fun _ => 0) rw).1) (nI ((10 * t) + i)).toNatClampNeg) (y := ((flP cover (10 * y9 + x9) (fun _ => 0) rw).1) (((10 * t) + i))) (by rw [nI_clamp (by omega)]) ?_
                    refine g_iconst (v := 1) C dX3_mends_129 (by decide) ?_
                    refine g_icmp_ne (tgt := 140) C dX3_mends_130 (by decide) (fun c_7 => ?_) (fun c_7 => ?_)
                    · skip
                      refine g_iconst (v := 0) C dX3_mends_140 (by decide) ?_
                      refine g_istore (lv' := [(8, .int 0), (10, .int (nI ((10 * t) + i))), (0, .ref u0), (1, .int (nI x9)), (2, .int (nI y9)), (3, .int (gz false)), (4, .int (nI q)), (5, .int 10), (6, .int 8), (7, .int (nI i)), (9, .int (nI t))]) C dX3_mends_141 (by decide) rfl ?_
                      refine g_iload C dX3_mends_143 0 rfl ?_
                      refine g_iconst (v := 3) C dX3_mends_145 (by decide) ?_
                      refine g_irem C dX3_mends_146 (by decide) ?_
                      refine g_eqi (x := 0 - 0 / 3 * 3) (y := 0) (by decide) ?_
                      refine g_iconst (v := 1) C dX3_mends_147 (by decide) ?_
                      refine g_icmp_ne (tgt := 154) C dX3_mends_148 (by decide) (fun c_8 => ?_) (fun c_8 => by exfalso; revert c_8; decide)
                      refine g_iinc (v := nI (t + 1)) (lv' := [(9, .int (nI (t + 1))), (8, .int 0), (10, .int (nI ((10 * t) + i))), (0, .ref u0), (1, .int (nI x9)), (2, .int (nI y9)), (3, .int (gz false)), (4, .int (nI q)), (5, .int 10), (6, .int 8), (7, .int (nI i))]) C dX3_mends_154 10 rfl (by exact nI_add _ 1) (by decide) rfl ?_
                      refine g_goto (tgt := 90) C dX3_mends_157 (by decide) ?_
                      refine g_sub [3, 4, 5, 6, 7, 8, 9, 10, 1, 0] (lv' := [(0, .ref u0), (1, .int (nI x9)), (2, .int (nI y9)), (3, .int (gz false)), (4, .int (nI q)), (5, .int 10), (6, .int 8), (7, .int (nI i)), (8, .int 0), (9, .int (nI (t + 1)))]) rfl ?_
                      have e : ndI ((pfM (flP cover (10 * y9 + x9) (fun _ => 0) rw).1 false) i) (t + 1) = ((ndI ((pfM (flP cover (10 * y9 + x9) (fun _ => 0) rw).1 false) i) t).1, 0) := by rw [ndI, if_neg (by simp [pfM, *])]
                      exact ih2 (t + 1) q 0 (by rw [hq2, e]) (by rw [e]) (by omega) (by omega)
                    · skip
                      refine g_iload C dX3_mends_133 9 rfl ?_
                      refine g_iconst (v := 1) C dX3_mends_135 (by decide) ?_
                      refine g_iadd C dX3_mends_136 ?_
                      refine g_eqi (x := (nI r) + 1) (y := nI (r + 1)) (nI_add _ 1) ?_
                      refine g_goto (tgt := 141) C dX3_mends_137 (by decide) ?_
                      refine g_istore (lv' := [(8, .int (nI (r + 1))), (10, .int (nI ((10 * t) + i))), (0, .ref u0), (1, .int (nI x9)), (2, .int (nI y9)), (3, .int (gz false)), (4, .int (nI q)), (5, .int 10), (6, .int 8), (7, .int (nI i)), (9, .int (nI t))]) C dX3_mends_141 (by decide) rfl ?_
                      refine g_iload C dX3_mends_143 0 rfl ?_
                      refine g_iconst (v := 3) C dX3_mends_145 (by decide) ?_
                      refine g_irem C dX3_mends_146 (by decide) ?_
                      refine g_eqi (x := (nI (r + 1)) - (nI (r + 1)) / 3 * 3) (y := nI ((r + 1) % 3)) (remI (r + 1) 3 (by omega) (by omega) (by omega) rfl) ?_
                      refine g_iconst (v := 1) C dX3_mends_147 (by decide) ?_
                      refine g_icmp_ne (tgt := 154) C dX3_mends_148 (by decide) (fun c_9 => ?_) (fun c_9 => ?_)
                      · skip
                        rw [show (1 : Int32) = nI 1 from rfl, nI_eq (by omega) (by omega)] at c_9
                        refine g_iinc (v := nI (t + 1)) (lv' := [(9, .int (nI (t + 1))), (8, .int (nI (r + 1))), (10, .int (nI ((10 * t) + i))), (0, .ref u0), (1, .int (nI x9)), (2, .int (nI y9)), (3, .int (gz false)), (4, .int (nI q)), (5, .int 10), (6, .int 8), (7, .int (nI i))]) C dX3_mends_154 10 rfl (by exact nI_add _ 1) (by decide) rfl ?_
                        refine g_goto (tgt := 90) C dX3_mends_157 (by decide) ?_
                        refine g_sub [3, 4, 5, 6, 7, 8, 9, 10, 1, 0] (lv' := [(0, .ref u0), (1, .int (nI x9)), (2, .int (nI y9)), (3, .int (gz false)), (4, .int (nI q)), (5, .int 10), (6, .int 8), (7, .int (nI i)), (8, .int (nI (r + 1))), (9, .int (nI (t + 1)))]) rfl ?_
                        have e : ndI ((pfM (flP cover (10 * y9 + x9) (fun _ => 0) rw).1 false) i) (t + 1) = ((ndI ((pfM (flP cover (10 * y9 + x9) (fun _ => 0) rw).1 false) i) t).1 + (if (ndI ((pfM (flP cover (10 * y9 + x9) (fun _ => 0) rw).1 false) i) t).2 % 3 = 0 then 1 else 0), (ndI ((pfM (flP cover (10 * y9 + x9) (fun _ => 0) rw).1 false) i) t).2 + 1) := by rw [ndI, if_pos (by simp [pfM, *])]
                        exact ih2 (t + 1) _ _ (by rw [hq2, e, hrr]; first | (rw [if_pos (by omega)]; done) | (rw [if_pos (by omega)]; omega) | (rw [if_neg (by omega)]; omega)) (by rw [e, hrr]) (by omega) (by omega)
                      · skip
                        rw [show (1 : Int32) = nI 1 from rfl, nI_eq (by omega) (by omega)] at c_9
                        refine g_iinc (v := nI (q + 1)) (lv' := [(4, .int (nI (q + 1))), (8, .int (nI (r + 1))), (10, .int (nI ((10 * t) + i))), (0, .ref u0), (1, .int (nI x9)), (2, .int (nI y9)), (3, .int (gz false)), (5, .int 10), (6, .int 8), (7, .int (nI i)), (9, .int (nI t))]) C dX3_mends_151 6 rfl (by exact nI_add _ 1) (by decide) rfl ?_
                        refine g_iinc (v := nI (t + 1)) (lv' := [(9, .int (nI (t + 1))), (4, .int (nI (q + 1))), (8, .int (nI (r + 1))), (10, .int (nI ((10 * t) + i))), (0, .ref u0), (1, .int (nI x9)), (2, .int (nI y9)), (3, .int (gz false)), (5, .int 10), (6, .int 8), (7, .int (nI i))]) C dX3_mends_154 10 rfl (by exact nI_add _ 1) (by decide) rfl ?_
                        refine g_goto (tgt := 90) C dX3_mends_157 (by decide) ?_
                        refine g_sub [4, 5, 6, 7, 1, 8, 9, 10, 2, 0] (lv' := [(0, .ref u0), (1, .int (nI x9)), (2, .int (nI y9)), (3, .int (gz false)), (4, .int (nI (q + 1))), (5, .int 10), (6, .int 8), (7, .int (nI i)), (8, .int (nI (r + 1))), (9, .int (nI (t + 1)))]) rfl ?_
                        have e : ndI ((pfM (flP cover (10 * y9 + x9) (fun _ => 0) rw).1 false) i) (t + 1) = ((ndI ((pfM (flP cover (10 * y9 + x9) (fun _ => 0) rw).1 false) i) t).1 + (if (ndI ((pfM (flP cover (10 * y9 + x9) (fun _ => 0) rw).1 false) i) t).2 % 3 = 0 then 1 else 0), (ndI ((pfM (flP cover (10 * y9 + x9) (fun _ => 0) rw).1 false) i) t).2 + 1) := by rw [ndI, if_pos (by simp [pfM, *])]
                        exact ih2 (t + 1) _ _ (by rw [hq2, e, hrr]; first | (rw [if_pos (by omega)]; done) | (rw [if_pos (by omega)]; omega) | (rw [if_neg (by omega)]; omega)) (by rw [e, hrr]) (by omega) (by omega)
              refine g_sub [2, 3, 4, 5, 6, 7, 8, 9, 1, 0] (lv' := [(0, .ref u0), (1, .int (nI x9)), (2, .int (nI y9)), (3, .int (gz false)), (4, .int (nI q)), (5, .int 10), (6, .int 8), (7, .int (nI i)), (8, .int 0), (9, .int 0)]) rfl ?_
              exact lp90 (8 + 1) 0 q 0 hq rfl (by omega) (by omega)
        refine g_sub [4, 5, 6, 7, 3, 2, 1, 0] (lv' := [(0, .ref u0), (1, .int (nI x9)), (2, .int (nI y9)), (3, .int (gz false)), (4, .int 0), (5, .int 10), (6, .int 8), (7, .int 0)]) rfl ?_
        exact lp77 (10 + 1) 0 0 rfl (by omega) (by omega)
      | true =>
        refine g_iconst (v := 0) C dX3_mends_51 (by decide) ?_
        refine g_istore (lv' := [(4, .int 0), (0, .ref u0), (1, .int (nI x9)), (2, .int (nI y9)), (3, .int (gz true))]) C dX3_mends_52 (by decide) rfl ?_
        refine g_iload_n C dX3_mends_54 rfl 4 rfl ?_
        refine g_if_eq (tgt := 63) C dX3_mends_55 (by decide) (fun c_10 => by exfalso; revert c_10; decide) (fun c_10 => ?_)
        refine g_bipush (v := 8) C dX3_mends_58 (by decide) ?_
        refine g_goto (tgt := 65) C dX3_mends_60 (by decide) ?_
        refine g_istore (lv' := [(5, .int 8), (4, .int 0), (0, .ref u0), (1, .int (nI x9)), (2, .int (nI y9)), (3, .int (gz true))]) C dX3_mends_65 (by decide) rfl ?_
        refine g_bipush (v := 80) C dX3_mends_67 (by decide) ?_
        refine g_iload C dX3_mends_69 0 rfl ?_
        refine g_idiv C dX3_mends_71 (by decide) ?_
        refine g_eqi (x := 80 / 8) (y := 10) (by decide) ?_
        refine g_istore (lv' := [(6, .int 10), (5, .int 8), (4, .int 0), (0, .ref u0), (1, .int (nI x9)), (2, .int (nI y9)), (3, .int (gz true))]) C dX3_mends_72 (by decide) rfl ?_
        refine g_iconst (v := 0) C dX3_mends_74 (by decide) ?_
        refine g_istore (lv' := [(7, .int 0), (6, .int 10), (5, .int 8), (4, .int 0), (0, .ref u0), (1, .int (nI x9)), (2, .int (nI y9)), (3, .int (gz true))]) C dX3_mends_75 (by decide) rfl ?_
        have lp77_11 : ∀ (n9 : Nat) (i q : Nat) (hq : q = ndL (pfM (flP cover (10 * y9 + x9) (fun _ => 0) rw).1 true) 10 i) (hi : i ≤ 8) (hn : 8 + 1 ≤ i + n9), G p l e ({ frames := 4, cells := 0, slots := 0, locals := 90 } : Room) s m args below meth c D A s.heap 11 0 0 Q 77 [(0, .ref u0), (1, .int (nI x9)), (2, .int (nI y9)), (3, .int (gz true)), (4, .int (nI q)), (5, .int 8), (6, .int 10), (7, .int (nI i))] [] ((u0, .inr (3, [.int 0, .int (nI np), .ref u1, .ref u2, .ref u3, .ref u4, .ref u5, .ref u6, .ref u7, .ref u8, .ref u9, .ref u10, .ref u11, .ref u13])) :: (u1, .inl (cI, 100, .inl (fi))) :: (u2, .inl (cI, 100, .inl (le))) :: (u3, .inl (cI, 100, .inl (ac))) :: (u4, .inl (cI, 100, .inl (se))) :: (u5, .inl (cI, 100, .inl (hh))) :: (u6, .inl (cI, 100, .inl (ou))) :: (u7, .inl (cI, 80, .inl (cover))) :: (u8, .inl (cI, 8, .inl (sun))) :: (u9, .inl (cI, 80, .inl ((flP cover (10 * y9 + x9) (fun _ => 0) rw).2.1))) :: (u10, .inl (cI, 80, .inl ((flP cover (10 * y9 + x9) (fun _ => 0) rw).1))) :: (u11, .inr (2, [.int (nI hr), .ref u12, .ref u0])) :: (u12, .inl (cI, 80, .inl (wet))) :: (u13, .inr (2, [.int ah, .ref u14, .ref u0])) :: (u14, .inl (cI, 80, .inl (aw))) :: Z) := by
          intro n9
          induction n9 with
          | zero =>
            intro i q hq hi hn
            exfalso; omega
          | succ n9 ih =>
            intro i q hq hi hn
            refine g_iload C dX3_mends_77 7 rfl ?_
            refine g_iload C dX3_mends_79 5 rfl ?_
            refine g_icmp_ge (tgt := 166) C dX3_mends_81 (by decide) (fun c_12 => ?_) (fun c_12 => ?_)
            · skip
              rw [show (8 : Int32) = nI 8 from rfl, nI_leI (by omega) (by omega)] at c_12
              refine g_iload C dX3_mends_166 4 rfl ?_
              refine g_iret C hQ (Nat.le_of_ble_eq_true rfl) (Nat.le_of_ble_eq_true rfl) dX3_mends_168 ?_
              refine Or.inl ⟨by simp [cdO, *], ?_, ?_⟩
              · rw [hclx9, hcly9, menM, if_pos hcc, hq, show i = 8 by omega]; rfl
              · simp only [hclx9, hcly9, menW]; first | rw [if_pos hcc] | rw [if_neg hcc]
            · skip
              rw [show (8 : Int32) = nI 8 from rfl, nI_leI (by omega) (by omega)] at c_12
              refine g_iconst (v := 0) C dX3_mends_84 (by decide) ?_
              refine g_istore (lv' := [(8, .int 0), (0, .ref u0), (1, .int (nI x9)), (2, .int (nI y9)), (3, .int (gz true)), (4, .int (nI q)), (5, .int 8), (6, .int 10), (7, .int (nI i))]) C dX3_mends_85 (by decide) rfl ?_
              refine g_iconst (v := 0) C dX3_mends_87 (by decide) ?_
              refine g_istore (lv' := [(9, .int 0), (8, .int 0), (0, .ref u0), (1, .int (nI x9)), (2, .int (nI y9)), (3, .int (gz true)), (4, .int (nI q)), (5, .int 8), (6, .int 10), (7, .int (nI i))]) C dX3_mends_88 (by decide) rfl ?_
              have lp90_13 : ∀ (n9 : Nat) (t q r : Nat) (hq2 : q = ndL (pfM (flP cover (10 * y9 + x9) (fun _ => 0) rw).1 true) 10 i + (ndI ((pfM (flP cover (10 * y9 + x9) (fun _ => 0) rw).1 true) i) t).1) (hrr : (ndI ((pfM (flP cover (10 * y9 + x9) (fun _ => 0) rw).1 true) i) t).2 = r) (hi2 : t ≤ 10) (hn2 : 10 + 1 ≤ t + n9), G p l e ({ frames := 4, cells := 0, slots := 0, locals := 90 } : Room) s m args below meth c D A s.heap 11 0 0 Q 90 [(0, .ref u0), (1, .int (nI x9)), (2, .int (nI y9)), (3, .int (gz true)), (4, .int (nI q)), (5, .int 8), (6, .int 10), (7, .int (nI i)), (8, .int (nI r)), (9, .int (nI t))] [] ((u0, .inr (3, [.int 0, .int (nI np), .ref u1, .ref u2, .ref u3, .ref u4, .ref u5, .ref u6, .ref u7, .ref u8, .ref u9, .ref u10, .ref u11, .ref u13])) :: (u1, .inl (cI, 100, .inl (fi))) :: (u2, .inl (cI, 100, .inl (le))) :: (u3, .inl (cI, 100, .inl (ac))) :: (u4, .inl (cI, 100, .inl (se))) :: (u5, .inl (cI, 100, .inl (hh))) :: (u6, .inl (cI, 100, .inl (ou))) :: (u7, .inl (cI, 80, .inl (cover))) :: (u8, .inl (cI, 8, .inl (sun))) :: (u9, .inl (cI, 80, .inl ((flP cover (10 * y9 + x9) (fun _ => 0) rw).2.1))) :: (u10, .inl (cI, 80, .inl ((flP cover (10 * y9 + x9) (fun _ => 0) rw).1))) :: (u11, .inr (2, [.int (nI hr), .ref u12, .ref u0])) :: (u12, .inl (cI, 80, .inl (wet))) :: (u13, .inr (2, [.int ah, .ref u14, .ref u0])) :: (u14, .inl (cI, 80, .inl (aw))) :: Z) := by
                intro n9
                induction n9 with
                | zero =>
                  intro t q r hq2 hrr hi2 hn2
                  exfalso; omega
                | succ n9 ih2 =>
                  intro t q r hq2 hrr hi2 hn2
                  have hb := ndI_le ((pfM (flP cover (10 * y9 + x9) (fun _ => 0) rw).1 true) i) t
                  refine g_iload C dX3_mends_90 9 rfl ?_
                  refine g_iload C dX3_mends_92 6 rfl ?_
                  refine g_icmp_ge (tgt := 160) C dX3_mends_94 (by decide) (fun c_14 => ?_) (fun c_14 => ?_)
                  · skip
                    rw [show (10 : Int32) = nI 10 from rfl, nI_leI (by omega) (by omega)] at c_14
                    refine g_iinc (v := nI (i + 1)) (lv' := [(7, .int (nI (i + 1))), (0, .ref u0), (1, .int (nI x9)), (2, .int (nI y9)), (3, .int (gz true)), (4, .int (nI q)), (5, .int 8), (6, .int 10), (8, .int (nI r)), (9, .int (nI t))]) C dX3_mends_160 7 rfl (by exact nI_add _ 1) (by decide) rfl ?_
                    refine g_goto (tgt := 77) C dX3_mends_163 (by decide) ?_
                    refine g_sub [1, 2, 3, 4, 5, 6, 7, 0] (lv' := [(0, .ref u0), (1, .int (nI x9)), (2, .int (nI y9)), (3, .int (gz true)), (4, .int (nI q)), (5, .int 8), (6, .int 10), (7, .int (nI (i + 1)))]) rfl ?_
                    exact ih (i + 1) q (by rw [hq2, show t = 10 by omega]; rfl) (by omega) (by omega)
                  · skip
                    rw [show (10 : Int32) = nI 10 from rfl, nI_leI (by omega) (by omega)] at c_14
                    refine g_iload_n C dX3_mends_97 rfl 3 rfl ?_
                    refine g_if_eq (tgt := 112) C dX3_mends_98 (by decide) (fun c_15 => by exfalso; revert c_15; decide) (fun c_15 => ?_)
                    refine g_bipush (v := 10) C dX3_mends_101 (by decide) ?_
                    refine g_iload C dX3_mends_103 7 rfl ?_
                    refine g_imul C dX3_mends_105 ?_
                    refine g_eqi (x := 10 * (nI i)) (y := nI (10 * i)) (by rw [show (10 : Int32) = nI 10 from rfl, pk_mul]) ?_
                    refine g_iload C dX3_mends_106 9 rfl ?_
                    refine g_iadd C dX3_mends_108 ?_
                    refine g_eqi (x := (nI (10 * i)) + (nI t)) (y := nI ((10 * i) + t)) (nI_add _ _) ?_
                    refine g_goto (tgt := 120) C dX3_mends_109 (by decide) ?_
                    refine g_istore (lv' := [(10, .int (nI ((10 * i) + t))), (0, .ref u0), (1, .int (nI x9)), (2, .int (nI y9)), (3, .int (gz true)), (4, .int (nI q)), (5, .int 8), (6, .int 10), (7, .int (nI i)), (8, .int (nI r)), (9, .int (nI t))]) C dX3_mends_120 (by decide) rfl ?_
                    refine g_aload_n C dX3_mends_122 rfl 1 rfl ?_
                    refine g_get (v := .ref u10) (ci := 3) (Cn := RX3) (T := TX3) (N := 14) C k_X3_mends_inX3 gm0 rfl 11 (by decide) k_X3_mends_3 rfl rfl dX3_mends_123 ?_
                    refine g_iload C dX3_mends_126 0 rfl ?_
                    refine g_iald C 0 (gmT (gmT (gmT (gmT (gmT (gmT (gmT (gmT (gmT (gmT gm0)))))))))) ht0 (vp_in_nI (by omega) (by omega)) dX3_mends_128 ?_
                    refine g_eqi (x := ((flP cover (10 * y9 + x9) (fun _ => 0) rw).1) (nI ((10 * i) + t)).toNatClampNeg) (y := ((flP cover (10 * y9 + x9) (fun _ => 0) rw).1) (((10 * i) + t))) (by rw [nI_clamp (by omega)]) ?_
                    refine g_iconst (v := 1) C dX3_mends_129 (by decide) ?_
                    refine g_icmp_ne (tgt := 140) C dX3_mends_130 (by decide) (fun c_16 => ?_) (fun c_16 => ?_)
                    · skip
                      refine g_iconst (v := 0) C dX3_mends_140 (by decide) ?_
                      refine g_istore (lv' := [(8, .int 0), (10, .int (nI ((10 * i) + t))), (0, .ref u0), (1, .int (nI x9)), (2, .int (nI y9)), (3, .int (gz true)), (4, .int (nI q)), (5, .int 8), (6, .int 10), (7, .int (nI i)), (9, .int (nI t))]) C dX3_mends_141 (by decide) rfl ?_
                      refine g_iload C dX3_mends_143 0 rfl ?_
                      refine g_iconst (v := 3) C dX3_mends_145 (by decide) ?_
                      refine g_irem C dX3_mends_146 (by decide) ?_
                      refine g_eqi (x := 0 - 0 / 3 * 3) (y := 0) (by decide) ?_
                      refine g_iconst (v := 1) C dX3_mends_147 (by decide) ?_
                      refine g_icmp_ne (tgt := 154) C dX3_mends_148 (by decide) (fun c_17 => ?_) (fun c_17 => by exfalso; revert c_17; decide)
                      refine g_iinc (v := nI (t + 1)) (lv' := [(9, .int (nI (t + 1))), (8, .int 0), (10, .int (nI ((10 * i) + t))), (0, .ref u0), (1, .int (nI x9)), (2, .int (nI y9)), (3, .int (gz true)), (4, .int (nI q)), (5, .int 8), (6, .int 10), (7, .int (nI i))]) C dX3_mends_154 10 rfl (by exact nI_add _ 1) (by decide) rfl ?_
                      refine g_goto (tgt := 90) C dX3_mends_157 (by decide) ?_
                      refine g_sub [3, 4, 5, 6, 7, 8, 9, 10, 1, 0] (lv' := [(0, .ref u0), (1, .int (nI x9)), (2, .int (nI y9)), (3, .int (gz true)), (4, .int (nI q)), (5, .int 8), (6, .int 10), (7, .int (nI i)), (8, .int 0), (9, .int (nI (t + 1)))]) rfl ?_
                      have e : ndI ((pfM (flP cover (10 * y9 + x9) (fun _ => 0) rw).1 true) i) (t + 1) = ((ndI ((pfM (flP cover (10 * y9 + x9) (fun _ => 0) rw).1 true) i) t).1, 0) := by rw [ndI, if_neg (by simp [pfM, *])]
                      exact ih2 (t + 1) q 0 (by rw [hq2, e]) (by rw [e]) (by omega) (by omega)
                    · skip
                      refine g_iload C dX3_mends_133 9 rfl ?_
                      refine g_iconst (v := 1) C dX3_mends_135 (by decide) ?_
                      refine g_iadd C dX3_mends_136 ?_
                      refine g_eqi (x := (nI r) + 1) (y := nI (r + 1)) (nI_add _ 1) ?_
                      refine g_goto (tgt := 141) C dX3_mends_137 (by decide) ?_
                      refine g_istore (lv' := [(8, .int (nI (r + 1))), (10, .int (nI ((10 * i) + t))), (0, .ref u0), (1, .int (nI x9)), (2, .int (nI y9)), (3, .int (gz true)), (4, .int (nI q)), (5, .int 8), (6, .int 10), (7, .int (nI i)), (9, .int (nI t))]) C dX3_mends_141 (by decide) rfl ?_
                      refine g_iload C dX3_mends_143 0 rfl ?_
                      refine g_iconst (v := 3) C dX3_mends_145 (by decide) ?_
                      refine g_irem C dX3_mends_146 (by decide) ?_
                      refine g_eqi (x := (nI (r + 1)) - (nI (r + 1)) / 3 * 3) (y := nI ((r + 1) % 3)) (remI (r + 1) 3 (by omega) (by omega) (by omega) rfl) ?_
                      refine g_iconst (v := 1) C dX3_mends_147 (by decide) ?_
                      refine g_icmp_ne (tgt := 154) C dX3_mends_148 (by decide) (fun c_18 => ?_) (fun c_18 => ?_)
                      · skip
                        rw [show (1 : Int32) = nI 1 from rfl, nI_eq (by omega) (by omega)] at c_18
                        refine g_iinc (v := nI (t + 1)) (lv' := [(9, .int (nI (t + 1))), (8, .int (nI (r + 1))), (10, .int (nI ((10 * i) + t))), (0, .ref u0), (1, .int (nI x9)), (2, .int (nI y9)), (3, .int (gz true)), (4, .int (nI q)), (5, .int 8), (6, .int 10), (7, .int (nI i))]) C dX3_mends_154 10 rfl (by exact nI_add _ 1) (by decide) rfl ?_
                        refine g_goto (tgt := 90) C dX3_mends_157 (by decide) ?_
                        refine g_sub [3, 4, 5, 6, 7, 8, 9, 10, 1, 0] (lv' := [(0, .ref u0), (1, .int (nI x9)), (2, .int (nI y9)), (3, .int (gz true)), (4, .int (nI q)), (5, .int 8), (6, .int 10), (7, .int (nI i)), (8, .int (nI (r + 1))), (9, .int (nI (t + 1)))]) rfl ?_
                        have e : ndI ((pfM (flP cover (10 * y9 + x9) (fun _ => 0) rw).1 true) i) (t + 1) = ((ndI ((pfM (flP cover (10 * y9 + x9) (fun _ => 0) rw).1 true) i) t).1 + (if (ndI ((pfM (flP cover (10 * y9 + x9) (fun _ => 0) rw).1 true) i) t).2 % 3 = 0 then 1 else 0), (ndI ((pfM (flP cover (10 * y9 + x9) (fun _ => 0) rw).1 true) i) t).2 + 1) := by rw [ndI, if_pos (by simp [pfM, *])]
                        exact ih2 (t + 1) _ _ (by rw [hq2, e, hrr]; first | (rw [if_pos (by omega)]; done) | (rw [if_pos (by omega)]; omega) | (rw [if_neg (by omega)]; omega)) (by rw [e, hrr]) (by omega) (by omega)
                      · skip
                        rw [show (1 : Int32) = nI 1 from rfl, nI_eq (by omega) (by omega)] at c_18
                        refine g_iinc (v := nI (q + 1)) (lv' := [(4, .int (nI (q + 1))), (8, .int (nI (r + 1))), (10, .int (nI ((10 * i) + t))), (0, .ref u0), (1, .int (nI x9)), (2, .int (nI y9)), (3, .int (gz true)), (5, .int 8), (6, .int 10), (7, .int (nI i)), (9, .int (nI t))]) C dX3_mends_151 6 rfl (by exact nI_add _ 1) (by decide) rfl ?_
                        refine g_iinc (v := nI (t + 1)) (lv' := [(9, .int (nI (t + 1))), (4, .int (nI (q + 1))), (8, .int (nI (r + 1))), (10, .int (nI ((10 * i) + t))), (0, .ref u0), (1, .int (nI x9)), (2, .int (nI y9)), (3, .int (gz true)), (5, .int 8), (6, .int 10), (7, .int (nI i))]) C dX3_mends_154 10 rfl (by exact nI_add _ 1) (by decide) rfl ?_
                        refine g_goto (tgt := 90) C dX3_mends_157 (by decide) ?_
                        refine g_sub [4, 5, 6, 7, 1, 8, 9, 10, 2, 0] (lv' := [(0, .ref u0), (1, .int (nI x9)), (2, .int (nI y9)), (3, .int (gz true)), (4, .int (nI (q + 1))), (5, .int 8), (6, .int 10), (7, .int (nI i)), (8, .int (nI (r + 1))), (9, .int (nI (t + 1)))]) rfl ?_
                        have e : ndI ((pfM (flP cover (10 * y9 + x9) (fun _ => 0) rw).1 true) i) (t + 1) = ((ndI ((pfM (flP cover (10 * y9 + x9) (fun _ => 0) rw).1 true) i) t).1 + (if (ndI ((pfM (flP cover (10 * y9 + x9) (fun _ => 0) rw).1 true) i) t).2 % 3 = 0 then 1 else 0), (ndI ((pfM (flP cover (10 * y9 + x9) (fun _ => 0) rw).1 true) i) t).2 + 1) := by rw [ndI, if_pos (by simp [pfM, *])]
                        exact ih2 (t + 1) _ _ (by rw [hq2, e, hrr]; first | (rw [if_pos (by omega)]; done) | (rw [if_pos (by omega)]; omega) | (rw [if_neg (by omega)]; omega)) (by rw [e, hrr]) (by omega) (by omega)
              refine g_sub [2, 3, 4, 5, 6, 7, 8, 9, 1, 0] (lv' := [(0, .ref u0), (1, .int (nI x9)), (2, .int (nI y9)), (3, .int (gz true)), (4, .int (nI q)), (5, .int 8), (6, .int 10), (7, .int (nI i)), (8, .int 0), (9, .int 0)]) rfl ?_
              exact lp90_13 (10 + 1) 0 q 0 hq rfl (by omega) (by omega)
        refine g_sub [4, 5, 6, 7, 3, 2, 1, 0] (lv' := [(0, .ref u0), (1, .int (nI x9)), (2, .int (nI y9)), (3, .int (gz true)), (4, .int 0), (5, .int 8), (6, .int 10), (7, .int 0)]) rfl ?_
        exact lp77_11 (8 + 1) 0 0 rfl (by omega) (by omega)
    · skip
      have hcc := c_2
      refine g_iconst (v := 0) C dX3_mends_34 (by decide) ?_
      refine g_iret C hQ (Nat.le_of_ble_eq_true rfl) (Nat.le_of_ble_eq_true rfl) dX3_mends_35 ?_
      refine Or.inl ⟨by simp [cdO, *], ?_, ?_⟩
      · rw [hclx9, hcly9, menM, if_neg hcc]
      · simp only [hclx9, hcly9, menW]; first | rw [if_pos hcc] | rw [if_neg hcc]
  · skip
    replace c_1 := gz0.mp c_1
    refine g_aload_n C dX3_mends_13 rfl 0 rfl ?_
    refine g_iconst (v := 1) C dX3_mends_14 (by decide) ?_
    refine g_callV (ci := 3) (Cn := RX3) (As := [.int 1]) (rest := []) C gm0 rfl rfl (c_X3_no l D tys cI ht0 u0 u1 u2 u3 u4 u5 u6 u7 u8 u9 u10 u11 u12 u13 u14 np 0 fi le ac se hh ou cover sun rw fo wet aw hr ah Z 1) (cwV 1 C.ts gX3_mends_X3_no rfl rfl rfl (by decide +kernel) ⟨(Nat.le_of_ble_eq_true rfl), (Nat.le_of_ble_eq_true rfl)⟩) rfl rfl (Nat.le_of_ble_eq_true rfl) dX3_mends_15 (Nat.le_of_ble_eq_true rfl) (Nat.le_of_ble_eq_true rfl) (g_is (x := .int 0) (W1 := ((u0, .inr (3, [.int 1, .int (nI np), .ref u1, .ref u2, .ref u3, .ref u4, .ref u5, .ref u6, .ref u7, .ref u8, .ref u9, .ref u10, .ref u11, .ref u13])) :: (u1, .inl (cI, 100, .inl (fi))) :: (u2, .inl (cI, 100, .inl (le))) :: (u3, .inl (cI, 100, .inl (ac))) :: (u4, .inl (cI, 100, .inl (se))) :: (u5, .inl (cI, 100, .inl (hh))) :: (u6, .inl (cI, 100, .inl (ou))) :: (u7, .inl (cI, 80, .inl (cover))) :: (u8, .inl (cI, 8, .inl (sun))) :: (u9, .inl (cI, 80, .inl (rw))) :: (u10, .inl (cI, 80, .inl (fo))) :: (u11, .inr (2, [.int (nI hr), .ref u12, .ref u0])) :: (u12, .inl (cI, 80, .inl (wet))) :: (u13, .inr (2, [.int ah, .ref u14, .ref u0])) :: (u14, .inl (cI, 80, .inl (aw))) :: Z)) ?_)
    refine g_iret C hQ (Nat.le_of_ble_eq_true rfl) (Nat.le_of_ble_eq_true rfl) dX3_mends_18 ?_
    have e : cdO x y = 1 := by simp [cdO, *]
    exact Or.inr ⟨by rw [e]; decide, rfl, by rw [e]; rfl⟩

theorem k_X3_pass_inX3 : ∀ w ∈ wsX30, w ∈ wsX3_pass := by decide +kernel
theorem k_X3_pass_1 : Cond.fieldLink RX3 55 "WetMosaicModel" "thrown" "I" ∈ wsX3_pass := by decide +kernel
theorem k_X3_pass_2 : Cond.fieldLink RX3 45 "WetMosaicModel" "s" "LWetMosaicModel$State;" ∈ wsX3_pass := by decide +kernel
set_option maxHeartbeats 4000000 in
set_option maxRecDepth 100000 in
theorem c_X3_pass (l : Launch) (D : va_G) (tys : List (ClassId × FieldType)) (cI : ClassId) (ht0 : tys[0]? = some (cI, .int)) (u0 u1 u2 u3 u4 u5 u6 u7 u8 u9 u10 u11 u12 u13 u14 np : Nat) (th : Int32) (fi le ac se hh ou cover sun rw fo wet aw : Nat → Int32) (hr : Nat) (ah : Int32) (Z : va_W) (P : Nat → Pd) (hnp : np ≤ 100) (hR : Mrel np P fi le ac se hh ou) (hg : Pok np P) (hcv : CovOk np cover) (v : Int32) (hhr : hr < 2 ^ 29) : gM l yX3_pass wsX3_pass ({ frames := 2, cells := 0, slots := 0, locals := 62 } : Room) D tys [.ref u0, .int v] ((u0, .inr (3, [.int th, .int (nI np), .ref u1, .ref u2, .ref u3, .ref u4, .ref u5, .ref u6, .ref u7, .ref u8, .ref u9, .ref u10, .ref u11, .ref u13])) :: (u1, .inl (cI, 100, .inl (fi))) :: (u2, .inl (cI, 100, .inl (le))) :: (u3, .inl (cI, 100, .inl (ac))) :: (u4, .inl (cI, 100, .inl (se))) :: (u5, .inl (cI, 100, .inl (hh))) :: (u6, .inl (cI, 100, .inl (ou))) :: (u7, .inl (cI, 80, .inl (cover))) :: (u8, .inl (cI, 8, .inl (sun))) :: (u9, .inl (cI, 80, .inl (rw))) :: (u10, .inl (cI, 80, .inl (fo))) :: (u11, .inr (2, [.int (nI hr), .ref u12, .ref u0])) :: (u12, .inl (cI, 80, .inl (wet))) :: (u13, .inr (2, [.int ah, .ref u14, .ref u0])) :: (u14, .inl (cI, 80, .inl (aw))) :: Z) (gMo (cdPa v) (.int (nI (cnt (fun k => lsp (P k) (wetN wet cover sun hr (vn v))) np))) (fun wX => wX = ((u0, .inr (3, [.int 0, .int (nI np), .ref u1, .ref u2, .ref u3, .ref u4, .ref u5, .ref u6, .ref u7, .ref u8, .ref u9, .ref u10, .ref u11, .ref u13])) :: (u1, .inl (cI, 100, .inl (fi))) :: (u2, .inl (cI, 100, .inl (le))) :: (u3, .inl (cI, 100, .inl (ac))) :: (u4, .inl (cI, 100, .inl (se))) :: (u5, .inl (cI, 100, .inl (hh))) :: (u6, .inl (cI, 100, .inl (ou))) :: (u7, .inl (cI, 80, .inl (cover))) :: (u8, .inl (cI, 8, .inl (sun))) :: (u9, .inl (cI, 80, .inl (rw))) :: (u10, .inl (cI, 80, .inl (fo))) :: (u11, .inr (2, [.int (nI (hr + vn v)), .ref u12, .ref u0])) :: (u12, .inl (cI, 80, .inl (wetN wet cover sun hr (vn v)))) :: (u13, .inr (2, [.int ah, .ref u14, .ref u0])) :: (u14, .inl (cI, 80, .inl (aw))) :: Z)) ((u0, .inr (3, [.int (nI (cdPa v)), .int (nI np), .ref u1, .ref u2, .ref u3, .ref u4, .ref u5, .ref u6, .ref u7, .ref u8, .ref u9, .ref u10, .ref u11, .ref u13])) :: (u1, .inl (cI, 100, .inl (fi))) :: (u2, .inl (cI, 100, .inl (le))) :: (u3, .inl (cI, 100, .inl (ac))) :: (u4, .inl (cI, 100, .inl (se))) :: (u5, .inl (cI, 100, .inl (hh))) :: (u6, .inl (cI, 100, .inl (ou))) :: (u7, .inl (cI, 80, .inl (cover))) :: (u8, .inl (cI, 8, .inl (sun))) :: (u9, .inl (cI, 80, .inl (rw))) :: (u10, .inl (cI, 80, .inl (fo))) :: (u11, .inr (2, [.int (nI hr), .ref u12, .ref u0])) :: (u12, .inl (cI, 80, .inl (wet))) :: (u13, .inr (2, [.int ah, .ref u14, .ref u0])) :: (u14, .inl (cI, 80, .inl (aw))) :: Z)) 0 0 := by
  refine gM_of (by decide +kernel) rfl (Nat.le_of_ble_eq_true rfl) ?_
  intro p e s m args below meth c A Q hin C hQ
  refine g_sub [0, 1] (lv' := [(0, .ref u0), (1, .int v)]) rfl ?_
  refine g_aload_n C dX3_pass_0 rfl 0 rfl ?_
  refine g_iconst (v := 0) C dX3_pass_1 (by decide) ?_
  refine g_put (ci := 3) (Cn := RX3) (T := TX3) (N := 14) (ty := .int) (ws' := ((u0, .inr (3, [.int 0, .int (nI np), .ref u1, .ref u2, .ref u3, .ref u4, .ref u5, .ref u6, .ref u7, .ref u8, .ref u9, .ref u10, .ref u11, .ref u13])) :: (u1, .inl (cI, 100, .inl (fi))) :: (u2, .inl (cI, 100, .inl (le))) :: (u3, .inl (cI, 100, .inl (ac))) :: (u4, .inl (cI, 100, .inl (se))) :: (u5, .inl (cI, 100, .inl (hh))) :: (u6, .inl (cI, 100, .inl (ou))) :: (u7, .inl (cI, 80, .inl (cover))) :: (u8, .inl (cI, 8, .inl (sun))) :: (u9, .inl (cI, 80, .inl (rw))) :: (u10, .inl (cI, 80, .inl (fo))) :: (u11, .inr (2, [.int (nI hr), .ref u12, .ref u0])) :: (u12, .inl (cI, 80, .inl (wet))) :: (u13, .inr (2, [.int ah, .ref u14, .ref u0])) :: (u14, .inl (cI, 80, .inl (aw))) :: Z)) C k_X3_pass_inX3 tyX3 tyX3_ok nmX3 0 rfl rfl 0 (by decide) k_X3_pass_1 rfl rfl (by decide +kernel) rfl rfl (Nat.le_of_ble_eq_true rfl) dX3_pass_2 rfl ?_
  refine g_iload_n C dX3_pass_5 rfl 1 rfl ?_
  refine g_iconst (v := 1) C dX3_pass_6 (by decide) ?_
  refine g_bipush (v := 100) C dX3_pass_7 (by decide) ?_
  refine g_callS (As := [.int v, .int 1, .int 100]) (rest := []) C (c_X3_isIn l D tys ((u0, .inr (3, [.int 0, .int (nI np), .ref u1, .ref u2, .ref u3, .ref u4, .ref u5, .ref u6, .ref u7, .ref u8, .ref u9, .ref u10, .ref u11, .ref u13])) :: (u1, .inl (cI, 100, .inl (fi))) :: (u2, .inl (cI, 100, .inl (le))) :: (u3, .inl (cI, 100, .inl (ac))) :: (u4, .inl (cI, 100, .inl (se))) :: (u5, .inl (cI, 100, .inl (hh))) :: (u6, .inl (cI, 100, .inl (ou))) :: (u7, .inl (cI, 80, .inl (cover))) :: (u8, .inl (cI, 8, .inl (sun))) :: (u9, .inl (cI, 80, .inl (rw))) :: (u10, .inl (cI, 80, .inl (fo))) :: (u11, .inr (2, [.int (nI hr), .ref u12, .ref u0])) :: (u12, .inl (cI, 80, .inl (wet))) :: (u13, .inr (2, [.int ah, .ref u14, .ref u0])) :: (u14, .inl (cI, 80, .inl (aw))) :: Z) v 1 100) (va_cwS 3 C.ts gX3_pass_X3_isIn rfl rfl rfl (by decide +kernel) ⟨(Nat.le_of_ble_eq_true rfl), (Nat.le_of_ble_eq_true rfl)⟩) rfl rfl (Nat.le_of_ble_eq_true rfl) dX3_pass_9 (Nat.le_of_ble_eq_true rfl) (Nat.le_of_ble_eq_true rfl) (g_is (x := .int (gz (inR 1 100 v))) (W1 := ((u0, .inr (3, [.int 0, .int (nI np), .ref u1, .ref u2, .ref u3, .ref u4, .ref u5, .ref u6, .ref u7, .ref u8, .ref u9, .ref u10, .ref u11, .ref u13])) :: (u1, .inl (cI, 100, .inl (fi))) :: (u2, .inl (cI, 100, .inl (le))) :: (u3, .inl (cI, 100, .inl (ac))) :: (u4, .inl (cI, 100, .inl (se))) :: (u5, .inl (cI, 100, .inl (hh))) :: (u6, .inl (cI, 100, .inl (ou))) :: (u7, .inl (cI, 80, .inl (cover))) :: (u8, .inl (cI, 8, .inl (sun))) :: (u9, .inl (cI, 80, .inl (rw))) :: (u10, .inl (cI, 80, .inl (fo))) :: (u11, .inr (2, [.int (nI hr), .ref u12, .ref u0])) :: (u12, .inl (cI, 80, .inl (wet))) :: (u13, .inr (2, [.int ah, .ref u14, .ref u0])) :: (u14, .inl (cI, 80, .inl (aw))) :: Z)) ?_)
  refine g_if_ne (tgt := 21) C dX3_pass_12 (by decide) (fun c_1 => ?_) (fun c_1 => ?_)
  · skip
    replace c_1 := gzn.mp c_1
    obtain ⟨n, hn1, hn2, rfl⟩ := inR1_of (N := 100) rfl (by decide) c_1
    have hcln : vn (nI n) = n := nI_clamp (by omega)
    refine g_iconst (v := 0) C dX3_pass_21 (by decide) ?_
    refine g_istore_n (lv' := [(2, .int 0), (0, .ref u0), (1, .int (nI n))]) C dX3_pass_22 rfl (by decide) rfl ?_
    have lp23 : ∀ (n9 : Nat) (i : Nat) (hi : i ≤ n) (hn : n + 1 ≤ i + n9), G p l e ({ frames := 2, cells := 0, slots := 0, locals := 62 } : Room) s m args below meth c D A s.heap 3 0 0 Q 23 [(0, .ref u0), (1, .int (nI n)), (2, .int (nI i))] [] ((u0, .inr (3, [.int 0, .int (nI np), .ref u1, .ref u2, .ref u3, .ref u4, .ref u5, .ref u6, .ref u7, .ref u8, .ref u9, .ref u10, .ref u11, .ref u13])) :: (u1, .inl (cI, 100, .inl (fi))) :: (u2, .inl (cI, 100, .inl (le))) :: (u3, .inl (cI, 100, .inl (ac))) :: (u4, .inl (cI, 100, .inl (se))) :: (u5, .inl (cI, 100, .inl (hh))) :: (u6, .inl (cI, 100, .inl (ou))) :: (u7, .inl (cI, 80, .inl (cover))) :: (u8, .inl (cI, 8, .inl (sun))) :: (u9, .inl (cI, 80, .inl (rw))) :: (u10, .inl (cI, 80, .inl (fo))) :: (u11, .inr (2, [.int (nI (hr + i)), .ref u12, .ref u0])) :: (u12, .inl (cI, 80, .inl (wetN wet cover sun hr i))) :: (u13, .inr (2, [.int ah, .ref u14, .ref u0])) :: (u14, .inl (cI, 80, .inl (aw))) :: Z) := by
      intro n9
      induction n9 with
      | zero =>
        intro i hi hn
        exfalso; omega
      | succ n9 ih =>
        intro i hi hn
        refine g_iload_n C dX3_pass_23 rfl 2 rfl ?_
        refine g_iload_n C dX3_pass_24 rfl 1 rfl ?_
        refine g_icmp_ge (tgt := 41) C dX3_pass_25 (by decide) (fun c_2 => ?_) (fun c_2 => ?_)
        · skip
          rw [nI_leI (by omega) (by omega)] at c_2
          refine g_aload_n C dX3_pass_41 rfl 0 rfl ?_
          refine g_callV (ci := 3) (Cn := RX3) (As := []) (rest := []) C gm0 rfl rfl (c_X3_looseOnes l D tys cI ht0 ((u0, .inr (3, [.int 0, .int (nI np), .ref u1, .ref u2, .ref u3, .ref u4, .ref u5, .ref u6, .ref u7, .ref u8, .ref u9, .ref u10, .ref u11, .ref u13])) :: (u1, .inl (cI, 100, .inl (fi))) :: (u2, .inl (cI, 100, .inl (le))) :: (u3, .inl (cI, 100, .inl (ac))) :: (u4, .inl (cI, 100, .inl (se))) :: (u5, .inl (cI, 100, .inl (hh))) :: (u6, .inl (cI, 100, .inl (ou))) :: (u7, .inl (cI, 80, .inl (cover))) :: (u8, .inl (cI, 8, .inl (sun))) :: (u9, .inl (cI, 80, .inl (rw))) :: (u10, .inl (cI, 80, .inl (fo))) :: (u11, .inr (2, [.int (nI (hr + i)), .ref u12, .ref u0])) :: (u12, .inl (cI, 80, .inl (wetN wet cover sun hr i))) :: (u13, .inr (2, [.int ah, .ref u14, .ref u0])) :: (u14, .inl (cI, 80, .inl (aw))) :: Z) u0 u1 u2 u3 u4 u5 u6 u7 u8 u9 u10 u11 u12 u13 u14 np 0 fi le ac se hh ou P (hr + i) (wetN wet cover sun hr i) cover hnp hR hg gm0 (gmT (gmT (gmT (gmT (gmT (gmT (gmT (gmT (gmT (gmT (gmT gm0))))))))))) (gmT (gmT (gmT (gmT (gmT (gmT (gmT (gmT (gmT (gmT (gmT (gmT gm0)))))))))))) (gmT gm0) (gmT (gmT gm0)) (gmT (gmT (gmT gm0))) (gmT (gmT (gmT (gmT gm0)))) (gmT (gmT (gmT (gmT (gmT gm0))))) (gmT (gmT (gmT (gmT (gmT (gmT gm0)))))) (gmT (gmT (gmT (gmT (gmT (gmT (gmT gm0)))))))) (cwV 0 C.ts gX3_pass_X3_looseOnes rfl rfl rfl (by decide +kernel) ⟨(Nat.le_of_ble_eq_true rfl), (Nat.le_of_ble_eq_true rfl)⟩) rfl rfl (Nat.le_of_ble_eq_true rfl) dX3_pass_42 (Nat.le_of_ble_eq_true rfl) (Nat.le_of_ble_eq_true rfl) (g_is (x := .int (nI (cnt (fun k => lsp (P k) (wetN wet cover sun hr i)) np))) (W1 := ((u0, .inr (3, [.int 0, .int (nI np), .ref u1, .ref u2, .ref u3, .ref u4, .ref u5, .ref u6, .ref u7, .ref u8, .ref u9, .ref u10, .ref u11, .ref u13])) :: (u1, .inl (cI, 100, .inl (fi))) :: (u2, .inl (cI, 100, .inl (le))) :: (u3, .inl (cI, 100, .inl (ac))) :: (u4, .inl (cI, 100, .inl (se))) :: (u5, .inl (cI, 100, .inl (hh))) :: (u6, .inl (cI, 100, .inl (ou))) :: (u7, .inl (cI, 80, .inl (cover))) :: (u8, .inl (cI, 8, .inl (sun))) :: (u9, .inl (cI, 80, .inl (rw))) :: (u10, .inl (cI, 80, .inl (fo))) :: (u11, .inr (2, [.int (nI (hr + i)), .ref u12, .ref u0])) :: (u12, .inl (cI, 80, .inl (wetN wet cover sun hr i))) :: (u13, .inr (2, [.int ah, .ref u14, .ref u0])) :: (u14, .inl (cI, 80, .inl (aw))) :: Z)) ?_)
          refine g_iret C hQ (Nat.le_of_ble_eq_true rfl) (Nat.le_of_ble_eq_true rfl) dX3_pass_45 ?_
          refine Or.inl ⟨by simp [cdPa, *], ?_, ?_⟩
          · rw [hcln, show i = n by omega]
          · rw [hcln, show i = n by omega]
        · skip
          rw [nI_leI (by omega) (by omega)] at c_2
          refine g_aload_n C dX3_pass_28 rfl 0 rfl ?_
          refine g_get (v := .ref u11) (ci := 3) (Cn := RX3) (T := TX3) (N := 14) C k_X3_pass_inX3 gm0 rfl 12 (by decide) k_X3_pass_2 rfl rfl dX3_pass_29 ?_
          refine g_callV (ci := 2) (Cn := RX2) (As := []) (rest := []) C (gmT (gmT (gmT (gmT (gmT (gmT (gmT (gmT (gmT (gmT (gmT gm0))))))))))) rfl rfl (c_X2_pass_s l D tys cI ht0 u0 u1 u2 u3 u4 u5 u6 u7 u8 u9 u10 u11 u12 u13 u14 np 0 fi le ac se hh ou cover sun rw fo (wetN wet cover sun hr i) aw (hr + i) ah Z (by omega)) (cwV 0 C.ts gX3_pass_X2_pass rfl rfl rfl (by decide +kernel) ⟨(Nat.le_of_ble_eq_true rfl), (Nat.le_of_ble_eq_true rfl)⟩) rfl rfl (Nat.le_of_ble_eq_true rfl) dX3_pass_32 (Nat.le_of_ble_eq_true rfl) (Nat.le_of_ble_eq_true rfl) (g_isV (W1 := ((u0, .inr (3, [.int 0, .int (nI np), .ref u1, .ref u2, .ref u3, .ref u4, .ref u5, .ref u6, .ref u7, .ref u8, .ref u9, .ref u10, .ref u11, .ref u13])) :: (u1, .inl (cI, 100, .inl (fi))) :: (u2, .inl (cI, 100, .inl (le))) :: (u3, .inl (cI, 100, .inl (ac))) :: (u4, .inl (cI, 100, .inl (se))) :: (u5, .inl (cI, 100, .inl (hh))) :: (u6, .inl (cI, 100, .inl (ou))) :: (u7, .inl (cI, 80, .inl (cover))) :: (u8, .inl (cI, 8, .inl (sun))) :: (u9, .inl (cI, 80, .inl (rw))) :: (u10, .inl (cI, 80, .inl (fo))) :: (u11, .inr (2, [.int (nI ((hr + i) + 1)), .ref u12, .ref u0])) :: (u12, .inl (cI, 80, .inl (wetN wet cover sun hr (i + 1)))) :: (u13, .inr (2, [.int ah, .ref u14, .ref u0])) :: (u14, .inl (cI, 80, .inl (aw))) :: Z)) ?_)
          refine g_iinc (v := nI (i + 1)) (lv' := [(2, .int (nI (i + 1))), (0, .ref u0), (1, .int (nI n))]) C dX3_pass_35 2 rfl (by exact nI_add _ 1) (by decide) rfl ?_
          refine g_goto (tgt := 23) C dX3_pass_38 (by decide) ?_
          refine g_sub [1, 2, 0] (lv' := [(0, .ref u0), (1, .int (nI n)), (2, .int (nI (i + 1)))]) rfl ?_
          exact ih (i + 1) (by omega) (by omega)
    refine g_sub [1, 2, 0] (lv' := [(0, .ref u0), (1, .int (nI n)), (2, .int 0)]) rfl ?_
    exact lp23 (n + 1) 0 (by omega) (by omega)
  · skip
    replace c_1 := gz0.mp c_1
    refine g_aload_n C dX3_pass_15 rfl 0 rfl ?_
    refine g_iconst (v := 1) C dX3_pass_16 (by decide) ?_
    refine g_callV (ci := 3) (Cn := RX3) (As := [.int 1]) (rest := []) C gm0 rfl rfl (c_X3_no l D tys cI ht0 u0 u1 u2 u3 u4 u5 u6 u7 u8 u9 u10 u11 u12 u13 u14 np 0 fi le ac se hh ou cover sun rw fo wet aw hr ah Z 1) (cwV 1 C.ts gX3_pass_X3_no rfl rfl rfl (by decide +kernel) ⟨(Nat.le_of_ble_eq_true rfl), (Nat.le_of_ble_eq_true rfl)⟩) rfl rfl (Nat.le_of_ble_eq_true rfl) dX3_pass_17 (Nat.le_of_ble_eq_true rfl) (Nat.le_of_ble_eq_true rfl) (g_is (x := .int 0) (W1 := ((u0, .inr (3, [.int 1, .int (nI np), .ref u1, .ref u2, .ref u3, .ref u4, .ref u5, .ref u6, .ref u7, .ref u8, .ref u9, .ref u10, .ref u11, .ref u13])) :: (u1, .inl (cI, 100, .inl (fi))) :: (u2, .inl (cI, 100, .inl (le))) :: (u3, .inl (cI, 100, .inl (ac))) :: (u4, .inl (cI, 100, .inl (se))) :: (u5, .inl (cI, 100, .inl (hh))) :: (u6, .inl (cI, 100, .inl (ou))) :: (u7, .inl (cI, 80, .inl (cover))) :: (u8, .inl (cI, 8, .inl (sun))) :: (u9, .inl (cI, 80, .inl (rw))) :: (u10, .inl (cI, 80, .inl (fo))) :: (u11, .inr (2, [.int (nI hr), .ref u12, .ref u0])) :: (u12, .inl (cI, 80, .inl (wet))) :: (u13, .inr (2, [.int ah, .ref u14, .ref u0])) :: (u14, .inl (cI, 80, .inl (aw))) :: Z)) ?_)
    refine g_iret C hQ (Nat.le_of_ble_eq_true rfl) (Nat.le_of_ble_eq_true rfl) dX3_pass_20 ?_
    have e : cdPa v = 1 := by simp [cdPa, *]
    exact Or.inr ⟨by rw [e]; decide, rfl, by rw [e]; rfl⟩

theorem k_X3_loose_inX3 : ∀ w ∈ wsX30, w ∈ wsX3_loose := by decide +kernel
theorem k_X3_loose_1 : Cond.fieldLink RX3 55 "WetMosaicModel" "thrown" "I" ∈ wsX3_loose := by decide +kernel
theorem k_X3_loose_2 : Cond.fieldLink RX3 49 "WetMosaicModel" "ahead" "LWetMosaicModel$State;" ∈ wsX3_loose := by decide +kernel
theorem k_X3_loose_3 : Cond.fieldLink RX3 45 "WetMosaicModel" "s" "LWetMosaicModel$State;" ∈ wsX3_loose := by decide +kernel
set_option maxHeartbeats 4000000 in
set_option maxRecDepth 100000 in
theorem c_X3_loose (l : Launch) (D : va_G) (tys : List (ClassId × FieldType)) (cI : ClassId) (ht0 : tys[0]? = some (cI, .int)) (u0 u1 u2 u3 u4 u5 u6 u7 u8 u9 u10 u11 u12 u13 u14 np : Nat) (th : Int32) (fi le ac se hh ou cover sun rw fo wet aw : Nat → Int32) (hr : Nat) (ah : Int32) (Z : va_W) (P : Nat → Pd) (hnp : np ≤ 100) (hR : Mrel np P fi le ac se hh ou) (hg : Pok np P) (hcv : CovOk np cover) (v : Int32) (hhr : hr < 2 ^ 29) : gM l yX3_loose wsX3_loose ({ frames := 2, cells := 0, slots := 0, locals := 81 } : Room) D tys [.ref u0, .int v] ((u0, .inr (3, [.int th, .int (nI np), .ref u1, .ref u2, .ref u3, .ref u4, .ref u5, .ref u6, .ref u7, .ref u8, .ref u9, .ref u10, .ref u11, .ref u13])) :: (u1, .inl (cI, 100, .inl (fi))) :: (u2, .inl (cI, 100, .inl (le))) :: (u3, .inl (cI, 100, .inl (ac))) :: (u4, .inl (cI, 100, .inl (se))) :: (u5, .inl (cI, 100, .inl (hh))) :: (u6, .inl (cI, 100, .inl (ou))) :: (u7, .inl (cI, 80, .inl (cover))) :: (u8, .inl (cI, 8, .inl (sun))) :: (u9, .inl (cI, 80, .inl (rw))) :: (u10, .inl (cI, 80, .inl (fo))) :: (u11, .inr (2, [.int (nI hr), .ref u12, .ref u0])) :: (u12, .inl (cI, 80, .inl (wet))) :: (u13, .inr (2, [.int ah, .ref u14, .ref u0])) :: (u14, .inl (cI, 80, .inl (aw))) :: Z) (gMo (cdLo np v) (.int (fstI (fun i => !lsp (P (vn v)) (wetN wet cover sun hr i)) 201 0)) (fun wX => ∃ aw2 ah2, wX = ((u0, .inr (3, [.int 0, .int (nI np), .ref u1, .ref u2, .ref u3, .ref u4, .ref u5, .ref u6, .ref u7, .ref u8, .ref u9, .ref u10, .ref u11, .ref u13])) :: (u1, .inl (cI, 100, .inl (fi))) :: (u2, .inl (cI, 100, .inl (le))) :: (u3, .inl (cI, 100, .inl (ac))) :: (u4, .inl (cI, 100, .inl (se))) :: (u5, .inl (cI, 100, .inl (hh))) :: (u6, .inl (cI, 100, .inl (ou))) :: (u7, .inl (cI, 80, .inl (cover))) :: (u8, .inl (cI, 8, .inl (sun))) :: (u9, .inl (cI, 80, .inl (rw))) :: (u10, .inl (cI, 80, .inl (fo))) :: (u11, .inr (2, [.int (nI hr), .ref u12, .ref u0])) :: (u12, .inl (cI, 80, .inl (wet))) :: (u13, .inr (2, [.int ah2, .ref u14, .ref u0])) :: (u14, .inl (cI, 80, .inl (aw2))) :: Z)) ((u0, .inr (3, [.int (nI (cdLo np v)), .int (nI np), .ref u1, .ref u2, .ref u3, .ref u4, .ref u5, .ref u6, .ref u7, .ref u8, .ref u9, .ref u10, .ref u11, .ref u13])) :: (u1, .inl (cI, 100, .inl (fi))) :: (u2, .inl (cI, 100, .inl (le))) :: (u3, .inl (cI, 100, .inl (ac))) :: (u4, .inl (cI, 100, .inl (se))) :: (u5, .inl (cI, 100, .inl (hh))) :: (u6, .inl (cI, 100, .inl (ou))) :: (u7, .inl (cI, 80, .inl (cover))) :: (u8, .inl (cI, 8, .inl (sun))) :: (u9, .inl (cI, 80, .inl (rw))) :: (u10, .inl (cI, 80, .inl (fo))) :: (u11, .inr (2, [.int (nI hr), .ref u12, .ref u0])) :: (u12, .inl (cI, 80, .inl (wet))) :: (u13, .inr (2, [.int ah, .ref u14, .ref u0])) :: (u14, .inl (cI, 80, .inl (aw))) :: Z)) 0 0 := by
  refine gM_of (by decide +kernel) rfl (Nat.le_of_ble_eq_true rfl) ?_
  intro p e s m args below meth c A Q hin C hQ
  refine g_sub [0, 1] (lv' := [(0, .ref u0), (1, .int v)]) rfl ?_
  refine g_aload_n C dX3_loose_0 rfl 0 rfl ?_
  refine g_iconst (v := 0) C dX3_loose_1 (by decide) ?_
  refine g_put (ci := 3) (Cn := RX3) (T := TX3) (N := 14) (ty := .int) (ws' := ((u0, .inr (3, [.int 0, .int (nI np), .ref u1, .ref u2, .ref u3, .ref u4, .ref u5, .ref u6, .ref u7, .ref u8, .ref u9, .ref u10, .ref u11, .ref u13])) :: (u1, .inl (cI, 100, .inl (fi))) :: (u2, .inl (cI, 100, .inl (le))) :: (u3, .inl (cI, 100, .inl (ac))) :: (u4, .inl (cI, 100, .inl (se))) :: (u5, .inl (cI, 100, .inl (hh))) :: (u6, .inl (cI, 100, .inl (ou))) :: (u7, .inl (cI, 80, .inl (cover))) :: (u8, .inl (cI, 8, .inl (sun))) :: (u9, .inl (cI, 80, .inl (rw))) :: (u10, .inl (cI, 80, .inl (fo))) :: (u11, .inr (2, [.int (nI hr), .ref u12, .ref u0])) :: (u12, .inl (cI, 80, .inl (wet))) :: (u13, .inr (2, [.int ah, .ref u14, .ref u0])) :: (u14, .inl (cI, 80, .inl (aw))) :: Z)) C k_X3_loose_inX3 tyX3 tyX3_ok nmX3 0 rfl rfl 0 (by decide) k_X3_loose_1 rfl rfl (by decide +kernel) rfl rfl (Nat.le_of_ble_eq_true rfl) dX3_loose_2 rfl ?_
  refine g_aload_n C dX3_loose_5 rfl 0 rfl ?_
  refine g_iload_n C dX3_loose_6 rfl 1 rfl ?_
  refine g_callV (ci := 3) (Cn := RX3) (As := [.int v]) (rest := []) C gm0 rfl rfl (c_X3_isPiece l D tys ((u0, .inr (3, [.int 0, .int (nI np), .ref u1, .ref u2, .ref u3, .ref u4, .ref u5, .ref u6, .ref u7, .ref u8, .ref u9, .ref u10, .ref u11, .ref u13])) :: (u1, .inl (cI, 100, .inl (fi))) :: (u2, .inl (cI, 100, .inl (le))) :: (u3, .inl (cI, 100, .inl (ac))) :: (u4, .inl (cI, 100, .inl (se))) :: (u5, .inl (cI, 100, .inl (hh))) :: (u6, .inl (cI, 100, .inl (ou))) :: (u7, .inl (cI, 80, .inl (cover))) :: (u8, .inl (cI, 8, .inl (sun))) :: (u9, .inl (cI, 80, .inl (rw))) :: (u10, .inl (cI, 80, .inl (fo))) :: (u11, .inr (2, [.int (nI hr), .ref u12, .ref u0])) :: (u12, .inl (cI, 80, .inl (wet))) :: (u13, .inr (2, [.int ah, .ref u14, .ref u0])) :: (u14, .inl (cI, 80, .inl (aw))) :: Z) u0 u1 u2 u3 u4 u5 u6 u7 u8 u9 u10 u11 u12 u13 u14 np 0 v gm0) (cwV 1 C.ts gX3_loose_X3_isPiece rfl rfl rfl (by decide +kernel) ⟨(Nat.le_of_ble_eq_true rfl), (Nat.le_of_ble_eq_true rfl)⟩) rfl rfl (Nat.le_of_ble_eq_true rfl) dX3_loose_7 (Nat.le_of_ble_eq_true rfl) (Nat.le_of_ble_eq_true rfl) (g_is (x := .int (gz (pIn np v))) (W1 := ((u0, .inr (3, [.int 0, .int (nI np), .ref u1, .ref u2, .ref u3, .ref u4, .ref u5, .ref u6, .ref u7, .ref u8, .ref u9, .ref u10, .ref u11, .ref u13])) :: (u1, .inl (cI, 100, .inl (fi))) :: (u2, .inl (cI, 100, .inl (le))) :: (u3, .inl (cI, 100, .inl (ac))) :: (u4, .inl (cI, 100, .inl (se))) :: (u5, .inl (cI, 100, .inl (hh))) :: (u6, .inl (cI, 100, .inl (ou))) :: (u7, .inl (cI, 80, .inl (cover))) :: (u8, .inl (cI, 8, .inl (sun))) :: (u9, .inl (cI, 80, .inl (rw))) :: (u10, .inl (cI, 80, .inl (fo))) :: (u11, .inr (2, [.int (nI hr), .ref u12, .ref u0])) :: (u12, .inl (cI, 80, .inl (wet))) :: (u13, .inr (2, [.int ah, .ref u14, .ref u0])) :: (u14, .inl (cI, 80, .inl (aw))) :: Z)) ?_)
  refine g_if_ne (tgt := 19) C dX3_loose_10 (by decide) (fun c_1 => ?_) (fun c_1 => ?_)
  · skip
    replace c_1 := gzn.mp c_1
    obtain ⟨k, hk, rfl⟩ := inR_np (by omega) c_1
    have hclk : vn (nI k) = k := nI_clamp (by omega)
    obtain ⟨hg1, hg2, hg3, hg4, hg5⟩ := hg k hk
    refine g_aload_n C dX3_loose_19 rfl 0 rfl ?_
    refine g_get (v := .ref u13) (ci := 3) (Cn := RX3) (T := TX3) (N := 14) C k_X3_loose_inX3 gm0 rfl 13 (by decide) k_X3_loose_2 rfl rfl dX3_loose_20 ?_
    refine g_aload_n C dX3_loose_23 rfl 0 rfl ?_
    refine g_get (v := .ref u11) (ci := 3) (Cn := RX3) (T := TX3) (N := 14) C k_X3_loose_inX3 gm0 rfl 12 (by decide) k_X3_loose_3 rfl rfl dX3_loose_24 ?_
    refine g_callV (ci := 2) (Cn := RX2) (As := [.ref u11]) (rest := []) C (gmT (gmT (gmT (gmT (gmT (gmT (gmT (gmT (gmT (gmT (gmT (gmT (gmT gm0))))))))))))) rfl rfl (c_X2_become l D tys cI ht0 u0 u1 u2 u3 u4 u5 u6 u7 u8 u9 u10 u11 u12 u13 u14 np 0 fi le ac se hh ou cover sun rw fo wet aw hr ah Z) (cwV 1 C.ts gX3_loose_X2_become rfl rfl rfl (by decide +kernel) ⟨(Nat.le_of_ble_eq_true rfl), (Nat.le_of_ble_eq_true rfl)⟩) rfl rfl (Nat.le_of_ble_eq_true rfl) dX3_loose_27 (Nat.le_of_ble_eq_true rfl) (Nat.le_of_ble_eq_true rfl) (g_isV (W1 := ((u0, .inr (3, [.int 0, .int (nI np), .ref u1, .ref u2, .ref u3, .ref u4, .ref u5, .ref u6, .ref u7, .ref u8, .ref u9, .ref u10, .ref u11, .ref u13])) :: (u1, .inl (cI, 100, .inl (fi))) :: (u2, .inl (cI, 100, .inl (le))) :: (u3, .inl (cI, 100, .inl (ac))) :: (u4, .inl (cI, 100, .inl (se))) :: (u5, .inl (cI, 100, .inl (hh))) :: (u6, .inl (cI, 100, .inl (ou))) :: (u7, .inl (cI, 80, .inl (cover))) :: (u8, .inl (cI, 8, .inl (sun))) :: (u9, .inl (cI, 80, .inl (rw))) :: (u10, .inl (cI, 80, .inl (fo))) :: (u11, .inr (2, [.int (nI hr), .ref u12, .ref u0])) :: (u12, .inl (cI, 80, .inl (wet))) :: (u13, .inr (2, [.int (nI hr), .ref u14, .ref u0])) :: (u14, .inl (cI, 80, .inl (wet))) :: Z)) ?_)
    refine g_iconst (v := 0) C dX3_loose_30 (by decide) ?_
    refine g_istore_n (lv' := [(2, .int 0), (0, .ref u0), (1, .int (nI k))]) C dX3_loose_31 rfl (by decide) rfl ?_
    have lp32 : ∀ (n9 : Nat) (i : Nat) (hT : fstI (fun i => !lsp (P k) (wetN wet cover sun hr i)) (201 - i) i = fstI (fun i => !lsp (P k) (wetN wet cover sun hr i)) 201 0) (hi : i ≤ 201) (hn : 202 ≤ i + n9), G p l e ({ frames := 2, cells := 0, slots := 0, locals := 81 } : Room) s m args below meth c D A s.heap 3 0 0 Q 32 [(0, .ref u0), (1, .int (nI k)), (2, .int (nI i))] [] ((u0, .inr (3, [.int 0, .int (nI np), .ref u1, .ref u2, .ref u3, .ref u4, .ref u5, .ref u6, .ref u7, .ref u8, .ref u9, .ref u10, .ref u11, .ref u13])) :: (u1, .inl (cI, 100, .inl (fi))) :: (u2, .inl (cI, 100, .inl (le))) :: (u3, .inl (cI, 100, .inl (ac))) :: (u4, .inl (cI, 100, .inl (se))) :: (u5, .inl (cI, 100, .inl (hh))) :: (u6, .inl (cI, 100, .inl (ou))) :: (u7, .inl (cI, 80, .inl (cover))) :: (u8, .inl (cI, 8, .inl (sun))) :: (u9, .inl (cI, 80, .inl (rw))) :: (u10, .inl (cI, 80, .inl (fo))) :: (u11, .inr (2, [.int (nI hr), .ref u12, .ref u0])) :: (u12, .inl (cI, 80, .inl (wet))) :: (u13, .inr (2, [.int (nI (hr + i)), .ref u14, .ref u0])) :: (u14, .inl (cI, 80, .inl (wetN wet cover sun hr i))) :: Z) := by
      intro n9
      induction n9 with
      | zero =>
        intro i hT hi hn
        exfalso; omega
      | succ n9 ih =>
        intro i hT hi hn
        refine g_iload_n C dX3_loose_32 rfl 2 rfl ?_
        refine g_sipush (v := 200) C dX3_loose_33 (by decide) ?_
        refine g_icmp_gt (tgt := 65) C dX3_loose_36 (by decide) (fun c_2 => ?_) (fun c_2 => ?_)
        · skip
          rw [show (200 : Int32) = nI 200 from rfl, nI_ltI (by omega) (by omega)] at c_2
          refine g_iconst (v := (-1)) C dX3_loose_65 (by decide) ?_
          refine g_iret C hQ (Nat.le_of_ble_eq_true rfl) (Nat.le_of_ble_eq_true rfl) dX3_loose_66 ?_
          refine Or.inl ⟨by simp [cdLo, pIn, *], ?_, _, _, rfl⟩
          rw [hclk, ← hT, show i = 201 by omega]; rfl
        · skip
          rw [show (200 : Int32) = nI 200 from rfl, nI_ltI (by omega) (by omega)] at c_2
          refine g_aload_n C dX3_loose_39 rfl 0 rfl ?_
          refine g_get (v := .ref u13) (ci := 3) (Cn := RX3) (T := TX3) (N := 14) C k_X3_loose_inX3 gm0 rfl 13 (by decide) k_X3_loose_2 rfl rfl dX3_loose_40 ?_
          refine g_iload_n C dX3_loose_43 rfl 1 rfl ?_
          refine g_callV (ci := 2) (Cn := RX2) (As := [.int (nI k)]) (rest := []) C (gmT (gmT (gmT (gmT (gmT (gmT (gmT (gmT (gmT (gmT (gmT (gmT (gmT gm0))))))))))))) rfl rfl (c_X2_isLoose l D tys cI ht0 ((u0, .inr (3, [.int 0, .int (nI np), .ref u1, .ref u2, .ref u3, .ref u4, .ref u5, .ref u6, .ref u7, .ref u8, .ref u9, .ref u10, .ref u11, .ref u13])) :: (u1, .inl (cI, 100, .inl (fi))) :: (u2, .inl (cI, 100, .inl (le))) :: (u3, .inl (cI, 100, .inl (ac))) :: (u4, .inl (cI, 100, .inl (se))) :: (u5, .inl (cI, 100, .inl (hh))) :: (u6, .inl (cI, 100, .inl (ou))) :: (u7, .inl (cI, 80, .inl (cover))) :: (u8, .inl (cI, 8, .inl (sun))) :: (u9, .inl (cI, 80, .inl (rw))) :: (u10, .inl (cI, 80, .inl (fo))) :: (u11, .inr (2, [.int (nI hr), .ref u12, .ref u0])) :: (u12, .inl (cI, 80, .inl (wet))) :: (u13, .inr (2, [.int (nI (hr + i)), .ref u14, .ref u0])) :: (u14, .inl (cI, 80, .inl (wetN wet cover sun hr i))) :: Z) u0 u1 u2 u3 u4 u5 u6 u7 u8 u9 u10 u11 u12 u13 u14 np 0 fi le ac se hh ou P u13 u14 (nI (hr + i)) (wetN wet cover sun hr i) k (by omega) hnp hR (hg k (by omega)) gm0 (gmT (gmT (gmT (gmT (gmT (gmT (gmT (gmT (gmT (gmT (gmT (gmT (gmT gm0))))))))))))) (gmT (gmT (gmT (gmT (gmT (gmT (gmT (gmT (gmT (gmT (gmT (gmT (gmT (gmT gm0)))))))))))))) (gmT gm0) (gmT (gmT gm0)) (gmT (gmT (gmT gm0))) (gmT (gmT (gmT (gmT (gmT (gmT gm0))))))) (cwV 1 C.ts gX3_loose_X2_isLoose rfl rfl rfl (by decide +kernel) ⟨(Nat.le_of_ble_eq_true rfl), (Nat.le_of_ble_eq_true rfl)⟩) rfl rfl (Nat.le_of_ble_eq_true rfl) dX3_loose_44 (Nat.le_of_ble_eq_true rfl) (Nat.le_of_ble_eq_true rfl) (g_is (x := .int (gz (lsp (P k) (wetN wet cover sun hr i)))) (W1 := ((u0, .inr (3, [.int 0, .int (nI np), .ref u1, .ref u2, .ref u3, .ref u4, .ref u5, .ref u6, .ref u7, .ref u8, .ref u9, .ref u10, .ref u11, .ref u13])) :: (u1, .inl (cI, 100, .inl (fi))) :: (u2, .inl (cI, 100, .inl (le))) :: (u3, .inl (cI, 100, .inl (ac))) :: (u4, .inl (cI, 100, .inl (se))) :: (u5, .inl (cI, 100, .inl (hh))) :: (u6, .inl (cI, 100, .inl (ou))) :: (u7, .inl (cI, 80, .inl (cover))) :: (u8, .inl (cI, 8, .inl (sun))) :: (u9, .inl (cI, 80, .inl (rw))) :: (u10, .inl (cI, 80, .inl (fo))) :: (u11, .inr (2, [.int (nI hr), .ref u12, .ref u0])) :: (u12, .inl (cI, 80, .inl (wet))) :: (u13, .inr (2, [.int (nI (hr + i)), .ref u14, .ref u0])) :: (u14, .inl (cI, 80, .inl (wetN wet cover sun hr i))) :: Z)) ?_)
          refine g_if_ne (tgt := 52) C dX3_loose_47 (by decide) (fun c_3 => ?_) (fun c_3 => ?_)
          · skip
            replace c_3 := gzn.mp c_3
            refine g_aload_n C dX3_loose_52 rfl 0 rfl ?_
            refine g_get (v := .ref u13) (ci := 3) (Cn := RX3) (T := TX3) (N := 14) C k_X3_loose_inX3 gm0 rfl 13 (by decide) k_X3_loose_2 rfl rfl dX3_loose_53 ?_
            refine g_callV (ci := 2) (Cn := RX2) (As := []) (rest := []) C (gmT (gmT (gmT (gmT (gmT (gmT (gmT (gmT (gmT (gmT (gmT (gmT (gmT gm0))))))))))))) rfl rfl (c_X2_pass_a l D tys cI ht0 u0 u1 u2 u3 u4 u5 u6 u7 u8 u9 u10 u11 u12 u13 u14 np 0 fi le ac se hh ou cover sun rw fo wet (wetN wet cover sun hr i) hr (hr + i) Z (by omega)) (cwV 0 C.ts gX3_loose_X2_pass rfl rfl rfl (by decide +kernel) ⟨(Nat.le_of_ble_eq_true rfl), (Nat.le_of_ble_eq_true rfl)⟩) rfl rfl (Nat.le_of_ble_eq_true rfl) dX3_loose_56 (Nat.le_of_ble_eq_true rfl) (Nat.le_of_ble_eq_true rfl) (g_isV (W1 := ((u0, .inr (3, [.int 0, .int (nI np), .ref u1, .ref u2, .ref u3, .ref u4, .ref u5, .ref u6, .ref u7, .ref u8, .ref u9, .ref u10, .ref u11, .ref u13])) :: (u1, .inl (cI, 100, .inl (fi))) :: (u2, .inl (cI, 100, .inl (le))) :: (u3, .inl (cI, 100, .inl (ac))) :: (u4, .inl (cI, 100, .inl (se))) :: (u5, .inl (cI, 100, .inl (hh))) :: (u6, .inl (cI, 100, .inl (ou))) :: (u7, .inl (cI, 80, .inl (cover))) :: (u8, .inl (cI, 8, .inl (sun))) :: (u9, .inl (cI, 80, .inl (rw))) :: (u10, .inl (cI, 80, .inl (fo))) :: (u11, .inr (2, [.int (nI hr), .ref u12, .ref u0])) :: (u12, .inl (cI, 80, .inl (wet))) :: (u13, .inr (2, [.int (nI ((hr + i) + 1)), .ref u14, .ref u0])) :: (u14, .inl (cI, 80, .inl (wetN wet cover sun hr (i + 1)))) :: Z)) ?_)
            refine g_iinc (v := nI (i + 1)) (lv' := [(2, .int (nI (i + 1))), (0, .ref u0), (1, .int (nI k))]) C dX3_loose_59 2 rfl (by exact nI_add _ 1) (by decide) rfl ?_
            refine g_goto (tgt := 32) C dX3_loose_62 (by decide) ?_
            refine g_sub [1, 2, 0] (lv' := [(0, .ref u0), (1, .int (nI k)), (2, .int (nI (i + 1)))]) rfl ?_
            exact ih (i + 1) (by rw [← fstI_f (by omega) (by simp [*])]; exact hT) (by omega) (by omega)
          · skip
            replace c_3 := gz0.mp c_3
            refine g_iload_n C dX3_loose_50 rfl 2 rfl ?_
            refine g_iret C hQ (Nat.le_of_ble_eq_true rfl) (Nat.le_of_ble_eq_true rfl) dX3_loose_51 ?_
            refine Or.inl ⟨by simp [cdLo, pIn, *], ?_, _, _, rfl⟩
            rw [hclk, ← hT, fstI_t (by omega) (by simp [*])]
    refine g_sub [1, 2, 0] (lv' := [(0, .ref u0), (1, .int (nI k)), (2, .int 0)]) rfl ?_
    exact lp32 202 0 rfl (by omega) (by omega)
  · skip
    replace c_1 := gz0.mp c_1
    refine g_aload_n C dX3_loose_13 rfl 0 rfl ?_
    refine g_iconst (v := 1) C dX3_loose_14 (by decide) ?_
    refine g_callV (ci := 3) (Cn := RX3) (As := [.int 1]) (rest := []) C gm0 rfl rfl (c_X3_no l D tys cI ht0 u0 u1 u2 u3 u4 u5 u6 u7 u8 u9 u10 u11 u12 u13 u14 np 0 fi le ac se hh ou cover sun rw fo wet aw hr ah Z 1) (cwV 1 C.ts gX3_loose_X3_no rfl rfl rfl (by decide +kernel) ⟨(Nat.le_of_ble_eq_true rfl), (Nat.le_of_ble_eq_true rfl)⟩) rfl rfl (Nat.le_of_ble_eq_true rfl) dX3_loose_15 (Nat.le_of_ble_eq_true rfl) (Nat.le_of_ble_eq_true rfl) (g_is (x := .int 0) (W1 := ((u0, .inr (3, [.int 1, .int (nI np), .ref u1, .ref u2, .ref u3, .ref u4, .ref u5, .ref u6, .ref u7, .ref u8, .ref u9, .ref u10, .ref u11, .ref u13])) :: (u1, .inl (cI, 100, .inl (fi))) :: (u2, .inl (cI, 100, .inl (le))) :: (u3, .inl (cI, 100, .inl (ac))) :: (u4, .inl (cI, 100, .inl (se))) :: (u5, .inl (cI, 100, .inl (hh))) :: (u6, .inl (cI, 100, .inl (ou))) :: (u7, .inl (cI, 80, .inl (cover))) :: (u8, .inl (cI, 8, .inl (sun))) :: (u9, .inl (cI, 80, .inl (rw))) :: (u10, .inl (cI, 80, .inl (fo))) :: (u11, .inr (2, [.int (nI hr), .ref u12, .ref u0])) :: (u12, .inl (cI, 80, .inl (wet))) :: (u13, .inr (2, [.int ah, .ref u14, .ref u0])) :: (u14, .inl (cI, 80, .inl (aw))) :: Z)) ?_)
    refine g_iret C hQ (Nat.le_of_ble_eq_true rfl) (Nat.le_of_ble_eq_true rfl) dX3_loose_18 ?_
    have e : cdLo np v = 1 := by simp [cdLo, pIn, *]
    exact Or.inr ⟨by rw [e]; decide, rfl, by rw [e]; rfl⟩

theorem k_X3_dry_inX3 : ∀ w ∈ wsX30, w ∈ wsX3_dry := by decide +kernel
theorem k_X3_dry_1 : Cond.fieldLink RX3 55 "WetMosaicModel" "thrown" "I" ∈ wsX3_dry := by decide +kernel
theorem k_X3_dry_2 : Cond.fieldLink RX3 49 "WetMosaicModel" "ahead" "LWetMosaicModel$State;" ∈ wsX3_dry := by decide +kernel
theorem k_X3_dry_3 : Cond.fieldLink RX3 45 "WetMosaicModel" "s" "LWetMosaicModel$State;" ∈ wsX3_dry := by decide +kernel
set_option maxHeartbeats 4000000 in
set_option maxRecDepth 100000 in
theorem c_X3_dry (l : Launch) (D : va_G) (tys : List (ClassId × FieldType)) (cI : ClassId) (ht0 : tys[0]? = some (cI, .int)) (u0 u1 u2 u3 u4 u5 u6 u7 u8 u9 u10 u11 u12 u13 u14 np : Nat) (th : Int32) (fi le ac se hh ou cover sun rw fo wet aw : Nat → Int32) (hr : Nat) (ah : Int32) (Z : va_W) (P : Nat → Pd) (hnp : np ≤ 100) (hR : Mrel np P fi le ac se hh ou) (hg : Pok np P) (hcv : CovOk np cover) (hhr : hr < 2 ^ 29) : gM l yX3_dry wsX3_dry ({ frames := 2, cells := 0, slots := 0, locals := 81 } : Room) D tys [.ref u0] ((u0, .inr (3, [.int th, .int (nI np), .ref u1, .ref u2, .ref u3, .ref u4, .ref u5, .ref u6, .ref u7, .ref u8, .ref u9, .ref u10, .ref u11, .ref u13])) :: (u1, .inl (cI, 100, .inl (fi))) :: (u2, .inl (cI, 100, .inl (le))) :: (u3, .inl (cI, 100, .inl (ac))) :: (u4, .inl (cI, 100, .inl (se))) :: (u5, .inl (cI, 100, .inl (hh))) :: (u6, .inl (cI, 100, .inl (ou))) :: (u7, .inl (cI, 80, .inl (cover))) :: (u8, .inl (cI, 8, .inl (sun))) :: (u9, .inl (cI, 80, .inl (rw))) :: (u10, .inl (cI, 80, .inl (fo))) :: (u11, .inr (2, [.int (nI hr), .ref u12, .ref u0])) :: (u12, .inl (cI, 80, .inl (wet))) :: (u13, .inr (2, [.int ah, .ref u14, .ref u0])) :: (u14, .inl (cI, 80, .inl (aw))) :: Z) (fun u wX => u = some (.int (fstI (fun i => decide (cnt (fun c => decide (1 ≤ wetN wet cover sun hr i c)) 80 = 0)) 201 0)) ∧ ∃ aw2 ah2, wX = ((u0, .inr (3, [.int 0, .int (nI np), .ref u1, .ref u2, .ref u3, .ref u4, .ref u5, .ref u6, .ref u7, .ref u8, .ref u9, .ref u10, .ref u11, .ref u13])) :: (u1, .inl (cI, 100, .inl (fi))) :: (u2, .inl (cI, 100, .inl (le))) :: (u3, .inl (cI, 100, .inl (ac))) :: (u4, .inl (cI, 100, .inl (se))) :: (u5, .inl (cI, 100, .inl (hh))) :: (u6, .inl (cI, 100, .inl (ou))) :: (u7, .inl (cI, 80, .inl (cover))) :: (u8, .inl (cI, 8, .inl (sun))) :: (u9, .inl (cI, 80, .inl (rw))) :: (u10, .inl (cI, 80, .inl (fo))) :: (u11, .inr (2, [.int (nI hr), .ref u12, .ref u0])) :: (u12, .inl (cI, 80, .inl (wet))) :: (u13, .inr (2, [.int ah2, .ref u14, .ref u0])) :: (u14, .inl (cI, 80, .inl (aw2))) :: Z)) 0 0 := by
  refine gM_of (by decide +kernel) rfl (Nat.le_of_ble_eq_true rfl) ?_
  intro p e s m args below meth c A Q hin C hQ
  refine g_sub [0] (lv' := [(0, .ref u0)]) rfl ?_
  refine g_aload_n C dX3_dry_0 rfl 0 rfl ?_
  refine g_iconst (v := 0) C dX3_dry_1 (by decide) ?_
  refine g_put (ci := 3) (Cn := RX3) (T := TX3) (N := 14) (ty := .int) (ws' := ((u0, .inr (3, [.int 0, .int (nI np), .ref u1, .ref u2, .ref u3, .ref u4, .ref u5, .ref u6, .ref u7, .ref u8, .ref u9, .ref u10, .ref u11, .ref u13])) :: (u1, .inl (cI, 100, .inl (fi))) :: (u2, .inl (cI, 100, .inl (le))) :: (u3, .inl (cI, 100, .inl (ac))) :: (u4, .inl (cI, 100, .inl (se))) :: (u5, .inl (cI, 100, .inl (hh))) :: (u6, .inl (cI, 100, .inl (ou))) :: (u7, .inl (cI, 80, .inl (cover))) :: (u8, .inl (cI, 8, .inl (sun))) :: (u9, .inl (cI, 80, .inl (rw))) :: (u10, .inl (cI, 80, .inl (fo))) :: (u11, .inr (2, [.int (nI hr), .ref u12, .ref u0])) :: (u12, .inl (cI, 80, .inl (wet))) :: (u13, .inr (2, [.int ah, .ref u14, .ref u0])) :: (u14, .inl (cI, 80, .inl (aw))) :: Z)) C k_X3_dry_inX3 tyX3 tyX3_ok nmX3 0 rfl rfl 0 (by decide) k_X3_dry_1 rfl rfl (by decide +kernel) rfl rfl (Nat.le_of_ble_eq_true rfl) dX3_dry_2 rfl ?_
  refine g_aload_n C dX3_dry_5 rfl 0 rfl ?_
  refine g_get (v := .ref u13) (ci := 3) (Cn := RX3) (T := TX3) (N := 14) C k_X3_dry_inX3 gm0 rfl 13 (by decide) k_X3_dry_2 rfl rfl dX3_dry_6 ?_
  refine g_aload_n C dX3_dry_9 rfl 0 rfl ?_
  refine g_get (v := .ref u11) (ci := 3) (Cn := RX3) (T := TX3) (N := 14) C k_X3_dry_inX3 gm0 rfl 12 (by decide) k_X3_dry_3 rfl rfl dX3_dry_10 ?_
  refine g_callV (ci := 2) (Cn := RX2) (As := [.ref u11]) (rest := []) C (gmT (gmT (gmT (gmT (gmT (gmT (gmT (gmT (gmT (gmT (gmT (gmT (gmT gm0))))))))))))) rfl rfl (c_X2_become l D tys cI ht0 u0 u1 u2 u3 u4 u5 u6 u7 u8 u9 u10 u11 u12 u13 u14 np 0 fi le ac se hh ou cover sun rw fo wet aw hr ah Z) (cwV 1 C.ts gX3_dry_X2_become rfl rfl rfl (by decide +kernel) ⟨(Nat.le_of_ble_eq_true rfl), (Nat.le_of_ble_eq_true rfl)⟩) rfl rfl (Nat.le_of_ble_eq_true rfl) dX3_dry_13 (Nat.le_of_ble_eq_true rfl) (Nat.le_of_ble_eq_true rfl) (g_isV (W1 := ((u0, .inr (3, [.int 0, .int (nI np), .ref u1, .ref u2, .ref u3, .ref u4, .ref u5, .ref u6, .ref u7, .ref u8, .ref u9, .ref u10, .ref u11, .ref u13])) :: (u1, .inl (cI, 100, .inl (fi))) :: (u2, .inl (cI, 100, .inl (le))) :: (u3, .inl (cI, 100, .inl (ac))) :: (u4, .inl (cI, 100, .inl (se))) :: (u5, .inl (cI, 100, .inl (hh))) :: (u6, .inl (cI, 100, .inl (ou))) :: (u7, .inl (cI, 80, .inl (cover))) :: (u8, .inl (cI, 8, .inl (sun))) :: (u9, .inl (cI, 80, .inl (rw))) :: (u10, .inl (cI, 80, .inl (fo))) :: (u11, .inr (2, [.int (nI hr), .ref u12, .ref u0])) :: (u12, .inl (cI, 80, .inl (wet))) :: (u13, .inr (2, [.int (nI hr), .ref u14, .ref u0])) :: (u14, .inl (cI, 80, .inl (wet))) :: Z)) ?_)
  refine g_iconst (v := 0) C dX3_dry_16 (by decide) ?_
  refine g_istore_n (lv' := [(1, .int 0), (0, .ref u0)]) C dX3_dry_17 rfl (by decide) rfl ?_
  have lp18 : ∀ (n9 : Nat) (i : Nat) (hT : fstI (fun i => decide (cnt (fun c => decide (1 ≤ wetN wet cover sun hr i c)) 80 = 0)) (201 - i) i = fstI (fun i => decide (cnt (fun c => decide (1 ≤ wetN wet cover sun hr i c)) 80 = 0)) 201 0) (hi : i ≤ 201) (hn : 202 ≤ i + n9), G p l e ({ frames := 2, cells := 0, slots := 0, locals := 81 } : Room) s m args below meth c D A s.heap 2 0 0 Q 18 [(0, .ref u0), (1, .int (nI i))] [] ((u0, .inr (3, [.int 0, .int (nI np), .ref u1, .ref u2, .ref u3, .ref u4, .ref u5, .ref u6, .ref u7, .ref u8, .ref u9, .ref u10, .ref u11, .ref u13])) :: (u1, .inl (cI, 100, .inl (fi))) :: (u2, .inl (cI, 100, .inl (le))) :: (u3, .inl (cI, 100, .inl (ac))) :: (u4, .inl (cI, 100, .inl (se))) :: (u5, .inl (cI, 100, .inl (hh))) :: (u6, .inl (cI, 100, .inl (ou))) :: (u7, .inl (cI, 80, .inl (cover))) :: (u8, .inl (cI, 8, .inl (sun))) :: (u9, .inl (cI, 80, .inl (rw))) :: (u10, .inl (cI, 80, .inl (fo))) :: (u11, .inr (2, [.int (nI hr), .ref u12, .ref u0])) :: (u12, .inl (cI, 80, .inl (wet))) :: (u13, .inr (2, [.int (nI (hr + i)), .ref u14, .ref u0])) :: (u14, .inl (cI, 80, .inl (wetN wet cover sun hr i))) :: Z) := by
    intro n9
    induction n9 with
    | zero =>
      intro i hT hi hn
      exfalso; omega
    | succ n9 ih =>
      intro i hT hi hn
      refine g_iload_n C dX3_dry_18 rfl 1 rfl ?_
      refine g_sipush (v := 200) C dX3_dry_19 (by decide) ?_
      refine g_icmp_gt (tgt := 50) C dX3_dry_22 (by decide) (fun c_1 => ?_) (fun c_1 => ?_)
      · skip
        rw [show (200 : Int32) = nI 200 from rfl, nI_ltI (by omega) (by omega)] at c_1
        refine g_iconst (v := (-1)) C dX3_dry_50 (by decide) ?_
        refine g_iret C hQ (Nat.le_of_ble_eq_true rfl) (Nat.le_of_ble_eq_true rfl) dX3_dry_51 ?_
        refine ⟨?_, _, _, rfl⟩
        rw [← hT, show i = 201 by omega]; rfl
      · skip
        rw [show (200 : Int32) = nI 200 from rfl, nI_ltI (by omega) (by omega)] at c_1
        refine g_aload_n C dX3_dry_25 rfl 0 rfl ?_
        refine g_get (v := .ref u13) (ci := 3) (Cn := RX3) (T := TX3) (N := 14) C k_X3_dry_inX3 gm0 rfl 13 (by decide) k_X3_dry_2 rfl rfl dX3_dry_26 ?_
        refine g_callV (ci := 2) (Cn := RX2) (As := []) (rest := []) C (gmT (gmT (gmT (gmT (gmT (gmT (gmT (gmT (gmT (gmT (gmT (gmT (gmT gm0))))))))))))) rfl rfl (c_X2_wetOnes l D tys cI ht0 ((u0, .inr (3, [.int 0, .int (nI np), .ref u1, .ref u2, .ref u3, .ref u4, .ref u5, .ref u6, .ref u7, .ref u8, .ref u9, .ref u10, .ref u11, .ref u13])) :: (u1, .inl (cI, 100, .inl (fi))) :: (u2, .inl (cI, 100, .inl (le))) :: (u3, .inl (cI, 100, .inl (ac))) :: (u4, .inl (cI, 100, .inl (se))) :: (u5, .inl (cI, 100, .inl (hh))) :: (u6, .inl (cI, 100, .inl (ou))) :: (u7, .inl (cI, 80, .inl (cover))) :: (u8, .inl (cI, 8, .inl (sun))) :: (u9, .inl (cI, 80, .inl (rw))) :: (u10, .inl (cI, 80, .inl (fo))) :: (u11, .inr (2, [.int (nI hr), .ref u12, .ref u0])) :: (u12, .inl (cI, 80, .inl (wet))) :: (u13, .inr (2, [.int (nI (hr + i)), .ref u14, .ref u0])) :: (u14, .inl (cI, 80, .inl (wetN wet cover sun hr i))) :: Z) u0 u13 u14 (nI (hr + i)) (wetN wet cover sun hr i) (gmT (gmT (gmT (gmT (gmT (gmT (gmT (gmT (gmT (gmT (gmT (gmT (gmT gm0))))))))))))) (gmT (gmT (gmT (gmT (gmT (gmT (gmT (gmT (gmT (gmT (gmT (gmT (gmT (gmT gm0))))))))))))))) (cwV 0 C.ts gX3_dry_X2_wetOnes rfl rfl rfl (by decide +kernel) ⟨(Nat.le_of_ble_eq_true rfl), (Nat.le_of_ble_eq_true rfl)⟩) rfl rfl (Nat.le_of_ble_eq_true rfl) dX3_dry_29 (Nat.le_of_ble_eq_true rfl) (Nat.le_of_ble_eq_true rfl) (g_is (x := .int (nI (cnt (fun c => decide (1 ≤ (wetN wet cover sun hr i) c)) 80))) (W1 := ((u0, .inr (3, [.int 0, .int (nI np), .ref u1, .ref u2, .ref u3, .ref u4, .ref u5, .ref u6, .ref u7, .ref u8, .ref u9, .ref u10, .ref u11, .ref u13])) :: (u1, .inl (cI, 100, .inl (fi))) :: (u2, .inl (cI, 100, .inl (le))) :: (u3, .inl (cI, 100, .inl (ac))) :: (u4, .inl (cI, 100, .inl (se))) :: (u5, .inl (cI, 100, .inl (hh))) :: (u6, .inl (cI, 100, .inl (ou))) :: (u7, .inl (cI, 80, .inl (cover))) :: (u8, .inl (cI, 8, .inl (sun))) :: (u9, .inl (cI, 80, .inl (rw))) :: (u10, .inl (cI, 80, .inl (fo))) :: (u11, .inr (2, [.int (nI hr), .ref u12, .ref u0])) :: (u12, .inl (cI, 80, .inl (wet))) :: (u13, .inr (2, [.int (nI (hr + i)), .ref u14, .ref u0])) :: (u14, .inl (cI, 80, .inl (wetN wet cover sun hr i))) :: Z)) ?_)
        have hcn := cnt_le (fun c => decide (1 ≤ (wetN wet cover sun hr i) c)) 80
        refine g_if_ne (tgt := 37) C dX3_dry_32 (by decide) (fun c_2 => ?_) (fun c_2 => ?_)
        · skip
          rw [show (0 : Int32) = nI 0 from rfl, nI_eq (by omega) (by omega)] at c_2
          refine g_aload_n C dX3_dry_37 rfl 0 rfl ?_
          refine g_get (v := .ref u13) (ci := 3) (Cn := RX3) (T := TX3) (N := 14) C k_X3_dry_inX3 gm0 rfl 13 (by decide) k_X3_dry_2 rfl rfl dX3_dry_38 ?_
          refine g_callV (ci := 2) (Cn := RX2) (As := []) (rest := []) C (gmT (gmT (gmT (gmT (gmT (gmT (gmT (gmT (gmT (gmT (gmT (gmT (gmT gm0))))))))))))) rfl rfl (c_X2_pass_a l D tys cI ht0 u0 u1 u2 u3 u4 u5 u6 u7 u8 u9 u10 u11 u12 u13 u14 np 0 fi le ac se hh ou cover sun rw fo wet (wetN wet cover sun hr i) hr (hr + i) Z (by omega)) (cwV 0 C.ts gX3_dry_X2_pass rfl rfl rfl (by decide +kernel) ⟨(Nat.le_of_ble_eq_true rfl), (Nat.le_of_ble_eq_true rfl)⟩) rfl rfl (Nat.le_of_ble_eq_true rfl) dX3_dry_41 (Nat.le_of_ble_eq_true rfl) (Nat.le_of_ble_eq_true rfl) (g_isV (W1 := ((u0, .inr (3, [.int 0, .int (nI np), .ref u1, .ref u2, .ref u3, .ref u4, .ref u5, .ref u6, .ref u7, .ref u8, .ref u9, .ref u10, .ref u11, .ref u13])) :: (u1, .inl (cI, 100, .inl (fi))) :: (u2, .inl (cI, 100, .inl (le))) :: (u3, .inl (cI, 100, .inl (ac))) :: (u4, .inl (cI, 100, .inl (se))) :: (u5, .inl (cI, 100, .inl (hh))) :: (u6, .inl (cI, 100, .inl (ou))) :: (u7, .inl (cI, 80, .inl (cover))) :: (u8, .inl (cI, 8, .inl (sun))) :: (u9, .inl (cI, 80, .inl (rw))) :: (u10, .inl (cI, 80, .inl (fo))) :: (u11, .inr (2, [.int (nI hr), .ref u12, .ref u0])) :: (u12, .inl (cI, 80, .inl (wet))) :: (u13, .inr (2, [.int (nI ((hr + i) + 1)), .ref u14, .ref u0])) :: (u14, .inl (cI, 80, .inl (wetN wet cover sun hr (i + 1)))) :: Z)) ?_)
          refine g_iinc (v := nI (i + 1)) (lv' := [(1, .int (nI (i + 1))), (0, .ref u0)]) C dX3_dry_44 1 rfl (by exact nI_add _ 1) (by decide) rfl ?_
          refine g_goto (tgt := 18) C dX3_dry_47 (by decide) ?_
          refine g_sub [1, 0] (lv' := [(0, .ref u0), (1, .int (nI (i + 1)))]) rfl ?_
          exact ih (i + 1) (by rw [← fstI_f (by omega) (by simp [*])]; exact hT) (by omega) (by omega)
        · skip
          rw [show (0 : Int32) = nI 0 from rfl, nI_eq (by omega) (by omega)] at c_2
          refine g_iload_n C dX3_dry_35 rfl 1 rfl ?_
          refine g_iret C hQ (Nat.le_of_ble_eq_true rfl) (Nat.le_of_ble_eq_true rfl) dX3_dry_36 ?_
          refine ⟨?_, _, _, rfl⟩
          rw [← hT, fstI_t (by omega) (by simp [*])]
  refine g_sub [1, 0] (lv' := [(0, .ref u0), (1, .int 0)]) rfl ?_
  exact lp18 202 0 rfl (by omega) (by omega)

theorem k_X3_share_inX3 : ∀ w ∈ wsX30, w ∈ wsX3_share := by decide +kernel
theorem k_X3_share_1 : Cond.fieldLink RX3 55 "WetMosaicModel" "thrown" "I" ∈ wsX3_share := by decide +kernel
theorem k_X3_share_2 : Cond.constantDouble RX3 156 4635329916471083008 ∈ wsX3_share := by decide +kernel
set_option maxHeartbeats 4000000 in
set_option maxRecDepth 100000 in
theorem c_X3_share (l : Launch) (D : va_G) (tys : List (ClassId × FieldType)) (cI : ClassId) (ht0 : tys[0]? = some (cI, .int)) (u0 u1 u2 u3 u4 u5 u6 u7 u8 u9 u10 u11 u12 u13 u14 np : Nat) (th : Int32) (fi le ac se hh ou cover sun rw fo wet aw : Nat → Int32) (hr : Nat) (ah : Int32) (Z : va_W) (P : Nat → Pd) (hnp : np ≤ 100) (hR : Mrel np P fi le ac se hh ou) (hg : Pok np P) (hcv : CovOk np cover) : gM l yX3_share wsX3_share ({ frames := 1, cells := 0, slots := 0, locals := 25 } : Room) D tys [.ref u0] ((u0, .inr (3, [.int th, .int (nI np), .ref u1, .ref u2, .ref u3, .ref u4, .ref u5, .ref u6, .ref u7, .ref u8, .ref u9, .ref u10, .ref u11, .ref u13])) :: (u1, .inl (cI, 100, .inl (fi))) :: (u2, .inl (cI, 100, .inl (le))) :: (u3, .inl (cI, 100, .inl (ac))) :: (u4, .inl (cI, 100, .inl (se))) :: (u5, .inl (cI, 100, .inl (hh))) :: (u6, .inl (cI, 100, .inl (ou))) :: (u7, .inl (cI, 80, .inl (cover))) :: (u8, .inl (cI, 8, .inl (sun))) :: (u9, .inl (cI, 80, .inl (rw))) :: (u10, .inl (cI, 80, .inl (fo))) :: (u11, .inr (2, [.int (nI hr), .ref u12, .ref u0])) :: (u12, .inl (cI, 80, .inl (wet))) :: (u13, .inr (2, [.int ah, .ref u14, .ref u0])) :: (u14, .inl (cI, 80, .inl (aw))) :: Z) (gIs (some (.double (shareD (cnt (fun c => decide (0 ≤ cover c)) 80)))) ((u0, .inr (3, [.int 0, .int (nI np), .ref u1, .ref u2, .ref u3, .ref u4, .ref u5, .ref u6, .ref u7, .ref u8, .ref u9, .ref u10, .ref u11, .ref u13])) :: (u1, .inl (cI, 100, .inl (fi))) :: (u2, .inl (cI, 100, .inl (le))) :: (u3, .inl (cI, 100, .inl (ac))) :: (u4, .inl (cI, 100, .inl (se))) :: (u5, .inl (cI, 100, .inl (hh))) :: (u6, .inl (cI, 100, .inl (ou))) :: (u7, .inl (cI, 80, .inl (cover))) :: (u8, .inl (cI, 8, .inl (sun))) :: (u9, .inl (cI, 80, .inl (rw))) :: (u10, .inl (cI, 80, .inl (fo))) :: (u11, .inr (2, [.int (nI hr), .ref u12, .ref u0])) :: (u12, .inl (cI, 80, .inl (wet))) :: (u13, .inr (2, [.int ah, .ref u14, .ref u0])) :: (u14, .inl (cI, 80, .inl (aw))) :: Z)) 0 0 := by
  refine gM_of (by decide +kernel) rfl (Nat.le_of_ble_eq_true rfl) ?_
  intro p e s m args below meth c A Q hin C hQ
  refine g_sub [0] (lv' := [(0, .ref u0)]) rfl ?_
  refine g_aload_n C dX3_share_0 rfl 0 rfl ?_
  refine g_iconst (v := 0) C dX3_share_1 (by decide) ?_
  refine g_put (ci := 3) (Cn := RX3) (T := TX3) (N := 14) (ty := .int) (ws' := ((u0, .inr (3, [.int 0, .int (nI np), .ref u1, .ref u2, .ref u3, .ref u4, .ref u5, .ref u6, .ref u7, .ref u8, .ref u9, .ref u10, .ref u11, .ref u13])) :: (u1, .inl (cI, 100, .inl (fi))) :: (u2, .inl (cI, 100, .inl (le))) :: (u3, .inl (cI, 100, .inl (ac))) :: (u4, .inl (cI, 100, .inl (se))) :: (u5, .inl (cI, 100, .inl (hh))) :: (u6, .inl (cI, 100, .inl (ou))) :: (u7, .inl (cI, 80, .inl (cover))) :: (u8, .inl (cI, 8, .inl (sun))) :: (u9, .inl (cI, 80, .inl (rw))) :: (u10, .inl (cI, 80, .inl (fo))) :: (u11, .inr (2, [.int (nI hr), .ref u12, .ref u0])) :: (u12, .inl (cI, 80, .inl (wet))) :: (u13, .inr (2, [.int ah, .ref u14, .ref u0])) :: (u14, .inl (cI, 80, .inl (aw))) :: Z)) C k_X3_share_inX3 tyX3 tyX3_ok nmX3 0 rfl rfl 0 (by decide) k_X3_share_1 rfl rfl (by decide +kernel) rfl rfl (Nat.le_of_ble_eq_true rfl) dX3_share_2 rfl ?_
  refine g_aload_n C dX3_share_5 rfl 0 rfl ?_
  refine g_callV (ci := 3) (Cn := RX3) (As := []) (rest := []) C gm0 rfl rfl (c_X3_covered l D tys cI ht0 ((u0, .inr (3, [.int 0, .int (nI np), .ref u1, .ref u2, .ref u3, .ref u4, .ref u5, .ref u6, .ref u7, .ref u8, .ref u9, .ref u10, .ref u11, .ref u13])) :: (u1, .inl (cI, 100, .inl (fi))) :: (u2, .inl (cI, 100, .inl (le))) :: (u3, .inl (cI, 100, .inl (ac))) :: (u4, .inl (cI, 100, .inl (se))) :: (u5, .inl (cI, 100, .inl (hh))) :: (u6, .inl (cI, 100, .inl (ou))) :: (u7, .inl (cI, 80, .inl (cover))) :: (u8, .inl (cI, 8, .inl (sun))) :: (u9, .inl (cI, 80, .inl (rw))) :: (u10, .inl (cI, 80, .inl (fo))) :: (u11, .inr (2, [.int (nI hr), .ref u12, .ref u0])) :: (u12, .inl (cI, 80, .inl (wet))) :: (u13, .inr (2, [.int ah, .ref u14, .ref u0])) :: (u14, .inl (cI, 80, .inl (aw))) :: Z) u0 u1 u2 u3 u4 u5 u6 u7 u8 u9 u10 u11 u12 u13 u14 np 0 fi le ac se hh ou P hr wet cover hnp hcv gm0 (gmT (gmT (gmT (gmT (gmT (gmT (gmT (gmT (gmT (gmT (gmT gm0))))))))))) (gmT (gmT (gmT (gmT (gmT (gmT (gmT (gmT (gmT (gmT (gmT (gmT gm0)))))))))))) (gmT gm0) (gmT (gmT gm0)) (gmT (gmT (gmT gm0))) (gmT (gmT (gmT (gmT gm0)))) (gmT (gmT (gmT (gmT (gmT gm0))))) (gmT (gmT (gmT (gmT (gmT (gmT gm0)))))) (gmT (gmT (gmT (gmT (gmT (gmT (gmT gm0)))))))) (cwV 0 C.ts gX3_share_X3_covered rfl rfl rfl (by decide +kernel) ⟨(Nat.le_of_ble_eq_true rfl), (Nat.le_of_ble_eq_true rfl)⟩) rfl rfl (Nat.le_of_ble_eq_true rfl) dX3_share_6 (Nat.le_of_ble_eq_true rfl) (Nat.le_of_ble_eq_true rfl) (g_is (x := .int (nI (cnt (fun c => decide (0 ≤ cover c)) 80))) (W1 := ((u0, .inr (3, [.int 0, .int (nI np), .ref u1, .ref u2, .ref u3, .ref u4, .ref u5, .ref u6, .ref u7, .ref u8, .ref u9, .ref u10, .ref u11, .ref u13])) :: (u1, .inl (cI, 100, .inl (fi))) :: (u2, .inl (cI, 100, .inl (le))) :: (u3, .inl (cI, 100, .inl (ac))) :: (u4, .inl (cI, 100, .inl (se))) :: (u5, .inl (cI, 100, .inl (hh))) :: (u6, .inl (cI, 100, .inl (ou))) :: (u7, .inl (cI, 80, .inl (cover))) :: (u8, .inl (cI, 8, .inl (sun))) :: (u9, .inl (cI, 80, .inl (rw))) :: (u10, .inl (cI, 80, .inl (fo))) :: (u11, .inr (2, [.int (nI hr), .ref u12, .ref u0])) :: (u12, .inl (cI, 80, .inl (wet))) :: (u13, .inr (2, [.int ah, .ref u14, .ref u0])) :: (u14, .inl (cI, 80, .inl (aw))) :: Z)) ?_)
  refine g_i2d C dX3_share_9 ?_
  refine g_ldc2d (v := 4635329916471083008) C dX3_share_10 k_X3_share_2 ?_
  refine g_ddiv C dX3_share_13 (shareOk _ (cnt_le _ _)) ?_
  refine g_dret C hQ (Nat.le_of_ble_eq_true rfl) (Nat.le_of_ble_eq_true rfl) dX3_share_14 ?_
  exact ⟨rfl, rfl⟩

theorem k_X3_digest_inX3 : ∀ w ∈ wsX30, w ∈ wsX3_digest := by decide +kernel
theorem k_X3_digest_1 : Cond.fieldLink RX3 55 "WetMosaicModel" "thrown" "I" ∈ wsX3_digest := by decide +kernel
theorem k_X3_digest_2 : Cond.constantLong RX3 158 967 ∈ wsX3_digest := by decide +kernel
theorem k_X3_digest_3 : Cond.fieldLink RX3 63 "WetMosaicModel" "pieces" "I" ∈ wsX3_digest := by decide +kernel
theorem k_X3_digest_4 : Cond.constantLong RX3 160 31 ∈ wsX3_digest := by decide +kernel
theorem k_X3_digest_5 : Cond.fieldLink RX3 31 "WetMosaicModel" "sun" "[I" ∈ wsX3_digest := by decide +kernel
set_option maxHeartbeats 4000000 in
set_option maxRecDepth 100000 in
theorem c_X3_digest (l : Launch) (D : va_G) (tys : List (ClassId × FieldType)) (cI : ClassId) (ht0 : tys[0]? = some (cI, .int)) (u0 u1 u2 u3 u4 u5 u6 u7 u8 u9 u10 u11 u12 u13 u14 np : Nat) (th : Int32) (fi le ac se hh ou cover sun rw fo wet aw : Nat → Int32) (hr : Nat) (ah : Int32) (Z : va_W) (P : Nat → Pd) (hnp : np ≤ 100) (hR : Mrel np P fi le ac se hh ou) (hg : Pok np P) (hcv : CovOk np cover) (hwt : WetOk wet) : gM l yX3_digest wsX3_digest ({ frames := 6, cells := 0, slots := 0, locals := 138 } : Room) D tys [.ref u0] ((u0, .inr (3, [.int th, .int (nI np), .ref u1, .ref u2, .ref u3, .ref u4, .ref u5, .ref u6, .ref u7, .ref u8, .ref u9, .ref u10, .ref u11, .ref u13])) :: (u1, .inl (cI, 100, .inl (fi))) :: (u2, .inl (cI, 100, .inl (le))) :: (u3, .inl (cI, 100, .inl (ac))) :: (u4, .inl (cI, 100, .inl (se))) :: (u5, .inl (cI, 100, .inl (hh))) :: (u6, .inl (cI, 100, .inl (ou))) :: (u7, .inl (cI, 80, .inl (cover))) :: (u8, .inl (cI, 8, .inl (sun))) :: (u9, .inl (cI, 80, .inl (rw))) :: (u10, .inl (cI, 80, .inl (fo))) :: (u11, .inr (2, [.int (nI hr), .ref u12, .ref u0])) :: (u12, .inl (cI, 80, .inl (wet))) :: (u13, .inr (2, [.int ah, .ref u14, .ref u0])) :: (u14, .inl (cI, 80, .inl (aw))) :: Z) (fun u wX => u = some (.long (dgm np hr P wet cover sun rw)) ∧ ∃ fo2 rw2, wX = ((u0, .inr (3, [.int 0, .int (nI np), .ref u1, .ref u2, .ref u3, .ref u4, .ref u5, .ref u6, .ref u7, .ref u8, .ref u9, .ref u10, .ref u11, .ref u13])) :: (u1, .inl (cI, 100, .inl (fi))) :: (u2, .inl (cI, 100, .inl (le))) :: (u3, .inl (cI, 100, .inl (ac))) :: (u4, .inl (cI, 100, .inl (se))) :: (u5, .inl (cI, 100, .inl (hh))) :: (u6, .inl (cI, 100, .inl (ou))) :: (u7, .inl (cI, 80, .inl (cover))) :: (u8, .inl (cI, 8, .inl (sun))) :: (u9, .inl (cI, 80, .inl (rw2))) :: (u10, .inl (cI, 80, .inl (fo2))) :: (u11, .inr (2, [.int (nI hr), .ref u12, .ref u0])) :: (u12, .inl (cI, 80, .inl (wet))) :: (u13, .inr (2, [.int ah, .ref u14, .ref u0])) :: (u14, .inl (cI, 80, .inl (aw))) :: Z)) 0 0 := by
  refine gM_of (by decide +kernel) rfl (Nat.le_of_ble_eq_true rfl) ?_
  intro p e s m args below meth c A Q hin C hQ
  refine g_sub [0] (lv' := [(0, .ref u0)]) rfl ?_
  refine g_aload_n C dX3_digest_0 rfl 0 rfl ?_
  refine g_iconst (v := 0) C dX3_digest_1 (by decide) ?_
  refine g_put (ci := 3) (Cn := RX3) (T := TX3) (N := 14) (ty := .int) (ws' := ((u0, .inr (3, [.int 0, .int (nI np), .ref u1, .ref u2, .ref u3, .ref u4, .ref u5, .ref u6, .ref u7, .ref u8, .ref u9, .ref u10, .ref u11, .ref u13])) :: (u1, .inl (cI, 100, .inl (fi))) :: (u2, .inl (cI, 100, .inl (le))) :: (u3, .inl (cI, 100, .inl (ac))) :: (u4, .inl (cI, 100, .inl (se))) :: (u5, .inl (cI, 100, .inl (hh))) :: (u6, .inl (cI, 100, .inl (ou))) :: (u7, .inl (cI, 80, .inl (cover))) :: (u8, .inl (cI, 8, .inl (sun))) :: (u9, .inl (cI, 80, .inl (rw))) :: (u10, .inl (cI, 80, .inl (fo))) :: (u11, .inr (2, [.int (nI hr), .ref u12, .ref u0])) :: (u12, .inl (cI, 80, .inl (wet))) :: (u13, .inr (2, [.int ah, .ref u14, .ref u0])) :: (u14, .inl (cI, 80, .inl (aw))) :: Z)) C k_X3_digest_inX3 tyX3 tyX3_ok nmX3 0 rfl rfl 0 (by decide) k_X3_digest_1 rfl rfl (by decide +kernel) rfl rfl (Nat.le_of_ble_eq_true rfl) dX3_digest_2 rfl ?_
  refine g_ldc2 (v := 967) C dX3_digest_5 k_X3_digest_2 ?_
  refine g_lstore_n (lv' := [(1, .long 967), (0, .ref u0)]) C dX3_digest_8 rfl (by decide) rfl ?_
  refine g_iconst (v := 0) C dX3_digest_9 (by decide) ?_
  refine g_istore_n (lv' := [(3, .int 0), (1, .long 967), (0, .ref u0)]) C dX3_digest_10 rfl (by decide) rfl ?_
  have lp11 : ∀ (n9 : Nat) (i : Nat) (d : Int64) (fo2 rw2 : Nat → Int32) (hd : d = dgN (cntm np hr P wet cover rw) i 967) (hfd : i ≤ 7 → rw = rw2) (hi : i ≤ 8) (hn : 9 ≤ i + n9), G p l e ({ frames := 6, cells := 0, slots := 0, locals := 138 } : Room) s m args below meth c D A s.heap 5 0 0 Q 11 [(0, .ref u0), (1, .long d), (3, .int (nI i))] [] ((u0, .inr (3, [.int 0, .int (nI np), .ref u1, .ref u2, .ref u3, .ref u4, .ref u5, .ref u6, .ref u7, .ref u8, .ref u9, .ref u10, .ref u11, .ref u13])) :: (u1, .inl (cI, 100, .inl (fi))) :: (u2, .inl (cI, 100, .inl (le))) :: (u3, .inl (cI, 100, .inl (ac))) :: (u4, .inl (cI, 100, .inl (se))) :: (u5, .inl (cI, 100, .inl (hh))) :: (u6, .inl (cI, 100, .inl (ou))) :: (u7, .inl (cI, 80, .inl (cover))) :: (u8, .inl (cI, 8, .inl (sun))) :: (u9, .inl (cI, 80, .inl (rw2))) :: (u10, .inl (cI, 80, .inl (fo2))) :: (u11, .inr (2, [.int (nI hr), .ref u12, .ref u0])) :: (u12, .inl (cI, 80, .inl (wet))) :: (u13, .inr (2, [.int ah, .ref u14, .ref u0])) :: (u14, .inl (cI, 80, .inl (aw))) :: Z) := by
    intro n9
    induction n9 with
    | zero =>
      intro i d fo2 rw2 hd hfd hi hn
      exfalso; omega
    | succ n9 ih =>
      intro i d fo2 rw2 hd hfd hi hn
      refine g_iload_n C dX3_digest_11 rfl 2 rfl ?_
      refine g_bipush (v := 7) C dX3_digest_12 (by decide) ?_
      refine g_icmp_gt (tgt := 36) C dX3_digest_14 (by decide) (fun c_1 => ?_) (fun c_1 => ?_)
      · skip
        rw [show (7 : Int32) = nI 7 from rfl, nI_ltI (by omega) (by omega)] at c_1
        refine g_iconst (v := 0) C dX3_digest_36 (by decide) ?_
        refine g_istore_n (lv' := [(3, .int 0), (0, .ref u0), (1, .long d)]) C dX3_digest_37 rfl (by decide) rfl ?_
        have lp38 : ∀ (n9 : Nat) (z : Nat) (d2 : Int64) (hd2 : d2 = dgN (dg2 np P wet cover) (3 * z) (dgN (cntm np hr P wet cover rw) 8 967)) (hi2 : z ≤ 80) (hn2 : 81 ≤ z + n9), G p l e ({ frames := 6, cells := 0, slots := 0, locals := 138 } : Room) s m args below meth c D A s.heap 5 0 0 Q 38 [(0, .ref u0), (1, .long d2), (3, .int (nI z))] [] ((u0, .inr (3, [.int 0, .int (nI np), .ref u1, .ref u2, .ref u3, .ref u4, .ref u5, .ref u6, .ref u7, .ref u8, .ref u9, .ref u10, .ref u11, .ref u13])) :: (u1, .inl (cI, 100, .inl (fi))) :: (u2, .inl (cI, 100, .inl (le))) :: (u3, .inl (cI, 100, .inl (ac))) :: (u4, .inl (cI, 100, .inl (se))) :: (u5, .inl (cI, 100, .inl (hh))) :: (u6, .inl (cI, 100, .inl (ou))) :: (u7, .inl (cI, 80, .inl (cover))) :: (u8, .inl (cI, 8, .inl (sun))) :: (u9, .inl (cI, 80, .inl (rw2))) :: (u10, .inl (cI, 80, .inl (fo2))) :: (u11, .inr (2, [.int (nI hr), .ref u12, .ref u0])) :: (u12, .inl (cI, 80, .inl (wet))) :: (u13, .inr (2, [.int ah, .ref u14, .ref u0])) :: (u14, .inl (cI, 80, .inl (aw))) :: Z) := by
          intro n9
          induction n9 with
          | zero =>
            intro z d2 hd2 hi2 hn2
            exfalso; omega
          | succ n9 ih2 =>
            intro z d2 hd2 hi2 hn2
            refine g_iload_n C dX3_digest_38 rfl 2 rfl ?_
            refine g_bipush (v := 80) C dX3_digest_39 (by decide) ?_
            refine g_icmp_ge (tgt := 80) C dX3_digest_41 (by decide) (fun c_2 => ?_) (fun c_2 => ?_)
            · skip
              rw [show (80 : Int32) = nI 80 from rfl, nI_leI (by omega) (by omega)] at c_2
              refine g_iconst (v := 0) C dX3_digest_80 (by decide) ?_
              refine g_istore_n (lv' := [(3, .int 0), (0, .ref u0), (1, .long d2)]) C dX3_digest_81 rfl (by decide) rfl ?_
              have lp82 : ∀ (n9 : Nat) (i : Nat) (d : Int64) (hd : d = dgN (dg3 P wet) (8 * i) (dgN (dg2 np P wet cover) 240 (dgN (cntm np hr P wet cover rw) 8 967))) (hi : i ≤ np) (hn : np + 1 ≤ i + n9), G p l e ({ frames := 6, cells := 0, slots := 0, locals := 138 } : Room) s m args below meth c D A s.heap 5 0 0 Q 82 [(0, .ref u0), (1, .long d), (3, .int (nI i))] [] ((u0, .inr (3, [.int 0, .int (nI np), .ref u1, .ref u2, .ref u3, .ref u4, .ref u5, .ref u6, .ref u7, .ref u8, .ref u9, .ref u10, .ref u11, .ref u13])) :: (u1, .inl (cI, 100, .inl (fi))) :: (u2, .inl (cI, 100, .inl (le))) :: (u3, .inl (cI, 100, .inl (ac))) :: (u4, .inl (cI, 100, .inl (se))) :: (u5, .inl (cI, 100, .inl (hh))) :: (u6, .inl (cI, 100, .inl (ou))) :: (u7, .inl (cI, 80, .inl (cover))) :: (u8, .inl (cI, 8, .inl (sun))) :: (u9, .inl (cI, 80, .inl (rw2))) :: (u10, .inl (cI, 80, .inl (fo2))) :: (u11, .inr (2, [.int (nI hr), .ref u12, .ref u0])) :: (u12, .inl (cI, 80, .inl (wet))) :: (u13, .inr (2, [.int ah, .ref u14, .ref u0])) :: (u14, .inl (cI, 80, .inl (aw))) :: Z) := by
                intro n9
                induction n9 with
                | zero =>
                  intro i d hd hi hn
                  exfalso; omega
                | succ n9 ih4 =>
                  intro i d hd hi hn
                  refine g_iload_n C dX3_digest_82 rfl 2 rfl ?_
                  refine g_aload_n C dX3_digest_83 rfl 0 rfl ?_
                  refine g_get (v := .int (nI np)) (ci := 3) (Cn := RX3) (T := TX3) (N := 14) C k_X3_digest_inX3 gm0 rfl 1 (by decide) k_X3_digest_3 rfl rfl dX3_digest_84 ?_
                  refine g_icmp_ge (tgt := 127) C dX3_digest_87 (by decide) (fun c_3 => ?_) (fun c_3 => ?_)
                  · skip
                    rw [nI_leI (by omega) (by omega)] at c_3
                    refine g_iconst (v := 0) C dX3_digest_127 (by decide) ?_
                    refine g_istore_n (lv' := [(3, .int 0), (0, .ref u0), (1, .long d)]) C dX3_digest_128 rfl (by decide) rfl ?_
                    have lp129 : ∀ (n9 : Nat) (i : Nat) (d : Int64) (hd : d = dgN sun i (dgN (dg3 P wet) (8 * np) (dgN (dg2 np P wet cover) 240 (dgN (cntm np hr P wet cover rw) 8 967)))) (hi : i ≤ 8) (hn : 9 ≤ i + n9), G p l e ({ frames := 6, cells := 0, slots := 0, locals := 138 } : Room) s m args below meth c D A s.heap 5 0 0 Q 129 [(0, .ref u0), (1, .long d), (3, .int (nI i))] [] ((u0, .inr (3, [.int 0, .int (nI np), .ref u1, .ref u2, .ref u3, .ref u4, .ref u5, .ref u6, .ref u7, .ref u8, .ref u9, .ref u10, .ref u11, .ref u13])) :: (u1, .inl (cI, 100, .inl (fi))) :: (u2, .inl (cI, 100, .inl (le))) :: (u3, .inl (cI, 100, .inl (ac))) :: (u4, .inl (cI, 100, .inl (se))) :: (u5, .inl (cI, 100, .inl (hh))) :: (u6, .inl (cI, 100, .inl (ou))) :: (u7, .inl (cI, 80, .inl (cover))) :: (u8, .inl (cI, 8, .inl (sun))) :: (u9, .inl (cI, 80, .inl (rw2))) :: (u10, .inl (cI, 80, .inl (fo2))) :: (u11, .inr (2, [.int (nI hr), .ref u12, .ref u0])) :: (u12, .inl (cI, 80, .inl (wet))) :: (u13, .inr (2, [.int ah, .ref u14, .ref u0])) :: (u14, .inl (cI, 80, .inl (aw))) :: Z) := by
                      intro n9
                      induction n9 with
                      | zero =>
                        intro i d hd hi hn
                        exfalso; omega
                      | succ n9 ih6 =>
                        intro i d hd hi hn
                        refine g_iload_n C dX3_digest_129 rfl 2 rfl ?_
                        refine g_bipush (v := 8) C dX3_digest_130 (by decide) ?_
                        refine g_icmp_ge (tgt := 155) C dX3_digest_132 (by decide) (fun c_4 => ?_) (fun c_4 => ?_)
                        · skip
                          rw [show (8 : Int32) = nI 8 from rfl, nI_leI (by omega) (by omega)] at c_4
                          refine g_lload_n C dX3_digest_155 rfl 1 rfl ?_
                          refine g_lret C hQ (Nat.le_of_ble_eq_true rfl) (Nat.le_of_ble_eq_true rfl) dX3_digest_156 ?_
                          have e : i = 8 := by omega
                          subst e
                          exact ⟨by rw [hd, dgm], _, _, rfl⟩
                        · skip
                          rw [show (8 : Int32) = nI 8 from rfl, nI_leI (by omega) (by omega)] at c_4
                          refine g_lload_n C dX3_digest_135 rfl 1 rfl ?_
                          refine g_ldc2 (v := 31) C dX3_digest_136 k_X3_digest_4 ?_
                          refine g_lmul C dX3_digest_139 ?_
                          refine g_aload_n C dX3_digest_140 rfl 0 rfl ?_
                          refine g_get (v := .ref u8) (ci := 3) (Cn := RX3) (T := TX3) (N := 14) C k_X3_digest_inX3 gm0 rfl 9 (by decide) k_X3_digest_5 rfl rfl dX3_digest_141 ?_
                          refine g_iload_n C dX3_digest_144 rfl 2 rfl ?_
                          refine g_iald C 0 (gmT (gmT (gmT (gmT (gmT (gmT (gmT (gmT gm0)))))))) ht0 (vp_in_nI (by omega) (by omega)) dX3_digest_145 ?_
                          refine g_eqi (x := sun (nI i).toNatClampNeg) (y := sun i) (by rw [nI_clamp (by omega)]) ?_
                          refine g_i2l C dX3_digest_146 ?_
                          refine g_ladd C dX3_digest_147 ?_
                          refine g_lstore_n (lv' := [(1, .long ((d * 31) + ((sun i).toInt64))), (0, .ref u0), (3, .int (nI i))]) C dX3_digest_148 rfl (by decide) rfl ?_
                          refine g_iinc (v := nI (i + 1)) (lv' := [(3, .int (nI (i + 1))), (1, .long ((d * 31) + ((sun i).toInt64))), (0, .ref u0)]) C dX3_digest_149 2 rfl (by exact nI_add _ 1) (by decide) rfl ?_
                          refine g_goto (tgt := 129) C dX3_digest_152 (by decide) ?_
                          refine g_sub [2, 1, 0] (lv' := [(0, .ref u0), (1, .long ((d * 31) + ((sun i).toInt64))), (3, .int (nI (i + 1)))]) rfl ?_
                          exact ih6 (i + 1) _ (by rw [dgN_1, hd]) (by omega) (by omega)
                    refine g_sub [1, 2, 0] (lv' := [(0, .ref u0), (1, .long d), (3, .int 0)]) rfl ?_
                    have e : i = np := by omega
                    subst e
                    exact lp129 9 0 d (by rw [hd]; exact (dgN_0 _ _).symm) (by omega) (by omega)
                  · skip
                    rw [nI_leI (by omega) (by omega)] at c_3
                    refine g_iconst (v := 0) C dX3_digest_90 (by decide) ?_
                    refine g_istore (lv' := [(4, .int 0), (0, .ref u0), (1, .long d), (3, .int (nI i))]) C dX3_digest_91 (by decide) rfl ?_
                    have lp93 : ∀ (n9 : Nat) (w : Nat) (d5 : Int64) (hd5 : d5 = dgN (dg3 P wet) (8 * i + w) (dgN (dg2 np P wet cover) 240 (dgN (cntm np hr P wet cover rw) 8 967))) (hi5 : w ≤ 8) (hn5 : 9 ≤ w + n9), G p l e ({ frames := 6, cells := 0, slots := 0, locals := 138 } : Room) s m args below meth c D A s.heap 5 0 0 Q 93 [(0, .ref u0), (1, .long d5), (3, .int (nI i)), (4, .int (nI w))] [] ((u0, .inr (3, [.int 0, .int (nI np), .ref u1, .ref u2, .ref u3, .ref u4, .ref u5, .ref u6, .ref u7, .ref u8, .ref u9, .ref u10, .ref u11, .ref u13])) :: (u1, .inl (cI, 100, .inl (fi))) :: (u2, .inl (cI, 100, .inl (le))) :: (u3, .inl (cI, 100, .inl (ac))) :: (u4, .inl (cI, 100, .inl (se))) :: (u5, .inl (cI, 100, .inl (hh))) :: (u6, .inl (cI, 100, .inl (ou))) :: (u7, .inl (cI, 80, .inl (cover))) :: (u8, .inl (cI, 8, .inl (sun))) :: (u9, .inl (cI, 80, .inl (rw2))) :: (u10, .inl (cI, 80, .inl (fo2))) :: (u11, .inr (2, [.int (nI hr), .ref u12, .ref u0])) :: (u12, .inl (cI, 80, .inl (wet))) :: (u13, .inr (2, [.int ah, .ref u14, .ref u0])) :: (u14, .inl (cI, 80, .inl (aw))) :: Z) := by
                      intro n9
                      induction n9 with
                      | zero =>
                        intro w d5 hd5 hi5 hn5
                        exfalso; omega
                      | succ n9 ih5 =>
                        intro w d5 hd5 hi5 hn5
                        refine g_iload C dX3_digest_93 3 rfl ?_
                        refine g_bipush (v := 7) C dX3_digest_95 (by decide) ?_
                        refine g_icmp_gt (tgt := 121) C dX3_digest_97 (by decide) (fun c_5 => ?_) (fun c_5 => ?_)
                        · skip
                          rw [show (7 : Int32) = nI 7 from rfl, nI_ltI (by omega) (by omega)] at c_5
                          refine g_iinc (v := nI (i + 1)) (lv' := [(3, .int (nI (i + 1))), (0, .ref u0), (1, .long d5), (4, .int (nI w))]) C dX3_digest_121 2 rfl (by exact nI_add _ 1) (by decide) rfl ?_
                          refine g_goto (tgt := 82) C dX3_digest_124 (by decide) ?_
                          refine g_sub [1, 2, 0] (lv' := [(0, .ref u0), (1, .long d5), (3, .int (nI (i + 1)))]) rfl ?_
                          have e : w = 8 := by omega
                          subst e
                          exact ih4 (i + 1) _ (by rw [hd5, Nat.mul_succ]) (by omega) (by omega)
                        · skip
                          rw [show (7 : Int32) = nI 7 from rfl, nI_ltI (by omega) (by omega)] at c_5
                          refine g_lload_n C dX3_digest_100 rfl 1 rfl ?_
                          refine g_ldc2 (v := 31) C dX3_digest_101 k_X3_digest_4 ?_
                          refine g_lmul C dX3_digest_104 ?_
                          refine g_aload_n C dX3_digest_105 rfl 0 rfl ?_
                          refine g_iload_n C dX3_digest_106 rfl 2 rfl ?_
                          refine g_iload C dX3_digest_107 3 rfl ?_
                          refine g_callV (ci := 3) (Cn := RX3) (As := [.int (nI i), .int (nI w)]) (rest := [.long (d5 * 31)]) C gm0 rfl rfl (c_X3_pieceTold l D tys cI ht0 ((u0, .inr (3, [.int 0, .int (nI np), .ref u1, .ref u2, .ref u3, .ref u4, .ref u5, .ref u6, .ref u7, .ref u8, .ref u9, .ref u10, .ref u11, .ref u13])) :: (u1, .inl (cI, 100, .inl (fi))) :: (u2, .inl (cI, 100, .inl (le))) :: (u3, .inl (cI, 100, .inl (ac))) :: (u4, .inl (cI, 100, .inl (se))) :: (u5, .inl (cI, 100, .inl (hh))) :: (u6, .inl (cI, 100, .inl (ou))) :: (u7, .inl (cI, 80, .inl (cover))) :: (u8, .inl (cI, 8, .inl (sun))) :: (u9, .inl (cI, 80, .inl (rw2))) :: (u10, .inl (cI, 80, .inl (fo2))) :: (u11, .inr (2, [.int (nI hr), .ref u12, .ref u0])) :: (u12, .inl (cI, 80, .inl (wet))) :: (u13, .inr (2, [.int ah, .ref u14, .ref u0])) :: (u14, .inl (cI, 80, .inl (aw))) :: Z) u0 u1 u2 u3 u4 u5 u6 u7 u8 u9 u10 u11 u12 u13 u14 np 0 fi le ac se hh ou P hr wet cover i w (by omega) (by omega) hnp hR hg gm0 (gmT (gmT (gmT (gmT (gmT (gmT (gmT (gmT (gmT (gmT (gmT gm0))))))))))) (gmT (gmT (gmT (gmT (gmT (gmT (gmT (gmT (gmT (gmT (gmT (gmT gm0)))))))))))) (gmT gm0) (gmT (gmT gm0)) (gmT (gmT (gmT gm0))) (gmT (gmT (gmT (gmT gm0)))) (gmT (gmT (gmT (gmT (gmT gm0))))) (gmT (gmT (gmT (gmT (gmT (gmT gm0)))))) (gmT (gmT (gmT (gmT (gmT (gmT (gmT gm0)))))))) (cwV 2 C.ts gX3_digest_X3_pieceTold rfl rfl rfl (by decide +kernel) ⟨(Nat.le_of_ble_eq_true rfl), (Nat.le_of_ble_eq_true rfl)⟩) rfl rfl (Nat.le_of_ble_eq_true rfl) dX3_digest_109 (Nat.le_of_ble_eq_true rfl) (Nat.le_of_ble_eq_true rfl) (g_is (x := .int (pfact (P i) wet w)) (W1 := ((u0, .inr (3, [.int 0, .int (nI np), .ref u1, .ref u2, .ref u3, .ref u4, .ref u5, .ref u6, .ref u7, .ref u8, .ref u9, .ref u10, .ref u11, .ref u13])) :: (u1, .inl (cI, 100, .inl (fi))) :: (u2, .inl (cI, 100, .inl (le))) :: (u3, .inl (cI, 100, .inl (ac))) :: (u4, .inl (cI, 100, .inl (se))) :: (u5, .inl (cI, 100, .inl (hh))) :: (u6, .inl (cI, 100, .inl (ou))) :: (u7, .inl (cI, 80, .inl (cover))) :: (u8, .inl (cI, 8, .inl (sun))) :: (u9, .inl (cI, 80, .inl (rw2))) :: (u10, .inl (cI, 80, .inl (fo2))) :: (u11, .inr (2, [.int (nI hr), .ref u12, .ref u0])) :: (u12, .inl (cI, 80, .inl (wet))) :: (u13, .inr (2, [.int ah, .ref u14, .ref u0])) :: (u14, .inl (cI, 80, .inl (aw))) :: Z)) ?_)
                          refine g_i2l C dX3_digest_112 ?_
                          refine g_ladd C dX3_digest_113 ?_
                          refine g_lstore_n (lv' := [(1, .long ((d5 * 31) + ((pfact (P i) wet w).toInt64))), (0, .ref u0), (3, .int (nI i)), (4, .int (nI w))]) C dX3_digest_114 rfl (by decide) rfl ?_
                          refine g_iinc (v := nI (w + 1)) (lv' := [(4, .int (nI (w + 1))), (1, .long ((d5 * 31) + ((pfact (P i) wet w).toInt64))), (0, .ref u0), (3, .int (nI i))]) C dX3_digest_115 3 rfl (by exact nI_add _ 1) (by decide) rfl ?_
                          refine g_goto (tgt := 93) C dX3_digest_118 (by decide) ?_
                          refine g_sub [2, 1, 3, 0] (lv' := [(0, .ref u0), (1, .long ((d5 * 31) + ((pfact (P i) wet w).toInt64))), (3, .int (nI i)), (4, .int (nI (w + 1)))]) rfl ?_
                          exact ih5 (w + 1) _ (by rw [show 8 * i + (w + 1) = (8 * i + w) + 1 from rfl, dgN_1, hd5, dg3, show (8 * i + w) / 8 = i by omega, show (8 * i + w) % 8 = w by omega]) (by omega) (by omega)
                    refine g_sub [1, 2, 3, 0] (lv' := [(0, .ref u0), (1, .long d), (3, .int (nI i)), (4, .int 0)]) rfl ?_
                    exact lp93 9 0 _ hd (by omega) (by omega)
              refine g_sub [1, 2, 0] (lv' := [(0, .ref u0), (1, .long d2), (3, .int 0)]) rfl ?_
              have e : z = 80 := by omega
              subst e
              exact lp82 (np + 1) 0 d2 (by rw [hd2, show 3 * 80 = 240 from rfl, Nat.mul_zero]; exact (dgN_0 _ _).symm) (by omega) (by omega)
            · skip
              rw [show (80 : Int32) = nI 80 from rfl, nI_leI (by omega) (by omega)] at c_2
              refine g_iconst (v := 0) C dX3_digest_44 (by decide) ?_
              refine g_istore (lv' := [(4, .int 0), (0, .ref u0), (1, .long d2), (3, .int (nI z))]) C dX3_digest_45 (by decide) rfl ?_
              have lp47 : ∀ (n9 : Nat) (w : Nat) (d3 : Int64) (hd3 : d3 = dgN (dg2 np P wet cover) (3 * z + w) (dgN (cntm np hr P wet cover rw) 8 967)) (hi3 : w ≤ 3) (hn3 : 4 ≤ w + n9), G p l e ({ frames := 6, cells := 0, slots := 0, locals := 138 } : Room) s m args below meth c D A s.heap 5 0 0 Q 47 [(0, .ref u0), (1, .long d3), (3, .int (nI z)), (4, .int (nI w))] [] ((u0, .inr (3, [.int 0, .int (nI np), .ref u1, .ref u2, .ref u3, .ref u4, .ref u5, .ref u6, .ref u7, .ref u8, .ref u9, .ref u10, .ref u11, .ref u13])) :: (u1, .inl (cI, 100, .inl (fi))) :: (u2, .inl (cI, 100, .inl (le))) :: (u3, .inl (cI, 100, .inl (ac))) :: (u4, .inl (cI, 100, .inl (se))) :: (u5, .inl (cI, 100, .inl (hh))) :: (u6, .inl (cI, 100, .inl (ou))) :: (u7, .inl (cI, 80, .inl (cover))) :: (u8, .inl (cI, 8, .inl (sun))) :: (u9, .inl (cI, 80, .inl (rw2))) :: (u10, .inl (cI, 80, .inl (fo2))) :: (u11, .inr (2, [.int (nI hr), .ref u12, .ref u0])) :: (u12, .inl (cI, 80, .inl (wet))) :: (u13, .inr (2, [.int ah, .ref u14, .ref u0])) :: (u14, .inl (cI, 80, .inl (aw))) :: Z) := by
                intro n9
                induction n9 with
                | zero =>
                  intro w d3 hd3 hi3 hn3
                  exfalso; omega
                | succ n9 ih3 =>
                  intro w d3 hd3 hi3 hn3
                  refine g_iload C dX3_digest_47 3 rfl ?_
                  refine g_iconst (v := 2) C dX3_digest_49 (by decide) ?_
                  refine g_icmp_gt (tgt := 74) C dX3_digest_50 (by decide) (fun c_6 => ?_) (fun c_6 => ?_)
                  · skip
                    rw [show (2 : Int32) = nI 2 from rfl, nI_ltI (by omega) (by omega)] at c_6
                    refine g_iinc (v := nI (z + 1)) (lv' := [(3, .int (nI (z + 1))), (0, .ref u0), (1, .long d3), (4, .int (nI w))]) C dX3_digest_74 2 rfl (by exact nI_add _ 1) (by decide) rfl ?_
                    refine g_goto (tgt := 38) C dX3_digest_77 (by decide) ?_
                    refine g_sub [1, 2, 0] (lv' := [(0, .ref u0), (1, .long d3), (3, .int (nI (z + 1)))]) rfl ?_
                    have e : w = 3 := by omega
                    subst e
                    exact ih2 (z + 1) _ (by rw [hd3, Nat.mul_succ]) (by omega) (by omega)
                  · skip
                    rw [show (2 : Int32) = nI 2 from rfl, nI_ltI (by omega) (by omega)] at c_6
                    refine g_lload_n C dX3_digest_53 rfl 1 rfl ?_
                    refine g_ldc2 (v := 31) C dX3_digest_54 k_X3_digest_4 ?_
                    refine g_lmul C dX3_digest_57 ?_
                    refine g_aload_n C dX3_digest_58 rfl 0 rfl ?_
                    refine g_iload_n C dX3_digest_59 rfl 2 rfl ?_
                    refine g_iload C dX3_digest_60 3 rfl ?_
                    refine g_callV (ci := 3) (Cn := RX3) (As := [.int (nI z), .int (nI w)]) (rest := [.long (d3 * 31)]) C gm0 rfl rfl (c_X3_cellTold l D tys cI ht0 ((u0, .inr (3, [.int 0, .int (nI np), .ref u1, .ref u2, .ref u3, .ref u4, .ref u5, .ref u6, .ref u7, .ref u8, .ref u9, .ref u10, .ref u11, .ref u13])) :: (u1, .inl (cI, 100, .inl (fi))) :: (u2, .inl (cI, 100, .inl (le))) :: (u3, .inl (cI, 100, .inl (ac))) :: (u4, .inl (cI, 100, .inl (se))) :: (u5, .inl (cI, 100, .inl (hh))) :: (u6, .inl (cI, 100, .inl (ou))) :: (u7, .inl (cI, 80, .inl (cover))) :: (u8, .inl (cI, 8, .inl (sun))) :: (u9, .inl (cI, 80, .inl (rw2))) :: (u10, .inl (cI, 80, .inl (fo2))) :: (u11, .inr (2, [.int (nI hr), .ref u12, .ref u0])) :: (u12, .inl (cI, 80, .inl (wet))) :: (u13, .inr (2, [.int ah, .ref u14, .ref u0])) :: (u14, .inl (cI, 80, .inl (aw))) :: Z) u0 u1 u2 u3 u4 u5 u6 u7 u8 u9 u10 u11 u12 u13 u14 np 0 fi le ac se hh ou P hr wet cover z w (by omega) (by omega) hnp hR hcv gm0 (gmT (gmT (gmT (gmT (gmT (gmT (gmT (gmT (gmT (gmT (gmT gm0))))))))))) (gmT (gmT (gmT (gmT (gmT (gmT (gmT (gmT (gmT (gmT (gmT (gmT gm0)))))))))))) (gmT gm0) (gmT (gmT gm0)) (gmT (gmT (gmT gm0))) (gmT (gmT (gmT (gmT gm0)))) (gmT (gmT (gmT (gmT (gmT gm0))))) (gmT (gmT (gmT (gmT (gmT (gmT gm0)))))) (gmT (gmT (gmT (gmT (gmT (gmT (gmT gm0)))))))) (cwV 2 C.ts gX3_digest_X3_cellTold rfl rfl rfl (by decide +kernel) ⟨(Nat.le_of_ble_eq_true rfl), (Nat.le_of_ble_eq_true rfl)⟩) rfl rfl (Nat.le_of_ble_eq_true rfl) dX3_digest_62 (Nat.le_of_ble_eq_true rfl) (Nat.le_of_ble_eq_true rfl) (g_is (x := .int (cfact np P wet cover z w)) (W1 := ((u0, .inr (3, [.int 0, .int (nI np), .ref u1, .ref u2, .ref u3, .ref u4, .ref u5, .ref u6, .ref u7, .ref u8, .ref u9, .ref u10, .ref u11, .ref u13])) :: (u1, .inl (cI, 100, .inl (fi))) :: (u2, .inl (cI, 100, .inl (le))) :: (u3, .inl (cI, 100, .inl (ac))) :: (u4, .inl (cI, 100, .inl (se))) :: (u5, .inl (cI, 100, .inl (hh))) :: (u6, .inl (cI, 100, .inl (ou))) :: (u7, .inl (cI, 80, .inl (cover))) :: (u8, .inl (cI, 8, .inl (sun))) :: (u9, .inl (cI, 80, .inl (rw2))) :: (u10, .inl (cI, 80, .inl (fo2))) :: (u11, .inr (2, [.int (nI hr), .ref u12, .ref u0])) :: (u12, .inl (cI, 80, .inl (wet))) :: (u13, .inr (2, [.int ah, .ref u14, .ref u0])) :: (u14, .inl (cI, 80, .inl (aw))) :: Z)) ?_)
                    refine g_i2l C dX3_digest_65 ?_
                    refine g_ladd C dX3_digest_66 ?_
                    refine g_lstore_n (lv' := [(1, .long ((d3 * 31) + ((cfact np P wet cover z w).toInt64))), (0, .ref u0), (3, .int (nI z)), (4, .int (nI w))]) C dX3_digest_67 rfl (by decide) rfl ?_
                    refine g_iinc (v := nI (w + 1)) (lv' := [(4, .int (nI (w + 1))), (1, .long ((d3 * 31) + ((cfact np P wet cover z w).toInt64))), (0, .ref u0), (3, .int (nI z))]) C dX3_digest_68 3 rfl (by exact nI_add _ 1) (by decide) rfl ?_
                    refine g_goto (tgt := 47) C dX3_digest_71 (by decide) ?_
                    refine g_sub [2, 1, 3, 0] (lv' := [(0, .ref u0), (1, .long ((d3 * 31) + ((cfact np P wet cover z w).toInt64))), (3, .int (nI z)), (4, .int (nI (w + 1)))]) rfl ?_
                    exact ih3 (w + 1) _ (by rw [show 3 * z + (w + 1) = (3 * z + w) + 1 from rfl, dgN_1, hd3, dg2, show (3 * z + w) / 3 = z by omega, show (3 * z + w) % 3 = w by omega]) (by omega) (by omega)
              refine g_sub [1, 2, 3, 0] (lv' := [(0, .ref u0), (1, .long d2), (3, .int (nI z)), (4, .int 0)]) rfl ?_
              exact lp47 4 0 _ hd2 (by omega) (by omega)
        refine g_sub [1, 2, 0] (lv' := [(0, .ref u0), (1, .long d), (3, .int 0)]) rfl ?_
        have e : i = 8 := by omega
        subst e
        exact lp38 81 0 d (by rw [hd, Nat.mul_zero]; exact (dgN_0 _ _).symm) (by omega) (by omega)
      · skip
        rw [show (7 : Int32) = nI 7 from rfl, nI_ltI (by omega) (by omega)] at c_1
        have e9 := hfd (by omega)
        subst e9
        refine g_lload_n C dX3_digest_17 rfl 1 rfl ?_
        refine g_ldc2 (v := 31) C dX3_digest_18 k_X3_digest_4 ?_
        refine g_lmul C dX3_digest_21 ?_
        refine g_aload_n C dX3_digest_22 rfl 0 rfl ?_
        refine g_iload_n C dX3_digest_23 rfl 2 rfl ?_
        refine g_callV (ci := 3) (Cn := RX3) (As := [.int (nI i)]) (rest := [.long (d * 31)]) C gm0 rfl rfl (c_X3_counted l D tys cI ht0 u0 u1 u2 u3 u4 u5 u6 u7 u8 u9 u10 u11 u12 u13 u14 np 0 fi le ac se hh ou cover sun rw fo2 wet aw hr ah Z P hnp hR hg hcv hwt i (by omega)) (cwV 1 C.ts gX3_digest_X3_counted rfl rfl rfl (by decide +kernel) ⟨(Nat.le_of_ble_eq_true rfl), (Nat.le_of_ble_eq_true rfl)⟩) rfl rfl (Nat.le_of_ble_eq_true rfl) dX3_digest_24 (Nat.le_of_ble_eq_true rfl) (Nat.le_of_ble_eq_true rfl) (g_is (x := .int (cntm np hr P wet cover rw i)) (W1 := ((u0, .inr (3, [.int 0, .int (nI np), .ref u1, .ref u2, .ref u3, .ref u4, .ref u5, .ref u6, .ref u7, .ref u8, .ref u9, .ref u10, .ref u11, .ref u13])) :: (u1, .inl (cI, 100, .inl (fi))) :: (u2, .inl (cI, 100, .inl (le))) :: (u3, .inl (cI, 100, .inl (ac))) :: (u4, .inl (cI, 100, .inl (se))) :: (u5, .inl (cI, 100, .inl (hh))) :: (u6, .inl (cI, 100, .inl (ou))) :: (u7, .inl (cI, 80, .inl (cover))) :: (u8, .inl (cI, 8, .inl (sun))) :: (u9, .inl (cI, 80, .inl ((cnmW cover rw fo2 i).2))) :: (u10, .inl (cI, 80, .inl ((cnmW cover rw fo2 i).1))) :: (u11, .inr (2, [.int (nI hr), .ref u12, .ref u0])) :: (u12, .inl (cI, 80, .inl (wet))) :: (u13, .inr (2, [.int ah, .ref u14, .ref u0])) :: (u14, .inl (cI, 80, .inl (aw))) :: Z)) ?_)
        refine g_i2l C dX3_digest_27 ?_
        refine g_ladd C dX3_digest_28 ?_
        refine g_lstore_n (lv' := [(1, .long ((d * 31) + ((cntm np hr P wet cover rw i).toInt64))), (0, .ref u0), (3, .int (nI i))]) C dX3_digest_29 rfl (by decide) rfl ?_
        refine g_iinc (v := nI (i + 1)) (lv' := [(3, .int (nI (i + 1))), (1, .long ((d * 31) + ((cntm np hr P wet cover rw i).toInt64))), (0, .ref u0)]) C dX3_digest_30 2 rfl (by exact nI_add _ 1) (by decide) rfl ?_
        refine g_goto (tgt := 11) C dX3_digest_33 (by decide) ?_
        refine g_sub [2, 1, 0] (lv' := [(0, .ref u0), (1, .long ((d * 31) + ((cntm np hr P wet cover rw i).toInt64))), (3, .int (nI (i + 1)))]) rfl ?_
        exact ih (i + 1) _ _ _ (by rw [dgN_1, hd]) (fun h7 => by rw [cnmW, if_neg (by omega)]) (by omega) (by omega)
  refine g_sub [2, 1, 0] (lv' := [(0, .ref u0), (1, .long 967), (3, .int 0)]) rfl ?_
  exact lp11 9 0 _ _ _ rfl (fun _ => rfl) (by omega) (by omega)
