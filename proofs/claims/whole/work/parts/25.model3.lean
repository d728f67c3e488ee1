set_option maxHeartbeats 4000000 in
set_option maxRecDepth 100000 in
theorem c_X3_beside (l : Launch) (D : va_G) (tys : List (ClassId × FieldType)) (W : va_W) (z : Int32) (sd : Nat) (hsd : sd ≤ 3) : gM l yX3_beside wsX3_beside ({ frames := 2, cells := 0, slots := 0, locals := 43 } : Room) D tys [.int z, .int (nI sd)] W (gIs (some (.int (bes z sd))) W) 0 0 := by
  refine gM_of (by decide +kernel) rfl (Nat.le_of_ble_eq_true rfl) ?_
  intro p e s m args below meth c A Q hin C hQ
  refine g_sub [0, 1] (lv' := [(0, .int z), (1, .int (nI sd))]) rfl ?_
  rcases (show sd = 0 ∨ sd = 1 ∨ sd = 2 ∨ sd = 3 by omega) with rfl | rfl | rfl | rfl
  · skip
    refine g_iload_n C dX3_beside_0 rfl 0 rfl ?_
    refine g_bipush (v := 10) C dX3_beside_1 (by decide) ?_
    refine g_irem C dX3_beside_3 (by decide) ?_
    refine g_iload_n C dX3_beside_4 rfl 1 rfl ?_
    refine g_if_ne (tgt := 12) C dX3_beside_5 (by decide) (fun c_1 => by exfalso; revert c_1; decide) (fun c_1 => ?_)
    refine g_iconst (v := 1) C dX3_beside_8 (by decide) ?_
    refine g_goto (tgt := 22) C dX3_beside_9 (by decide) ?_
    refine g_iadd C dX3_beside_22 ?_
    refine g_istore_n (lv' := [(2, .int ((z - z / 10 * 10) + 1)), (0, .int z), (1, .int (nI 0))]) C dX3_beside_23 rfl (by decide) rfl ?_
    refine g_iload_n C dX3_beside_24 rfl 1 rfl ?_
    refine g_bipush (v := 10) C dX3_beside_25 (by decide) ?_
    refine g_idiv C dX3_beside_27 (by decide) ?_
    refine g_iload_n C dX3_beside_28 rfl 2 rfl ?_
    refine g_iconst (v := 2) C dX3_beside_29 (by decide) ?_
    refine g_icmp_ne (tgt := 37) C dX3_beside_30 (by decide) (fun c_2 => ?_) (fun c_2 => by exfalso; revert c_2; decide)
    refine g_iload_n C dX3_beside_37 rfl 2 rfl ?_
    refine g_iconst (v := 3) C dX3_beside_38 (by decide) ?_
    refine g_icmp_ne (tgt := 46) C dX3_beside_39 (by decide) (fun c_3 => ?_) (fun c_3 => by exfalso; revert c_3; decide)
    refine g_iconst (v := 0) C dX3_beside_46 (by decide) ?_
    refine g_iadd C dX3_beside_47 ?_
    refine g_istore_n (lv' := [(3, .int ((z / 10) + 0)), (2, .int ((z - z / 10 * 10) + 1)), (0, .int z), (1, .int (nI 0))]) C dX3_beside_48 rfl (by decide) rfl ?_
    refine g_iload_n C dX3_beside_49 rfl 1 rfl ?_
    refine g_iload_n C dX3_beside_50 rfl 0 rfl ?_
    refine g_callS (As := [.int ((z - z / 10 * 10) + 1), .int ((z / 10) + 0)]) (rest := []) C (c_X3_isCell l D tys W ((z - z / 10 * 10) + 1) ((z / 10) + 0)) (va_cwS 2 C.ts gX3_beside_X3_isCell rfl rfl rfl (by decide +kernel) ⟨(Nat.le_of_ble_eq_true rfl), (Nat.le_of_ble_eq_true rfl)⟩) rfl rfl (Nat.le_of_ble_eq_true rfl) dX3_beside_51 (Nat.le_of_ble_eq_true rfl) (Nat.le_of_ble_eq_true rfl) (g_is (x := .int (gz (onW ((z - z / 10 * 10) + 1) ((z / 10) + 0)))) (W1 := W) ?_)
    refine g_if_eq (tgt := 66) C dX3_beside_54 (by decide) (fun c_4 => ?_) (fun c_4 => ?_)
    · skip
      replace c_4 := gz0.mp c_4
      refine g_iconst (v := (-1)) C dX3_beside_66 (by decide) ?_
      refine g_iret C hQ (Nat.le_of_ble_eq_true rfl) (Nat.le_of_ble_eq_true rfl) dX3_beside_67 ?_
      have e : bes z 0 = if onW ((z - z / 10 * 10) + 1) ((z / 10) + 0) = true then 10 * ((z / 10) + 0) + ((z - z / 10 * 10) + 1) else -1 := rfl
      exact ⟨by rw [e, if_neg (by rw [c_4]; decide)], rfl⟩
    · skip
      replace c_4 := gzn.mp c_4
      refine g_bipush (v := 10) C dX3_beside_57 (by decide) ?_
      refine g_iload_n C dX3_beside_59 rfl 0 rfl ?_
      refine g_imul C dX3_beside_60 ?_
      refine g_iload_n C dX3_beside_61 rfl 1 rfl ?_
      refine g_iadd C dX3_beside_62 ?_
      refine g_goto (tgt := 67) C dX3_beside_63 (by decide) ?_
      refine g_iret C hQ (Nat.le_of_ble_eq_true rfl) (Nat.le_of_ble_eq_true rfl) dX3_beside_67 ?_
      have e : bes z 0 = if onW ((z - z / 10 * 10) + 1) ((z / 10) + 0) = true then 10 * ((z / 10) + 0) + ((z - z / 10 * 10) + 1) else -1 := rfl
      exact ⟨by rw [e, if_pos c_4], rfl⟩
  · skip
    refine g_iload_n C dX3_beside_0 rfl 0 rfl ?_
    refine g_bipush (v := 10) C dX3_beside_1 (by decide) ?_
    refine g_irem C dX3_beside_3 (by decide) ?_
    refine g_iload_n C dX3_beside_4 rfl 1 rfl ?_
    refine g_if_ne (tgt := 12) C dX3_beside_5 (by decide) (fun c_5 => ?_) (fun c_5 => by exfalso; revert c_5; decide)
    refine g_iload_n C dX3_beside_12 rfl 1 rfl ?_
    refine g_iconst (v := 1) C dX3_beside_13 (by decide) ?_
    refine g_icmp_ne (tgt := 21) C dX3_beside_14 (by decide) (fun c_6 => by exfalso; revert c_6; decide) (fun c_6 => ?_)
    refine g_iconst (v := (-1)) C dX3_beside_17 (by decide) ?_
    refine g_goto (tgt := 22) C dX3_beside_18 (by decide) ?_
    refine g_iadd C dX3_beside_22 ?_
    refine g_istore_n (lv' := [(2, .int ((z - z / 10 * 10) + (-1))), (0, .int z), (1, .int (nI 1))]) C dX3_beside_23 rfl (by decide) rfl ?_
    refine g_iload_n C dX3_beside_24 rfl 1 rfl ?_
    refine g_bipush (v := 10) C dX3_beside_25 (by decide) ?_
    refine g_idiv C dX3_beside_27 (by decide) ?_
    refine g_iload_n C dX3_beside_28 rfl 2 rfl ?_
    refine g_iconst (v := 2) C dX3_beside_29 (by decide) ?_
    refine g_icmp_ne (tgt := 37) C dX3_beside_30 (by decide) (fun c_7 => ?_) (fun c_7 => by exfalso; revert c_7; decide)
    refine g_iload_n C dX3_beside_37 rfl 2 rfl ?_
    refine g_iconst (v := 3) C dX3_beside_38 (by decide) ?_
    refine g_icmp_ne (tgt := 46) C dX3_beside_39 (by decide) (fun c_8 => ?_) (fun c_8 => by exfalso; revert c_8; decide)
    refine g_iconst (v := 0) C dX3_beside_46 (by decide) ?_
    refine g_iadd C dX3_beside_47 ?_
    refine g_istore_n (lv' := [(3, .int ((z / 10) + 0)), (2, .int ((z - z / 10 * 10) + (-1))), (0, .int z), (1, .int (nI 1))]) C dX3_beside_48 rfl (by decide) rfl ?_
    refine g_iload_n C dX3_beside_49 rfl 1 rfl ?_
    refine g_iload_n C dX3_beside_50 rfl 0 rfl ?_
    refine g_callS (As := [.int ((z - z / 10 * 10) + (-1)), .int ((z / 10) + 0)]) (rest := []) C (c_X3_isCell l D tys W ((z - z / 10 * 10) + (-1)) ((z / 10) + 0)) (va_cwS 2 C.ts gX3_beside_X3_isCell rfl rfl rfl (by decide +kernel) ⟨(Nat.le_of_ble_eq_true rfl), (Nat.le_of_ble_eq_true rfl)⟩) rfl rfl (Nat.le_of_ble_eq_true rfl) dX3_beside_51 (Nat.le_of_ble_eq_true rfl) (Nat.le_of_ble_eq_true rfl) (g_is (x := .int (gz (onW ((z - z / 10 * 10) + (-1)) ((z / 10) + 0)))) (W1 := W) ?_)
    refine g_if_eq (tgt := 66) C dX3_beside_54 (by decide) (fun c_9 => ?_) (fun c_9 => ?_)
    · skip
      replace c_9 := gz0.mp c_9
      refine g_iconst (v := (-1)) C dX3_beside_66 (by decide) ?_
      refine g_iret C hQ (Nat.le_of_ble_eq_true rfl) (Nat.le_of_ble_eq_true rfl) dX3_beside_67 ?_
      have e : bes z 1 = if onW ((z - z / 10 * 10) + (-1)) ((z / 10) + 0) = true then 10 * ((z / 10) + 0) + ((z - z / 10 * 10) + (-1)) else -1 := rfl
      exact ⟨by rw [e, if_neg (by rw [c_9]; decide)], rfl⟩
    · skip
      replace c_9 := gzn.mp c_9
      refine g_bipush (v := 10) C dX3_beside_57 (by decide) ?_
      refine g_iload_n C dX3_beside_59 rfl 0 rfl ?_
      refine g_imul C dX3_beside_60 ?_
      refine g_iload_n C dX3_beside_61 rfl 1 rfl ?_
      refine g_iadd C dX3_beside_62 ?_
      refine g_goto (tgt := 67) C dX3_beside_63 (by decide) ?_
      refine g_iret C hQ (Nat.le_of_ble_eq_true rfl) (Nat.le_of_ble_eq_true rfl) dX3_beside_67 ?_
      have e : bes z 1 = if onW ((z - z / 10 * 10) + (-1)) ((z / 10) + 0) = true then 10 * ((z / 10) + 0) + ((z - z / 10 * 10) + (-1)) else -1 := rfl
      exact ⟨by rw [e, if_pos c_9], rfl⟩
  · skip
    refine g_iload_n C dX3_beside_0 rfl 0 rfl ?_
    refine g_bipush (v := 10) C dX3_beside_1 (by decide) ?_
    refine g_irem C dX3_beside_3 (by decide) ?_
    refine g_iload_n C dX3_beside_4 rfl 1 rfl ?_
    refine g_if_ne (tgt := 12) C dX3_beside_5 (by decide) (fun c_10 => ?_) (fun c_10 => by exfalso; revert c_10; decide)
    refine g_iload_n C dX3_beside_12 rfl 1 rfl ?_
    refine g_iconst (v := 1) C dX3_beside_13 (by decide) ?_
    refine g_icmp_ne (tgt := 21) C dX3_beside_14 (by decide) (fun c_11 => ?_) (fun c_11 => by exfalso; revert c_11; decide)
    refine g_iconst (v := 0) C dX3_beside_21 (by decide) ?_
    refine g_iadd C dX3_beside_22 ?_
    refine g_istore_n (lv' := [(2, .int ((z - z / 10 * 10) + 0)), (0, .int z), (1, .int (nI 2))]) C dX3_beside_23 rfl (by decide) rfl ?_
    refine g_iload_n C dX3_beside_24 rfl 1 rfl ?_
    refine g_bipush (v := 10) C dX3_beside_25 (by decide) ?_
    refine g_idiv C dX3_beside_27 (by decide) ?_
    refine g_iload_n C dX3_beside_28 rfl 2 rfl ?_
    refine g_iconst (v := 2) C dX3_beside_29 (by decide) ?_
    refine g_icmp_ne (tgt := 37) C dX3_beside_30 (by decide) (fun c_12 => by exfalso; revert c_12; decide) (fun c_12 => ?_)
    refine g_iconst (v := 1) C dX3_beside_33 (by decide) ?_
    refine g_goto (tgt := 47) C dX3_beside_34 (by decide) ?_
    refine g_iadd C dX3_beside_47 ?_
    refine g_istore_n (lv' := [(3, .int ((z / 10) + 1)), (2, .int ((z - z / 10 * 10) + 0)), (0, .int z), (1, .int (nI 2))]) C dX3_beside_48 rfl (by decide) rfl ?_
    refine g_iload_n C dX3_beside_49 rfl 1 rfl ?_
    refine g_iload_n C dX3_beside_50 rfl 0 rfl ?_
    refine g_callS (As := [.int ((z - z / 10 * 10) + 0), .int ((z / 10) + 1)]) (rest := []) C (c_X3_isCell l D tys W ((z - z / 10 * 10) + 0) ((z / 10) + 1)) (va_cwS 2 C.ts gX3_beside_X3_isCell rfl rfl rfl (by decide +kernel) ⟨(Nat.le_of_ble_eq_true rfl), (Nat.le_of_ble_eq_true rfl)⟩) rfl rfl (Nat.le_of_ble_eq_true rfl) dX3_beside_51 (Nat.le_of_ble_eq_true rfl) (Nat.le_of_ble_eq_true rfl) (g_is (x := .int (gz (onW ((z - z / 10 * 10) + 0) ((z / 10) + 1)))) (W1 := W) ?_)
    refine g_if_eq (tgt := 66) C dX3_beside_54 (by decide) (fun c_13 => ?_) (fun c_13 => ?_)
    · skip
      replace c_13 := gz0.mp c_13
      refine g_iconst (v := (-1)) C dX3_beside_66 (by decide) ?_
      refine g_iret C hQ (Nat.le_of_ble_eq_true rfl) (Nat.le_of_ble_eq_true rfl) dX3_beside_67 ?_
      have e : bes z 2 = if onW ((z - z / 10 * 10) + 0) ((z / 10) + 1) = true then 10 * ((z / 10) + 1) + ((z - z / 10 * 10) + 0) else -1 := rfl
      exact ⟨by rw [e, if_neg (by rw [c_13]; decide)], rfl⟩
    · skip
      replace c_13 := gzn.mp c_13
      refine g_bipush (v := 10) C dX3_beside_57 (by decide) ?_
      refine g_iload_n C dX3_beside_59 rfl 0 rfl ?_
      refine g_imul C dX3_beside_60 ?_
      refine g_iload_n C dX3_beside_61 rfl 1 rfl ?_
      refine g_iadd C dX3_beside_62 ?_
      refine g_goto (tgt := 67) C dX3_beside_63 (by decide) ?_
      refine g_iret C hQ (Nat.le_of_ble_eq_true rfl) (Nat.le_of_ble_eq_true rfl) dX3_beside_67 ?_
      have e : bes z 2 = if onW ((z - z / 10 * 10) + 0) ((z / 10) + 1) = true then 10 * ((z / 10) + 1) + ((z - z / 10 * 10) + 0) else -1 := rfl
      exact ⟨by rw [e, if_pos c_13], rfl⟩
  · skip
    refine g_iload_n C dX3_beside_0 rfl 0 rfl ?_
    refine g_bipush (v := 10) C dX3_beside_1 (by decide) ?_
    refine g_irem C dX3_beside_3 (by decide) ?_
    refine g_iload_n C dX3_beside_4 rfl 1 rfl ?_
    refine g_if_ne (tgt := 12) C dX3_beside_5 (by decide) (fun c_14 => ?_) (fun c_14 => by exfalso; revert c_14; decide)
    refine g_iload_n C dX3_beside_12 rfl 1 rfl ?_
    refine g_iconst (v := 1) C dX3_beside_13 (by decide) ?_
    refine g_icmp_ne (tgt := 21) C dX3_beside_14 (by decide) (fun c_15 => ?_) (fun c_15 => by exfalso; revert c_15; decide)
    refine g_iconst (v := 0) C dX3_beside_21 (by decide) ?_
    refine g_iadd C dX3_beside_22 ?_
    refine g_istore_n (lv' := [(2, .int ((z - z / 10 * 10) + 0)), (0, .int z), (1, .int (nI 3))]) C dX3_beside_23 rfl (by decide) rfl ?_
    refine g_iload_n C dX3_beside_24 rfl 1 rfl ?_
    refine g_bipush (v := 10) C dX3_beside_25 (by decide) ?_
    refine g_idiv C dX3_beside_27 (by decide) ?_
    refine g_iload_n C dX3_beside_28 rfl 2 rfl ?_
    refine g_iconst (v := 2) C dX3_beside_29 (by decide) ?_
    refine g_icmp_ne (tgt := 37) C dX3_beside_30 (by decide) (fun c_16 => ?_) (fun c_16 => by exfalso; revert c_16; decide)
    refine g_iload_n C dX3_beside_37 rfl 2 rfl ?_
    refine g_iconst (v := 3) C dX3_beside_38 (by decide) ?_
    refine g_icmp_ne (tgt := 46) C dX3_beside_39 (by decide) (fun c_17 => by exfalso; revert c_17; decide) (fun c_17 => ?_)
    refine g_iconst (v := (-1)) C dX3_beside_42 (by decide) ?_
    refine g_goto (tgt := 47) C dX3_beside_43 (by decide) ?_
    refine g_iadd C dX3_beside_47 ?_
    refine g_istore_n (lv' := [(3, .int ((z / 10) + (-1))), (2, .int ((z - z / 10 * 10) + 0)), (0, .int z), (1, .int (nI 3))]) C dX3_beside_48 rfl (by decide) rfl ?_
    refine g_iload_n C dX3_beside_49 rfl 1 rfl ?_
    refine g_iload_n C dX3_beside_50 rfl 0 rfl ?_
    refine g_callS (As := [.int ((z - z / 10 * 10) + 0), .int ((z / 10) + (-1))]) (rest := []) C (c_X3_isCell l D tys W ((z - z / 10 * 10) + 0) ((z / 10) + (-1))) (va_cwS 2 C.ts gX3_beside_X3_isCell rfl rfl rfl (by decide +kernel) ⟨(Nat.le_of_ble_eq_true rfl), (Nat.le_of_ble_eq_true rfl)⟩) rfl rfl (Nat.le_of_ble_eq_true rfl) dX3_beside_51 (Nat.le_of_ble_eq_true rfl) (Nat.le_of_ble_eq_true rfl) (g_is (x := .int (gz (onW ((z - z / 10 * 10) + 0) ((z / 10) + (-1))))) (W1 := W) ?_)
    refine g_if_eq (tgt := 66) C dX3_beside_54 (by decide) (fun c_18 => ?_) (fun c_18 => ?_)
    · skip
      replace c_18 := gz0.mp c_18
      refine g_iconst (v := (-1)) C dX3_beside_66 (by decide) ?_
      refine g_iret C hQ (Nat.le_of_ble_eq_true rfl) (Nat.le_of_ble_eq_true rfl) dX3_beside_67 ?_
      have e : bes z 3 = if onW ((z - z / 10 * 10) + 0) ((z / 10) + (-1)) = true then 10 * ((z / 10) + (-1)) + ((z - z / 10 * 10) + 0) else -1 := rfl
      exact ⟨by rw [e, if_neg (by rw [c_18]; decide)], rfl⟩
    · skip
      replace c_18 := gzn.mp c_18
      refine g_bipush (v := 10) C dX3_beside_57 (by decide) ?_
      refine g_iload_n C dX3_beside_59 rfl 0 rfl ?_
      refine g_imul C dX3_beside_60 ?_
      refine g_iload_n C dX3_beside_61 rfl 1 rfl ?_
      refine g_iadd C dX3_beside_62 ?_
      refine g_goto (tgt := 67) C dX3_beside_63 (by decide) ?_
      refine g_iret C hQ (Nat.le_of_ble_eq_true rfl) (Nat.le_of_ble_eq_true rfl) dX3_beside_67 ?_
      have e : bes z 3 = if onW ((z - z / 10 * 10) + 0) ((z / 10) + (-1)) = true then 10 * ((z / 10) + (-1)) + ((z - z / 10 * 10) + 0) else -1 := rfl
      exact ⟨by rw [e, if_pos c_18], rfl⟩

theorem k_X3_fill_inX3 : ∀ w ∈ wsX30, w ∈ wsX3_fill := by decide +kernel
theorem k_X3_fill_1 : Cond.fieldLink RX3 37 "WetMosaicModel" "found" "[I" ∈ wsX3_fill := by decide +kernel
theorem k_X3_fill_2 : Cond.fieldLink RX3 34 "WetMosaicModel" "row" "[I" ∈ wsX3_fill := by decide +kernel
theorem k_X3_fill_3 : Cond.fieldLink RX3 28 "WetMosaicModel" "cover" "[I" ∈ wsX3_fill := by decide +kernel
set_option maxHeartbeats 4000000 in
set_option maxRecDepth 100000 in
theorem c_X3_fill (l : Launch) (D : va_G) (tys : List (ClassId × FieldType)) (cI : ClassId) (ht0 : tys[0]? = some (cI, .int)) (u0 u1 u2 u3 u4 u5 u6 u7 u8 u9 u10 u11 u12 u13 u14 np : Nat) (th : Int32) (fi le ac se hh ou cover sun rw fo wet aw : Nat → Int32) (hr : Nat) (ah : Int32) (Z : va_W) (a : Nat) (ha : a < 80) (hfa : fo a = 0) : gM l yX3_fill wsX3_fill ({ frames := 3, cells := 0, slots := 0, locals := 66 } : Room) D tys [.ref u0, .int (nI a)] ((u0, .inr (3, [.int th, .int (nI np), .ref u1, .ref u2, .ref u3, .ref u4, .ref u5, .ref u6, .ref u7, .ref u8, .ref u9, .ref u10, .ref u11, .ref u13])) :: (u1, .inl (cI, 100, .inl (fi))) :: (u2, .inl (cI, 100, .inl (le))) :: (u3, .inl (cI, 100, .inl (ac))) :: (u4, .inl (cI, 100, .inl (se))) :: (u5, .inl (cI, 100, .inl (hh))) :: (u6, .inl (cI, 100, .inl (ou))) :: (u7, .inl (cI, 80, .inl (cover))) :: (u8, .inl (cI, 8, .inl (sun))) :: (u9, .inl (cI, 80, .inl (rw))) :: (u10, .inl (cI, 80, .inl (fo))) :: (u11, .inr (2, [.int (nI hr), .ref u12, .ref u0])) :: (u12, .inl (cI, 80, .inl (wet))) :: (u13, .inr (2, [.int ah, .ref u14, .ref u0])) :: (u14, .inl (cI, 80, .inl (aw))) :: Z) (gIs (some (.int (nI (flP cover a fo rw).2.2))) ((u0, .inr (3, [.int th, .int (nI np), .ref u1, .ref u2, .ref u3, .ref u4, .ref u5, .ref u6, .ref u7, .ref u8, .ref u9, .ref u10, .ref u11, .ref u13])) :: (u1, .inl (cI, 100, .inl (fi))) :: (u2, .inl (cI, 100, .inl (le))) :: (u3, .inl (cI, 100, .inl (ac))) :: (u4, .inl (cI, 100, .inl (se))) :: (u5, .inl (cI, 100, .inl (hh))) :: (u6, .inl (cI, 100, .inl (ou))) :: (u7, .inl (cI, 80, .inl (cover))) :: (u8, .inl (cI, 8, .inl (sun))) :: (u9, .inl (cI, 80, .inl ((flP cover a fo rw).2.1))) :: (u10, .inl (cI, 80, .inl ((flP cover a fo rw).1))) :: (u11, .inr (2, [.int (nI hr), .ref u12, .ref u0])) :: (u12, .inl (cI, 80, .inl (wet))) :: (u13, .inr (2, [.int ah, .ref u14, .ref u0])) :: (u14, .inl (cI, 80, .inl (aw))) :: Z)) 0 0 := by
  refine gM_of (by decide +kernel) rfl (Nat.le_of_ble_eq_true rfl) ?_
  intro p e s m args below meth c A Q hin C hQ
  refine g_sub [0, 1] (lv' := [(0, .ref u0), (1, .int (nI a))]) rfl ?_
  refine g_aload_n C dX3_fill_0 rfl 0 rfl ?_
  refine g_get (v := .ref u10) (ci := 3) (Cn := RX3) (T := TX3) (N := 14) C k_X3_fill_inX3 gm0 rfl 11 (by decide) k_X3_fill_1 rfl rfl dX3_fill_1 ?_
  refine g_iload_n C dX3_fill_4 rfl 1 rfl ?_
  refine g_iconst (v := 1) C dX3_fill_5 (by decide) ?_
  refine g_iast (ws' := ((u0, .inr (3, [.int th, .int (nI np), .ref u1, .ref u2, .ref u3, .ref u4, .ref u5, .ref u6, .ref u7, .ref u8, .ref u9, .ref u10, .ref u11, .ref u13])) :: (u1, .inl (cI, 100, .inl (fi))) :: (u2, .inl (cI, 100, .inl (le))) :: (u3, .inl (cI, 100, .inl (ac))) :: (u4, .inl (cI, 100, .inl (se))) :: (u5, .inl (cI, 100, .inl (hh))) :: (u6, .inl (cI, 100, .inl (ou))) :: (u7, .inl (cI, 80, .inl (cover))) :: (u8, .inl (cI, 8, .inl (sun))) :: (u9, .inl (cI, 80, .inl (rw))) :: (u10, .inl (cI, 80, .inl (upd fo (nI a).toNatClampNeg 1))) :: (u11, .inr (2, [.int (nI hr), .ref u12, .ref u0])) :: (u12, .inl (cI, 80, .inl (wet))) :: (u13, .inr (2, [.int ah, .ref u14, .ref u0])) :: (u14, .inl (cI, 80, .inl (aw))) :: Z)) C 10 0 rfl ht0 (vp_in_nI (by omega) (by omega)) dX3_fill_6 rfl ?_
  rw [nI_clamp (n := a) (by omega)]
  refine g_aload_n C dX3_fill_7 rfl 0 rfl ?_
  refine g_get (v := .ref u9) (ci := 3) (Cn := RX3) (T := TX3) (N := 14) C k_X3_fill_inX3 gm0 rfl 10 (by decide) k_X3_fill_2 rfl rfl dX3_fill_8 ?_
  refine g_iconst (v := 0) C dX3_fill_11 (by decide) ?_
  refine g_iload_n C dX3_fill_12 rfl 1 rfl ?_
  refine g_iast (ws' := ((u0, .inr (3, [.int th, .int (nI np), .ref u1, .ref u2, .ref u3, .ref u4, .ref u5, .ref u6, .ref u7, .ref u8, .ref u9, .ref u10, .ref u11, .ref u13])) :: (u1, .inl (cI, 100, .inl (fi))) :: (u2, .inl (cI, 100, .inl (le))) :: (u3, .inl (cI, 100, .inl (ac))) :: (u4, .inl (cI, 100, .inl (se))) :: (u5, .inl (cI, 100, .inl (hh))) :: (u6, .inl (cI, 100, .inl (ou))) :: (u7, .inl (cI, 80, .inl (cover))) :: (u8, .inl (cI, 8, .inl (sun))) :: (u9, .inl (cI, 80, .inl (upd rw (0 : Int32).toNatClampNeg (nI a)))) :: (u10, .inl (cI, 80, .inl (upd fo a 1))) :: (u11, .inr (2, [.int (nI hr), .ref u12, .ref u0])) :: (u12, .inl (cI, 80, .inl (wet))) :: (u13, .inr (2, [.int ah, .ref u14, .ref u0])) :: (u14, .inl (cI, 80, .inl (aw))) :: Z)) C 9 0 rfl ht0 (vp_in_nI (n := 0) (by omega) (by omega)) dX3_fill_13 rfl ?_
  rw [show (0 : Int32).toNatClampNeg = 0 from rfl]
  refine g_iconst (v := 1) C dX3_fill_14 (by decide) ?_
  refine g_istore_n (lv' := [(2, .int 1), (0, .ref u0), (1, .int (nI a))]) C dX3_fill_15 rfl (by decide) rfl ?_
  refine g_iconst (v := 0) C dX3_fill_16 (by decide) ?_
  refine g_istore_n (lv' := [(3, .int 0), (2, .int 1), (0, .ref u0), (1, .int (nI a))]) C dX3_fill_17 rfl (by decide) rfl ?_
  have lp18 : ∀ (n9 : Nat) (k : Nat) (S : Sg) (hT : flL cover (321 - k) k S = flP cover a fo rw) (hm : S.2.2 ≤ mkc S.1) (hi : k ≤ 320) (hn : 321 ≤ k + n9), G p l e ({ frames := 3, cells := 0, slots := 0, locals := 66 } : Room) s m args below meth c D A s.heap 5 0 0 Q 18 [(0, .ref u0), (1, .int (nI a)), (2, .int (nI S.2.2)), (3, .int (nI k))] [] ((u0, .inr (3, [.int th, .int (nI np), .ref u1, .ref u2, .ref u3, .ref u4, .ref u5, .ref u6, .ref u7, .ref u8, .ref u9, .ref u10, .ref u11, .ref u13])) :: (u1, .inl (cI, 100, .inl (fi))) :: (u2, .inl (cI, 100, .inl (le))) :: (u3, .inl (cI, 100, .inl (ac))) :: (u4, .inl (cI, 100, .inl (se))) :: (u5, .inl (cI, 100, .inl (hh))) :: (u6, .inl (cI, 100, .inl (ou))) :: (u7, .inl (cI, 80, .inl (cover))) :: (u8, .inl (cI, 8, .inl (sun))) :: (u9, .inl (cI, 80, .inl (S.2.1))) :: (u10, .inl (cI, 80, .inl (S.1))) :: (u11, .inr (2, [.int (nI hr), .ref u12, .ref u0])) :: (u12, .inl (cI, 80, .inl (wet))) :: (u13, .inr (2, [.int ah, .ref u14, .ref u0])) :: (u14, .inl (cI, 80, .inl (aw))) :: Z) := by
    intro n9
    induction n9 with
    | zero =>
      intro k S hT hm hi hn
      exfalso; omega
    | succ n9 ih =>
      intro k S hT hm hi hn
      have hmk := mkc_le S.1
      refine g_iload_n C dX3_fill_18 rfl 3 rfl ?_
      refine g_iconst (v := 4) C dX3_fill_19 (by decide) ?_
      refine g_iload_n C dX3_fill_20 rfl 2 rfl ?_
      refine g_imul C dX3_fill_21 ?_
      refine g_eqi (x := 4 * (nI S.2.2)) (y := nI (4 * S.2.2)) (mul4N _) ?_
      refine g_icmp_ge (tgt := 96) C dX3_fill_22 (by decide) (fun c_1 => ?_) (fun c_1 => ?_)
      · skip
        rw [nI_leI (by omega) (by omega)] at c_1
        refine g_iload_n C dX3_fill_96 rfl 2 rfl ?_
        refine g_iret C hQ (Nat.le_of_ble_eq_true rfl) (Nat.le_of_ble_eq_true rfl) dX3_fill_97 ?_
        have e : S = flP cover a fo rw := by rw [← hT]; exact (flL_end (by omega) (by omega)).symm
        exact ⟨by rw [e], by rw [e]⟩
      · skip
        rw [nI_leI (by omega) (by omega)] at c_1
        refine g_aload_n C dX3_fill_25 rfl 0 rfl ?_
        refine g_get (v := .ref u9) (ci := 3) (Cn := RX3) (T := TX3) (N := 14) C k_X3_fill_inX3 gm0 rfl 10 (by decide) k_X3_fill_2 rfl rfl dX3_fill_26 ?_
        refine g_iload_n C dX3_fill_29 rfl 3 rfl ?_
        refine g_iconst (v := 4) C dX3_fill_30 (by decide) ?_
        refine g_idiv C dX3_fill_31 (by decide) ?_
        refine g_eqi (x := (nI k) / 4) (y := nI (k / 4)) (divI k 4 (by omega) (by omega) (by omega) rfl) ?_
        refine g_iald C 0 (gmT (gmT (gmT (gmT (gmT (gmT (gmT (gmT (gmT gm0))))))))) ht0 (vp_in_nI (by omega) (by omega)) dX3_fill_32 ?_
        refine g_eqi (x := S.2.1 (nI (k / 4)).toNatClampNeg) (y := S.2.1 (k / 4)) (by rw [nI_clamp (by omega)]) ?_
        refine g_iload_n C dX3_fill_33 rfl 3 rfl ?_
        refine g_iconst (v := 4) C dX3_fill_34 (by decide) ?_
        refine g_irem C dX3_fill_35 (by decide) ?_
        refine g_eqi (x := (nI k) - (nI k) / 4 * 4) (y := nI (k % 4)) (remI k 4 (by omega) (by omega) (by omega) rfl) ?_
        refine g_callS (As := [.int (S.2.1 (k / 4)), .int (nI (k % 4))]) (rest := []) C (c_X3_beside l D tys ((u0, .inr (3, [.int th, .int (nI np), .ref u1, .ref u2, .ref u3, .ref u4, .ref u5, .ref u6, .ref u7, .ref u8, .ref u9, .ref u10, .ref u11, .ref u13])) :: (u1, .inl (cI, 100, .inl (fi))) :: (u2, .inl (cI, 100, .inl (le))) :: (u3, .inl (cI, 100, .inl (ac))) :: (u4, .inl (cI, 100, .inl (se))) :: (u5, .inl (cI, 100, .inl (hh))) :: (u6, .inl (cI, 100, .inl (ou))) :: (u7, .inl (cI, 80, .inl (cover))) :: (u8, .inl (cI, 8, .inl (sun))) :: (u9, .inl (cI, 80, .inl (S.2.1))) :: (u10, .inl (cI, 80, .inl (S.1))) :: (u11, .inr (2, [.int (nI hr), .ref u12, .ref u0])) :: (u12, .inl (cI, 80, .inl (wet))) :: (u13, .inr (2, [.int ah, .ref u14, .ref u0])) :: (u14, .inl (cI, 80, .inl (aw))) :: Z) (S.2.1 (k / 4)) (k % 4) (by omega)) (va_cwS 2 C.ts gX3_fill_X3_beside rfl rfl rfl (by decide +kernel) ⟨(Nat.le_of_ble_eq_true rfl), (Nat.le_of_ble_eq_true rfl)⟩) rfl rfl (Nat.le_of_ble_eq_true rfl) dX3_fill_36 (Nat.le_of_ble_eq_true rfl) (Nat.le_of_ble_eq_true rfl) (g_is (x := .int (bes (S.2.1 (k / 4)) (k % 4))) (W1 := ((u0, .inr (3, [.int th, .int (nI np), .ref u1, .ref u2, .ref u3, .ref u4, .ref u5, .ref u6, .ref u7, .ref u8, .ref u9, .ref u10, .ref u11, .ref u13])) :: (u1, .inl (cI, 100, .inl (fi))) :: (u2, .inl (cI, 100, .inl (le))) :: (u3, .inl (cI, 100, .inl (ac))) :: (u4, .inl (cI, 100, .inl (se))) :: (u5, .inl (cI, 100, .inl (hh))) :: (u6, .inl (cI, 100, .inl (ou))) :: (u7, .inl (cI, 80, .inl (cover))) :: (u8, .inl (cI, 8, .inl (sun))) :: (u9, .inl (cI, 80, .inl (S.2.1))) :: (u10, .inl (cI, 80, .inl (S.1))) :: (u11, .inr (2, [.int (nI hr), .ref u12, .ref u0])) :: (u12, .inl (cI, 80, .inl (wet))) :: (u13, .inr (2, [.int ah, .ref u14, .ref u0])) :: (u14, .inl (cI, 80, .inl (aw))) :: Z)) ?_)
        refine g_istore (lv' := [(4, .int (bes (S.2.1 (k / 4)) (k % 4))), (0, .ref u0), (1, .int (nI a)), (2, .int (nI S.2.2)), (3, .int (nI k))]) C dX3_fill_39 (by decide) rfl ?_
        refine g_iload C dX3_fill_41 0 rfl ?_
        refine g_iconst (v := (-1)) C dX3_fill_43 (by decide) ?_
        refine g_icmp_eq (tgt := 90) C dX3_fill_44 (by decide) (fun c_2 => ?_) (fun c_2 => ?_)
        · skip
          refine g_iinc (v := nI (k + 1)) (lv' := [(3, .int (nI (k + 1))), (4, .int (bes (S.2.1 (k / 4)) (k % 4))), (0, .ref u0), (1, .int (nI a)), (2, .int (nI S.2.2))]) C dX3_fill_90 4 rfl (by exact nI_add _ 1) (by decide) rfl ?_
          refine g_goto (tgt := 18) C dX3_fill_93 (by decide) ?_
          refine g_sub [2, 3, 4, 0] (lv' := [(0, .ref u0), (1, .int (nI a)), (2, .int (nI S.2.2)), (3, .int (nI (k + 1)))]) rfl ?_
          have e : fl1 cover (S.2.1 (k / 4)) (k % 4) S = S := by rw [fl1, if_neg (by rintro ⟨x1, x2, x3⟩; contradiction)]
          exact ih (k + 1) S (by rw [← hT, flL_step (k := k) (S := S) (by omega) (by omega), e]) hm (by omega) (by omega)
        · skip
          obtain ⟨j, hj, hbj⟩ := bes_in c_2
          refine g_aload_n C dX3_fill_47 rfl 1 rfl ?_
          refine g_get (v := .ref u7) (ci := 3) (Cn := RX3) (T := TX3) (N := 14) C k_X3_fill_inX3 gm0 rfl 8 (by decide) k_X3_fill_3 rfl rfl dX3_fill_48 ?_
          refine g_iload C dX3_fill_51 0 rfl ?_
          refine g_iald C 0 (gmT (gmT (gmT (gmT (gmT (gmT (gmT gm0))))))) ht0 (by rw [hbj]; exact vp_in_nI hj (by omega)) dX3_fill_53 ?_
          refine g_iconst (v := (-1)) C dX3_fill_54 (by decide) ?_
          refine g_icmp_ne (tgt := 90) C dX3_fill_55 (by decide) (fun c_3 => ?_) (fun c_3 => ?_)
          · skip
            refine g_iinc (v := nI (k + 1)) (lv' := [(3, .int (nI (k + 1))), (4, .int (bes (S.2.1 (k / 4)) (k % 4))), (0, .ref u0), (1, .int (nI a)), (2, .int (nI S.2.2))]) C dX3_fill_90 4 rfl (by exact nI_add _ 1) (by decide) rfl ?_
            refine g_goto (tgt := 18) C dX3_fill_93 (by decide) ?_
            refine g_sub [2, 3, 4, 0] (lv' := [(0, .ref u0), (1, .int (nI a)), (2, .int (nI S.2.2)), (3, .int (nI (k + 1)))]) rfl ?_
            have e : fl1 cover (S.2.1 (k / 4)) (k % 4) S = S := by rw [fl1, if_neg (by rintro ⟨x1, x2, x3⟩; contradiction)]
            exact ih (k + 1) S (by rw [← hT, flL_step (k := k) (S := S) (by omega) (by omega), e]) hm (by omega) (by omega)
          · skip
            refine g_aload_n C dX3_fill_58 rfl 1 rfl ?_
            refine g_get (v := .ref u10) (ci := 3) (Cn := RX3) (T := TX3) (N := 14) C k_X3_fill_inX3 gm0 rfl 11 (by decide) k_X3_fill_1 rfl rfl dX3_fill_59 ?_
            refine g_iload C dX3_fill_62 0 rfl ?_
            refine g_iald C 0 (gmT (gmT (gmT (gmT (gmT (gmT (gmT (gmT (gmT (gmT gm0)))))))))) ht0 (by rw [hbj]; exact vp_in_nI hj (by omega)) dX3_fill_64 ?_
            refine g_if_eq (tgt := 71) C dX3_fill_65 (by decide) (fun c_4 => ?_) (fun c_4 => ?_)
            · skip
              have h80 : mkc S.1 < 80 := mkc_lt (k := vn (bes (S.2.1 (k / 4)) (k % 4))) (by rw [hbj, vn, nI_clamp (by omega)]; exact hj) c_4
              refine g_aload_n C dX3_fill_71 rfl 1 rfl ?_
              refine g_get (v := .ref u10) (ci := 3) (Cn := RX3) (T := TX3) (N := 14) C k_X3_fill_inX3 gm0 rfl 11 (by decide) k_X3_fill_1 rfl rfl dX3_fill_72 ?_
              refine g_iload C dX3_fill_75 0 rfl ?_
              refine g_iconst (v := 1) C dX3_fill_77 (by decide) ?_
              refine g_iast (ws' := ((u0, .inr (3, [.int th, .int (nI np), .ref u1, .ref u2, .ref u3, .ref u4, .ref u5, .ref u6, .ref u7, .ref u8, .ref u9, .ref u10, .ref u11, .ref u13])) :: (u1, .inl (cI, 100, .inl (fi))) :: (u2, .inl (cI, 100, .inl (le))) :: (u3, .inl (cI, 100, .inl (ac))) :: (u4, .inl (cI, 100, .inl (se))) :: (u5, .inl (cI, 100, .inl (hh))) :: (u6, .inl (cI, 100, .inl (ou))) :: (u7, .inl (cI, 80, .inl (cover))) :: (u8, .inl (cI, 8, .inl (sun))) :: (u9, .inl (cI, 80, .inl (S.2.1))) :: (u10, .inl (cI, 80, .inl (upd S.1 (bes (S.2.1 (k / 4)) (k % 4)).toNatClampNeg 1))) :: (u11, .inr (2, [.int (nI hr), .ref u12, .ref u0])) :: (u12, .inl (cI, 80, .inl (wet))) :: (u13, .inr (2, [.int ah, .ref u14, .ref u0])) :: (u14, .inl (cI, 80, .inl (aw))) :: Z)) C 10 0 rfl ht0 (by rw [hbj]; exact vp_in_nI hj (by omega)) dX3_fill_78 rfl ?_
              refine g_aload_n C dX3_fill_79 rfl 1 rfl ?_
              refine g_get (v := .ref u9) (ci := 3) (Cn := RX3) (T := TX3) (N := 14) C k_X3_fill_inX3 gm0 rfl 10 (by decide) k_X3_fill_2 rfl rfl dX3_fill_80 ?_
              refine g_iload_n C dX3_fill_83 rfl 3 rfl ?_
              refine g_iload C dX3_fill_84 0 rfl ?_
              refine g_iast (ws' := ((u0, .inr (3, [.int th, .int (nI np), .ref u1, .ref u2, .ref u3, .ref u4, .ref u5, .ref u6, .ref u7, .ref u8, .ref u9, .ref u10, .ref u11, .ref u13])) :: (u1, .inl (cI, 100, .inl (fi))) :: (u2, .inl (cI, 100, .inl (le))) :: (u3, .inl (cI, 100, .inl (ac))) :: (u4, .inl (cI, 100, .inl (se))) :: (u5, .inl (cI, 100, .inl (hh))) :: (u6, .inl (cI, 100, .inl (ou))) :: (u7, .inl (cI, 80, .inl (cover))) :: (u8, .inl (cI, 8, .inl (sun))) :: (u9, .inl (cI, 80, .inl (upd S.2.1 (nI S.2.2).toNatClampNeg (bes (S.2.1 (k / 4)) (k % 4))))) :: (u10, .inl (cI, 80, .inl (upd S.1 (bes (S.2.1 (k / 4)) (k % 4)).toNatClampNeg 1))) :: (u11, .inr (2, [.int (nI hr), .ref u12, .ref u0])) :: (u12, .inl (cI, 80, .inl (wet))) :: (u13, .inr (2, [.int ah, .ref u14, .ref u0])) :: (u14, .inl (cI, 80, .inl (aw))) :: Z)) C 9 0 rfl ht0 (vp_in_nI (by omega) (by omega)) dX3_fill_86 rfl ?_
              rw [nI_clamp (n := S.2.2) (by omega)]
              refine g_iinc (v := nI (S.2.2 + 1)) (lv' := [(2, .int (nI (S.2.2 + 1))), (4, .int (bes (S.2.1 (k / 4)) (k % 4))), (0, .ref u0), (1, .int (nI a)), (3, .int (nI k))]) C dX3_fill_87 3 rfl (by exact nI_add _ 1) (by decide) rfl ?_
              refine g_iinc (v := nI (k + 1)) (lv' := [(3, .int (nI (k + 1))), (2, .int (nI (S.2.2 + 1))), (4, .int (bes (S.2.1 (k / 4)) (k % 4))), (0, .ref u0), (1, .int (nI a))]) C dX3_fill_90 4 rfl (by exact nI_add _ 1) (by decide) rfl ?_
              refine g_goto (tgt := 18) C dX3_fill_93 (by decide) ?_
              refine g_sub [3, 4, 1, 0] (lv' := [(0, .ref u0), (1, .int (nI a)), (2, .int (nI (S.2.2 + 1))), (3, .int (nI (k + 1)))]) rfl ?_
              have e : fl1 cover (S.2.1 (k / 4)) (k % 4) S = (upd S.1 (vn (bes (S.2.1 (k / 4)) (k % 4))) 1, upd S.2.1 S.2.2 (bes (S.2.1 (k / 4)) (k % 4)), S.2.2 + 1) := by rw [fl1, if_pos ⟨by assumption, by assumption, by assumption⟩]
              exact ih (k + 1) (upd S.1 (vn (bes (S.2.1 (k / 4)) (k % 4))) 1, upd S.2.1 S.2.2 (bes (S.2.1 (k / 4)) (k % 4)), S.2.2 + 1) (by rw [← hT, flL_step (k := k) (S := S) (by omega) (by omega), e]) (by show S.2.2 + 1 ≤ mkc (upd S.1 (vn (bes (S.2.1 (k / 4)) (k % 4))) 1); rw [mkc_up (by rw [hbj, vn, nI_clamp (by omega)]; exact hj) (by assumption)]; omega) (by omega) (by omega)
            · skip
              refine g_goto (tgt := 90) C dX3_fill_68 (by decide) ?_
              refine g_iinc (v := nI (k + 1)) (lv' := [(3, .int (nI (k + 1))), (4, .int (bes (S.2.1 (k / 4)) (k % 4))), (0, .ref u0), (1, .int (nI a)), (2, .int (nI S.2.2))]) C dX3_fill_90 4 rfl (by exact nI_add _ 1) (by decide) rfl ?_
              refine g_goto (tgt := 18) C dX3_fill_93 (by decide) ?_
              refine g_sub [2, 3, 4, 0] (lv' := [(0, .ref u0), (1, .int (nI a)), (2, .int (nI S.2.2)), (3, .int (nI (k + 1)))]) rfl ?_
              have e : fl1 cover (S.2.1 (k / 4)) (k % 4) S = S := by rw [fl1, if_neg (by rintro ⟨x1, x2, x3⟩; contradiction)]
              exact ih (k + 1) S (by rw [← hT, flL_step (k := k) (S := S) (by omega) (by omega), e]) hm (by omega) (by omega)
  refine g_sub [2, 3, 1, 0] (lv' := [(0, .ref u0), (1, .int (nI a)), (2, .int 1), (3, .int 0)]) rfl ?_
  exact lp18 321 0 (flS fo rw a) rfl (by show 1 ≤ mkc (upd fo a 1); rw [mkc_up ha hfa]; omega) (by omega) (by omega)

theorem k_X3_gaps_inX3 : ∀ w ∈ wsX30, w ∈ wsX3_gaps := by decide +kernel
theorem k_X3_gaps_1 : Cond.fieldLink RX3 28 "WetMosaicModel" "cover" "[I" ∈ wsX3_gaps := by decide +kernel
theorem k_X3_gaps_2 : Cond.fieldLink RX3 37 "WetMosaicModel" "found" "[I" ∈ wsX3_gaps := by decide +kernel
set_option maxHeartbeats 4000000 in
set_option maxRecDepth 100000 in
theorem c_X3_gaps (l : Launch) (D : va_G) (tys : List (ClassId × FieldType)) (cI : ClassId) (ht0 : tys[0]? = some (cI, .int)) (u0 u1 u2 u3 u4 u5 u6 u7 u8 u9 u10 u11 u12 u13 u14 np : Nat) (th : Int32) (fi le ac se hh ou cover sun rw fo wet aw : Nat → Int32) (hr : Nat) (ah : Int32) (Z : va_W) : gM l yX3_gaps wsX3_gaps ({ frames := 4, cells := 0, slots := 0, locals := 90 } : Room) D tys [.ref u0] ((u0, .inr (3, [.int th, .int (nI np), .ref u1, .ref u2, .ref u3, .ref u4, .ref u5, .ref u6, .ref u7, .ref u8, .ref u9, .ref u10, .ref u11, .ref u13])) :: (u1, .inl (cI, 100, .inl (fi))) :: (u2, .inl (cI, 100, .inl (le))) :: (u3, .inl (cI, 100, .inl (ac))) :: (u4, .inl (cI, 100, .inl (se))) :: (u5, .inl (cI, 100, .inl (hh))) :: (u6, .inl (cI, 100, .inl (ou))) :: (u7, .inl (cI, 80, .inl (cover))) :: (u8, .inl (cI, 8, .inl (sun))) :: (u9, .inl (cI, 80, .inl (rw))) :: (u10, .inl (cI, 80, .inl (fo))) :: (u11, .inr (2, [.int (nI hr), .ref u12, .ref u0])) :: (u12, .inl (cI, 80, .inl (wet))) :: (u13, .inr (2, [.int ah, .ref u14, .ref u0])) :: (u14, .inl (cI, 80, .inl (aw))) :: Z) (gIs (some (.int (nI (gmS cover rw 80).1))) ((u0, .inr (3, [.int th, .int (nI np), .ref u1, .ref u2, .ref u3, .ref u4, .ref u5, .ref u6, .ref u7, .ref u8, .ref u9, .ref u10, .ref u11, .ref u13])) :: (u1, .inl (cI, 100, .inl (fi))) :: (u2, .inl (cI, 100, .inl (le))) :: (u3, .inl (cI, 100, .inl (ac))) :: (u4, .inl (cI, 100, .inl (se))) :: (u5, .inl (cI, 100, .inl (hh))) :: (u6, .inl (cI, 100, .inl (ou))) :: (u7, .inl (cI, 80, .inl (cover))) :: (u8, .inl (cI, 8, .inl (sun))) :: (u9, .inl (cI, 80, .inl ((gmS cover rw 80).2.2))) :: (u10, .inl (cI, 80, .inl ((gmS cover rw 80).2.1))) :: (u11, .inr (2, [.int (nI hr), .ref u12, .ref u0])) :: (u12, .inl (cI, 80, .inl (wet))) :: (u13, .inr (2, [.int ah, .ref u14, .ref u0])) :: (u14, .inl (cI, 80, .inl (aw))) :: Z)) 0 0 := by
  refine gM_of (by decide +kernel) rfl (Nat.le_of_ble_eq_true rfl) ?_
  intro p e s m args below meth c A Q hin C hQ
  refine g_sub [0] (lv' := [(0, .ref u0)]) rfl ?_
  refine g_aload_n C dX3_gaps_0 rfl 0 rfl ?_
  refine g_callV (ci := 3) (Cn := RX3) (As := []) (rest := []) C gm0 rfl rfl (c_X3_clear l D tys cI ht0 u0 u1 u2 u3 u4 u5 u6 u7 u8 u9 u10 u11 u12 u13 u14 np th fi le ac se hh ou cover sun rw fo wet aw hr ah Z) (cwV 0 C.ts gX3_gaps_X3_clear rfl rfl rfl (by decide +kernel) ⟨(Nat.le_of_ble_eq_true rfl), (Nat.le_of_ble_eq_true rfl)⟩) rfl rfl (Nat.le_of_ble_eq_true rfl) dX3_gaps_1 (Nat.le_of_ble_eq_true rfl) (Nat.le_of_ble_eq_true rfl) (g_isV (W1 := ((u0, .inr (3, [.int th, .int (nI np), .ref u1, .ref u2, .ref u3, .ref u4, .ref u5, .ref u6, .ref u7, .ref u8, .ref u9, .ref u10, .ref u11, .ref u13])) :: (u1, .inl (cI, 100, .inl (fi))) :: (u2, .inl (cI, 100, .inl (le))) :: (u3, .inl (cI, 100, .inl (ac))) :: (u4, .inl (cI, 100, .inl (se))) :: (u5, .inl (cI, 100, .inl (hh))) :: (u6, .inl (cI, 100, .inl (ou))) :: (u7, .inl (cI, 80, .inl (cover))) :: (u8, .inl (cI, 8, .inl (sun))) :: (u9, .inl (cI, 80, .inl (rw))) :: (u10, .inl (cI, 80, .inl (fun _ => 0))) :: (u11, .inr (2, [.int (nI hr), .ref u12, .ref u0])) :: (u12, .inl (cI, 80, .inl (wet))) :: (u13, .inr (2, [.int ah, .ref u14, .ref u0])) :: (u14, .inl (cI, 80, .inl (aw))) :: Z)) ?_)
  refine g_iconst (v := 0) C dX3_gaps_4 (by decide) ?_
  refine g_istore_n (lv' := [(1, .int 0), (0, .ref u0)]) C dX3_gaps_5 rfl (by decide) rfl ?_
  refine g_iconst (v := 0) C dX3_gaps_6 (by decide) ?_
  refine g_istore_n (lv' := [(2, .int 0), (1, .int 0), (0, .ref u0)]) C dX3_gaps_7 rfl (by decide) rfl ?_
  have lp8 : ∀ (n9 : Nat) (z q : Nat) (hq : q = (gmS cover rw z).1) (hi : z ≤ 80) (hn : 81 ≤ z + n9), G p l e ({ frames := 4, cells := 0, slots := 0, locals := 90 } : Room) s m args below meth c D A s.heap 3 0 0 Q 8 [(0, .ref u0), (1, .int (nI q)), (2, .int (nI z))] [] ((u0, .inr (3, [.int th, .int (nI np), .ref u1, .ref u2, .ref u3, .ref u4, .ref u5, .ref u6, .ref u7, .ref u8, .ref u9, .ref u10, .ref u11, .ref u13])) :: (u1, .inl (cI, 100, .inl (fi))) :: (u2, .inl (cI, 100, .inl (le))) :: (u3, .inl (cI, 100, .inl (ac))) :: (u4, .inl (cI, 100, .inl (se))) :: (u5, .inl (cI, 100, .inl (hh))) :: (u6, .inl (cI, 100, .inl (ou))) :: (u7, .inl (cI, 80, .inl (cover))) :: (u8, .inl (cI, 8, .inl (sun))) :: (u9, .inl (cI, 80, .inl ((gmS cover rw z).2.2))) :: (u10, .inl (cI, 80, .inl ((gmS cover rw z).2.1))) :: (u11, .inr (2, [.int (nI hr), .ref u12, .ref u0])) :: (u12, .inl (cI, 80, .inl (wet))) :: (u13, .inr (2, [.int ah, .ref u14, .ref u0])) :: (u14, .inl (cI, 80, .inl (aw))) :: Z) := by
    intro n9
    induction n9 with
    | zero =>
      intro z q hq hi hn
      exfalso; omega
    | succ n9 ih =>
      intro z q hq hi hn
      refine g_iload_n C dX3_gaps_8 rfl 2 rfl ?_
      refine g_bipush (v := 80) C dX3_gaps_9 (by decide) ?_
      refine g_icmp_ge (tgt := 51) C dX3_gaps_11 (by decide) (fun c_1 => ?_) (fun c_1 => ?_)
      · skip
        rw [show (80 : Int32) = nI 80 from rfl, nI_leI (by omega) (by omega)] at c_1
        refine g_iload_n C dX3_gaps_51 rfl 1 rfl ?_
        refine g_iret C hQ (Nat.le_of_ble_eq_true rfl) (Nat.le_of_ble_eq_true rfl) dX3_gaps_52 ?_
        have e : z = 80 := by omega
        subst e
        exact ⟨by rw [hq], rfl⟩
      · skip
        rw [show (80 : Int32) = nI 80 from rfl, nI_leI (by omega) (by omega)] at c_1
        refine g_aload_n C dX3_gaps_14 rfl 0 rfl ?_
        refine g_get (v := .ref u7) (ci := 3) (Cn := RX3) (T := TX3) (N := 14) C k_X3_gaps_inX3 gm0 rfl 8 (by decide) k_X3_gaps_1 rfl rfl dX3_gaps_15 ?_
        refine g_iload_n C dX3_gaps_18 rfl 2 rfl ?_
        refine g_iald C 0 (gmT (gmT (gmT (gmT (gmT (gmT (gmT gm0))))))) ht0 (vp_in_nI (by omega) (by omega)) dX3_gaps_19 ?_
        refine g_eqi (x := cover (nI z).toNatClampNeg) (y := cover z) (by rw [nI_clamp (by omega)]) ?_
        refine g_iconst (v := (-1)) C dX3_gaps_20 (by decide) ?_
        refine g_icmp_ne (tgt := 45) C dX3_gaps_21 (by decide) (fun c_2 => ?_) (fun c_2 => ?_)
        · skip
          refine g_iinc (v := nI (z + 1)) (lv' := [(2, .int (nI (z + 1))), (0, .ref u0), (1, .int (nI q))]) C dX3_gaps_45 2 rfl (by exact nI_add _ 1) (by decide) rfl ?_
          refine g_goto (tgt := 8) C dX3_gaps_48 (by decide) ?_
          refine g_sub [1, 2, 0] (lv' := [(0, .ref u0), (1, .int (nI q)), (2, .int (nI (z + 1)))]) rfl ?_
          have e : gmS cover rw (z + 1) = gmS cover rw z := by rw [gmS, if_neg (by rintro ⟨x1, x2⟩; contradiction)]
          have eq := ih (z + 1) q (by rw [e, hq]) (by omega) (by omega)
          rw [e] at eq
          exact eq
        · skip
          refine g_aload_n C dX3_gaps_24 rfl 0 rfl ?_
          refine g_get (v := .ref u10) (ci := 3) (Cn := RX3) (T := TX3) (N := 14) C k_X3_gaps_inX3 gm0 rfl 11 (by decide) k_X3_gaps_2 rfl rfl dX3_gaps_25 ?_
          refine g_iload_n C dX3_gaps_28 rfl 2 rfl ?_
          refine g_iald C 0 (gmT (gmT (gmT (gmT (gmT (gmT (gmT (gmT (gmT (gmT gm0)))))))))) ht0 (vp_in_nI (by omega) (by omega)) dX3_gaps_29 ?_
          refine g_eqi (x := ((gmS cover rw z).2.1) (nI z).toNatClampNeg) (y := ((gmS cover rw z).2.1) z) (by rw [nI_clamp (by omega)]) ?_
          refine g_if_eq (tgt := 36) C dX3_gaps_30 (by decide) (fun c_3 => ?_) (fun c_3 => ?_)
          · skip
            refine g_aload_n C dX3_gaps_36 rfl 0 rfl ?_
            refine g_iload_n C dX3_gaps_37 rfl 2 rfl ?_
            refine g_callV (ci := 3) (Cn := RX3) (As := [.int (nI z)]) (rest := []) C gm0 rfl rfl (c_X3_fill l D tys cI ht0 u0 u1 u2 u3 u4 u5 u6 u7 u8 u9 u10 u11 u12 u13 u14 np th fi le ac se hh ou cover sun ((gmS cover rw z).2.2) ((gmS cover rw z).2.1) wet aw hr ah Z z (by omega) (by assumption)) (cwV 1 C.ts gX3_gaps_X3_fill rfl rfl rfl (by decide +kernel) ⟨(Nat.le_of_ble_eq_true rfl), (Nat.le_of_ble_eq_true rfl)⟩) rfl rfl (Nat.le_of_ble_eq_true rfl) dX3_gaps_38 (Nat.le_of_ble_eq_true rfl) (Nat.le_of_ble_eq_true rfl) (g_is (x := .int (nI (flP cover z ((gmS cover rw z).2.1) ((gmS cover rw z).2.2)).2.2)) (W1 := ((u0, .inr (3, [.int th, .int (nI np), .ref u1, .ref u2, .ref u3, .ref u4, .ref u5, .ref u6, .ref u7, .ref u8, .ref u9, .ref u10, .ref u11, .ref u13])) :: (u1, .inl (cI, 100, .inl (fi))) :: (u2, .inl (cI, 100, .inl (le))) :: (u3, .inl (cI, 100, .inl (ac))) :: (u4, .inl (cI, 100, .inl (se))) :: (u5, .inl (cI, 100, .inl (hh))) :: (u6, .inl (cI, 100, .inl (ou))) :: (u7, .inl (cI, 80, .inl (cover))) :: (u8, .inl (cI, 8, .inl (sun))) :: (u9, .inl (cI, 80, .inl ((flP cover z ((gmS cover rw z).2.1) ((gmS cover rw z).2.2)).2.1))) :: (u10, .inl (cI, 80, .inl ((flP cover z ((gmS cover rw z).2.1) ((gmS cover rw z).2.2)).1))) :: (u11, .inr (2, [.int (nI hr), .ref u12, .ref u0])) :: (u12, .inl (cI, 80, .inl (wet))) :: (u13, .inr (2, [.int ah, .ref u14, .ref u0])) :: (u14, .inl (cI, 80, .inl (aw))) :: Z)) ?_)
            refine g_pop C dX3_gaps_41 rfl ?_
            refine g_iinc (v := nI (q + 1)) (lv' := [(1, .int (nI (q + 1))), (0, .ref u0), (2, .int (nI z))]) C dX3_gaps_42 1 rfl (by exact nI_add _ 1) (by decide) rfl ?_
            refine g_iinc (v := nI (z + 1)) (lv' := [(2, .int (nI (z + 1))), (1, .int (nI (q + 1))), (0, .ref u0)]) C dX3_gaps_45 2 rfl (by exact nI_add _ 1) (by decide) rfl ?_
            refine g_goto (tgt := 8) C dX3_gaps_48 (by decide) ?_
            refine g_sub [2, 1, 0] (lv' := [(0, .ref u0), (1, .int (nI (q + 1))), (2, .int (nI (z + 1)))]) rfl ?_
            have e : gmS cover rw (z + 1) = ((gmS cover rw z).1 + 1, (flP cover z (gmS cover rw z).2.1 (gmS cover rw z).2.2).1, (flP cover z (gmS cover rw z).2.1 (gmS cover rw z).2.2).2.1) := by rw [gmS, if_pos ⟨by assumption, by assumption⟩]
            have eq := ih (z + 1) (q + 1) (by rw [e, hq]) (by omega) (by omega)
            rw [e] at eq
            exact eq
          · skip
            refine g_goto (tgt := 45) C dX3_gaps_33 (by decide) ?_
            refine g_iinc (v := nI (z + 1)) (lv' := [(2, .int (nI (z + 1))), (0, .ref u0), (1, .int (nI q))]) C dX3_gaps_45 2 rfl (by exact nI_add _ 1) (by decide) rfl ?_
            refine g_goto (tgt := 8) C dX3_gaps_48 (by decide) ?_
            refine g_sub [1, 2, 0] (lv' := [(0, .ref u0), (1, .int (nI q)), (2, .int (nI (z + 1)))]) rfl ?_
            have e : gmS cover rw (z + 1) = gmS cover rw z := by rw [gmS, if_neg (by rintro ⟨x1, x2⟩; contradiction)]
            have eq := ih (z + 1) q (by rw [e, hq]) (by omega) (by omega)
            rw [e] at eq
            exact eq
  refine g_sub [2, 1, 0] (lv' := [(0, .ref u0), (1, .int 0), (2, .int 0)]) rfl ?_
  exact lp8 81 0 0 rfl (by omega) (by omega)

theorem k_X3_counted_inX3 : ∀ w ∈ wsX30, w ∈ wsX3_counted := by decide +kernel
theorem k_X3_counted_1 : Cond.fieldLink RX3 45 "WetMosaicModel" "s" "LWetMosaicModel$State;" ∈ wsX3_counted := by decide +kernel
theorem k_X3_counted_inX2 : ∀ w ∈ wsX20, w ∈ wsX3_counted := by decide +kernel
theorem k_X3_counted_3 : Cond.fieldLink RX3 63 "WetMosaicModel" "pieces" "I" ∈ wsX3_counted := by decide +kernel
theorem k_X3_counted_4 : Cond.fieldLink RX3 25 "WetMosaicModel" "isOut" "[I" ∈ wsX3_counted := by decide +kernel
set_option maxHeartbeats 4000000 in
set_option maxRecDepth 100000 in
theorem c_X3_counted (l : Launch) (D : va_G) (tys : List (ClassId × FieldType)) (cI : ClassId) (ht0 : tys[0]? = some (cI, .int)) (u0 u1 u2 u3 u4 u5 u6 u7 u8 u9 u10 u11 u12 u13 u14 np : Nat) (th : Int32) (fi le ac se hh ou cover sun rw fo wet aw : Nat → Int32) (hr : Nat) (ah : Int32) (Z : va_W) (P : Nat → Pd) (hnp : np ≤ 100) (hR : Mrel np P fi le ac se hh ou) (hg : Pok np P) (hcv : CovOk np cover) (hwt : WetOk wet) (w : Nat) (hw : w ≤ 7) : gM l yX3_counted wsX3_counted ({ frames := 5, cells := 0, slots := 0, locals := 112 } : Room) D tys [.ref u0, .int (nI w)] ((u0, .inr (3, [.int th, .int (nI np), .ref u1, .ref u2, .ref u3, .ref u4, .ref u5, .ref u6, .ref u7, .ref u8, .ref u9, .ref u10, .ref u11, .ref u13])) :: (u1, .inl (cI, 100, .inl (fi))) :: (u2, .inl (cI, 100, .inl (le))) :: (u3, .inl (cI, 100, .inl (ac))) :: (u4, .inl (cI, 100, .inl (se))) :: (u5, .inl (cI, 100, .inl (hh))) :: (u6, .inl (cI, 100, .inl (ou))) :: (u7, .inl (cI, 80, .inl (cover))) :: (u8, .inl (cI, 8, .inl (sun))) :: (u9, .inl (cI, 80, .inl (rw))) :: (u10, .inl (cI, 80, .inl (fo))) :: (u11, .inr (2, [.int (nI hr), .ref u12, .ref u0])) :: (u12, .inl (cI, 80, .inl (wet))) :: (u13, .inr (2, [.int ah, .ref u14, .ref u0])) :: (u14, .inl (cI, 80, .inl (aw))) :: Z) (gIs (some (.int (cntm np hr P wet cover rw w))) ((u0, .inr (3, [.int th, .int (nI np), .ref u1, .ref u2, .ref u3, .ref u4, .ref u5, .ref u6, .ref u7, .ref u8, .ref u9, .ref u10, .ref u11, .ref u13])) :: (u1, .inl (cI, 100, .inl (fi))) :: (u2, .inl (cI, 100, .inl (le))) :: (u3, .inl (cI, 100, .inl (ac))) :: (u4, .inl (cI, 100, .inl (se))) :: (u5, .inl (cI, 100, .inl (hh))) :: (u6, .inl (cI, 100, .inl (ou))) :: (u7, .inl (cI, 80, .inl (cover))) :: (u8, .inl (cI, 8, .inl (sun))) :: (u9, .inl (cI, 80, .inl ((cnmW cover rw fo w).2))) :: (u10, .inl (cI, 80, .inl ((cnmW cover rw fo w).1))) :: (u11, .inr (2, [.int (nI hr), .ref u12, .ref u0])) :: (u12, .inl (cI, 80, .inl (wet))) :: (u13, .inr (2, [.int ah, .ref u14, .ref u0])) :: (u14, .inl (cI, 80, .inl (aw))) :: Z)) 0 0 := by
  refine gM_of (by decide +kernel) rfl (Nat.le_of_ble_eq_true rfl) ?_
  intro p e s m args below meth c A Q hin C hQ
  refine g_sub [0, 1] (lv' := [(0, .ref u0), (1, .int (nI w))]) rfl ?_
  rcases (show w = 0 ∨ w = 1 ∨ w = 2 ∨ w = 3 ∨ w = 4 ∨ w = 5 ∨ w = 6 ∨ w = 7 by omega) with rfl | rfl | rfl | rfl | rfl | rfl | rfl | rfl
  · skip
    refine g_iconst (v := 0) C dX3_counted_0 (by decide) ?_
    refine g_istore_n (lv' := [(2, .int 0), (0, .ref u0), (1, .int (nI 0))]) C dX3_counted_1 rfl (by decide) rfl ?_
    refine g_iload_n C dX3_counted_2 rfl 2 rfl ?_
    refine g_tableIn (off := 41) (tgt := 44) C dX3_counted_3 (by decide) (by decide) (by decide) (by decide) ?_
    refine g_aload_n C dX3_counted_44 rfl 1 rfl ?_
    refine g_get (v := .ref u11) (ci := 3) (Cn := RX3) (T := TX3) (N := 14) C k_X3_counted_inX3 gm0 rfl 12 (by decide) k_X3_counted_1 rfl rfl dX3_counted_45 ?_
    refine g_getN (host := "WetMosaicModel") (v := .int (nI hr)) (ci := 2) (Cn := RX2) (T := TX2) (N := 3) C k_X3_counted_inX2 (gmT (gmT (gmT (gmT (gmT (gmT (gmT (gmT (gmT (gmT (gmT gm0))))))))))) rfl 0 (by decide) (by decide +kernel) rfl rfl dX3_counted_48 ?_
    refine g_iret C hQ (Nat.le_of_ble_eq_true rfl) (Nat.le_of_ble_eq_true rfl) dX3_counted_51 ?_
    exact ⟨rfl, rfl⟩
  · skip
    refine g_iconst (v := 0) C dX3_counted_0 (by decide) ?_
    refine g_istore_n (lv' := [(2, .int 0), (0, .ref u0), (1, .int (nI 1))]) C dX3_counted_1 rfl (by decide) rfl ?_
    refine g_iload_n C dX3_counted_2 rfl 2 rfl ?_
    refine g_tableIn (off := 49) (tgt := 52) C dX3_counted_3 (by decide) (by decide) (by decide) (by decide) ?_
    refine g_aload_n C dX3_counted_52 rfl 1 rfl ?_
    refine g_get (v := .int (nI np)) (ci := 3) (Cn := RX3) (T := TX3) (N := 14) C k_X3_counted_inX3 gm0 rfl 1 (by decide) k_X3_counted_3 rfl rfl dX3_counted_53 ?_
    refine g_iret C hQ (Nat.le_of_ble_eq_true rfl) (Nat.le_of_ble_eq_true rfl) dX3_counted_56 ?_
    exact ⟨rfl, rfl⟩
  · skip
    refine g_iconst (v := 0) C dX3_counted_0 (by decide) ?_
    refine g_istore_n (lv' := [(2, .int 0), (0, .ref u0), (1, .int (nI 2))]) C dX3_counted_1 rfl (by decide) rfl ?_
    refine g_iload_n C dX3_counted_2 rfl 2 rfl ?_
    refine g_tableIn (off := 54) (tgt := 57) C dX3_counted_3 (by decide) (by decide) (by decide) (by decide) ?_
    refine g_iconst (v := 0) C dX3_counted_57 (by decide) ?_
    refine g_istore_n (lv' := [(3, .int 0), (2, .int 0), (0, .ref u0), (1, .int (nI 2))]) C dX3_counted_58 rfl (by decide) rfl ?_
    have lp59 : ∀ (n9 : Nat) (i q : Nat) (hq : q = cnt (fun k => !qo (P k)) i) (hi : i ≤ np) (hn : np + 1 ≤ i + n9), G p l e ({ frames := 5, cells := 0, slots := 0, locals := 112 } : Room) s m args below meth c D A s.heap 7 0 0 Q 59 [(0, .ref u0), (1, .int (nI 2)), (2, .int (nI q)), (3, .int (nI i))] [] ((u0, .inr (3, [.int th, .int (nI np), .ref u1, .ref u2, .ref u3, .ref u4, .ref u5, .ref u6, .ref u7, .ref u8, .ref u9, .ref u10, .ref u11, .ref u13])) :: (u1, .inl (cI, 100, .inl (fi))) :: (u2, .inl (cI, 100, .inl (le))) :: (u3, .inl (cI, 100, .inl (ac))) :: (u4, .inl (cI, 100, .inl (se))) :: (u5, .inl (cI, 100, .inl (hh))) :: (u6, .inl (cI, 100, .inl (ou))) :: (u7, .inl (cI, 80, .inl (cover))) :: (u8, .inl (cI, 8, .inl (sun))) :: (u9, .inl (cI, 80, .inl (rw))) :: (u10, .inl (cI, 80, .inl (fo))) :: (u11, .inr (2, [.int (nI hr), .ref u12, .ref u0])) :: (u12, .inl (cI, 80, .inl (wet))) :: (u13, .inr (2, [.int ah, .ref u14, .ref u0])) :: (u14, .inl (cI, 80, .inl (aw))) :: Z) := by
      intro n9
      induction n9 with
      | zero =>
        intro i q hq hi hn
        exfalso; omega
      | succ n9 ih =>
        intro i q hq hi hn
        refine g_iload_n C dX3_counted_59 rfl 3 rfl ?_
        refine g_aload_n C dX3_counted_60 rfl 0 rfl ?_
        refine g_get (v := .int (nI np)) (ci := 3) (Cn := RX3) (T := TX3) (N := 14) C k_X3_counted_inX3 gm0 rfl 1 (by decide) k_X3_counted_3 rfl rfl dX3_counted_61 ?_
        refine g_icmp_ge (tgt := 84) C dX3_counted_64 (by decide) (fun c_1 => ?_) (fun c_1 => ?_)
        · skip
          rw [nI_leI (by omega) (by omega)] at c_1
          refine g_iload_n C dX3_counted_84 rfl 2 rfl ?_
          refine g_iret C hQ (Nat.le_of_ble_eq_true rfl) (Nat.le_of_ble_eq_true rfl) dX3_counted_85 ?_
          exact ⟨by rw [hq, show i = np by omega]; rfl, rfl⟩
        · skip
          rw [nI_leI (by omega) (by omega)] at c_1
          refine g_iload_n C dX3_counted_67 rfl 2 rfl ?_
          refine g_iconst (v := 1) C dX3_counted_68 (by decide) ?_
          refine g_aload_n C dX3_counted_69 rfl 0 rfl ?_
          refine g_get (v := .ref u6) (ci := 3) (Cn := RX3) (T := TX3) (N := 14) C k_X3_counted_inX3 gm0 rfl 7 (by decide) k_X3_counted_4 rfl rfl dX3_counted_70 ?_
          refine g_iload_n C dX3_counted_73 rfl 3 rfl ?_
          refine g_iald C 0 (gmT (gmT (gmT (gmT (gmT (gmT gm0)))))) ht0 (vp_in_nI (by omega) (by omega)) dX3_counted_74 ?_
          refine g_eqi (x := ou (nI i).toNatClampNeg) (y := gz (qo (P i))) (by rw [nI_clamp (by omega)]; exact (hR.1 i (by omega)).2.2.2.2.2) ?_
          refine g_isub C dX3_counted_75 ?_
          refine g_eqi (x := 1 - (gz (qo (P i)))) (y := gz (!qo (P i))) (gz_not _) ?_
          refine g_iadd C dX3_counted_76 ?_
          refine g_istore_n (lv' := [(2, .int ((nI q) + (gz (!qo (P i))))), (0, .ref u0), (1, .int (nI 2)), (3, .int (nI i))]) C dX3_counted_77 rfl (by decide) rfl ?_
          refine g_iinc (v := nI (i + 1)) (lv' := [(3, .int (nI (i + 1))), (2, .int ((nI q) + (gz (!qo (P i))))), (0, .ref u0), (1, .int (nI 2))]) C dX3_counted_78 3 rfl (by exact nI_add _ 1) (by decide) rfl ?_
          refine g_goto (tgt := 59) C dX3_counted_81 (by decide) ?_
          refine g_sub [2, 3, 1, 0] (lv' := [(0, .ref u0), (1, .int (nI 2)), (2, .int ((nI q) + (gz (!qo (P i))))), (3, .int (nI (i + 1)))]) rfl ?_
          cases ho : qo (P i)
          · rw [show gz (!false) = nI 1 from rfl, nI_add]
            exact ih (i + 1) _ (by rw [hq]; exact (cnt_t (by simp [ho])).symm) (by omega) (by omega)
          · rw [show gz (!true) = nI 0 from rfl, nI_add]
            exact ih (i + 1) _ (by rw [hq]; exact (cnt_f (by simp [ho])).symm) (by omega) (by omega)
    refine g_sub [2, 3, 1, 0] (lv' := [(0, .ref u0), (1, .int (nI 2)), (2, .int 0), (3, .int 0)]) rfl ?_
    exact lp59 (np + 1) 0 0 rfl (by omega) (by omega)
  · skip
    refine g_iconst (v := 0) C dX3_counted_0 (by decide) ?_
    refine g_istore_n (lv' := [(2, .int 0), (0, .ref u0), (1, .int (nI 3))]) C dX3_counted_1 rfl (by decide) rfl ?_
    refine g_iload_n C dX3_counted_2 rfl 2 rfl ?_
    refine g_tableIn (off := 83) (tgt := 86) C dX3_counted_3 (by decide) (by decide) (by decide) (by decide) ?_
    refine g_aload_n C dX3_counted_86 rfl 1 rfl ?_
    refine g_callV (ci := 3) (Cn := RX3) (As := []) (rest := []) C gm0 rfl rfl (c_X3_looseOnes l D tys cI ht0 ((u0, .inr (3, [.int th, .int (nI np), .ref u1, .ref u2, .ref u3, .ref u4, .ref u5, .ref u6, .ref u7, .ref u8, .ref u9, .ref u10, .ref u11, .ref u13])) :: (u1, .inl (cI, 100, .inl (fi))) :: (u2, .inl (cI, 100, .inl (le))) :: (u3, .inl (cI, 100, .inl (ac))) :: (u4, .inl (cI, 100, .inl (se))) :: (u5, .inl (cI, 100, .inl (hh))) :: (u6, .inl (cI, 100, .inl (ou))) :: (u7, .inl (cI, 80, .inl (cover))) :: (u8, .inl (cI, 8, .inl (sun))) :: (u9, .inl (cI, 80, .inl (rw))) :: (u10, .inl (cI, 80, .inl (fo))) :: (u11, .inr (2, [.int (nI hr), .ref u12, .ref u0])) :: (u12, .inl (cI, 80, .inl (wet))) :: (u13, .inr (2, [.int ah, .ref u14, .ref u0])) :: (u14, .inl (cI, 80, .inl (aw))) :: Z) u0 u1 u2 u3 u4 u5 u6 u7 u8 u9 u10 u11 u12 u13 u14 np th fi le ac se hh ou P hr wet cover hnp hR hg gm0 (gmT (gmT (gmT (gmT (gmT (gmT (gmT (gmT (gmT (gmT (gmT gm0))))))))))) (gmT (gmT (gmT (gmT (gmT (gmT (gmT (gmT (gmT (gmT (gmT (gmT gm0)))))))))))) (gmT gm0) (gmT (gmT gm0)) (gmT (gmT (gmT gm0))) (gmT (gmT (gmT (gmT gm0)))) (gmT (gmT (gmT (gmT (gmT gm0))))) (gmT (gmT (gmT (gmT (gmT (gmT gm0)))))) (gmT (gmT (gmT (gmT (gmT (gmT (gmT gm0)))))))) (cwV 0 C.ts gX3_counted_X3_looseOnes rfl rfl rfl (by decide +kernel) ⟨(Nat.le_of_ble_eq_true rfl), (Nat.le_of_ble_eq_true rfl)⟩) rfl rfl (Nat.le_of_ble_eq_true rfl) dX3_counted_87 (Nat.le_of_ble_eq_true rfl) (Nat.le_of_ble_eq_true rfl) (g_is (x := .int (nI (cnt (fun k => lsp (P k) wet) np))) (W1 := ((u0, .inr (3, [.int th, .int (nI np), .ref u1, .ref u2, .ref u3, .ref u4, .ref u5, .ref u6, .ref u7, .ref u8, .ref u9, .ref u10, .ref u11, .ref u13])) :: (u1, .inl (cI, 100, .inl (fi))) :: (u2, .inl (cI, 100, .inl (le))) :: (u3, .inl (cI, 100, .inl (ac))) :: (u4, .inl (cI, 100, .inl (se))) :: (u5, .inl (cI, 100, .inl (hh))) :: (u6, .inl (cI, 100, .inl (ou))) :: (u7, .inl (cI, 80, .inl (cover))) :: (u8, .inl (cI, 8, .inl (sun))) :: (u9, .inl (cI, 80, .inl (rw))) :: (u10, .inl (cI, 80, .inl (fo))) :: (u11, .inr (2, [.int (nI hr), .ref u12, .ref u0])) :: (u12, .inl (cI, 80, .inl (wet))) :: (u13, .inr (2, [.int ah, .ref u14, .ref u0])) :: (u14, .inl (cI, 80, .inl (aw))) :: Z)) ?_)
    refine g_iret C hQ (Nat.le_of_ble_eq_true rfl) (Nat.le_of_ble_eq_true rfl) dX3_counted_90 ?_
    exact ⟨rfl, rfl⟩
  · skip
    refine g_iconst (v := 0) C dX3_counted_0 (by decide) ?_
    refine g_istore_n (lv' := [(2, .int 0), (0, .ref u0), (1, .int (nI 4))]) C dX3_counted_1 rfl (by decide) rfl ?_
    refine g_iload_n C dX3_counted_2 rfl 2 rfl ?_
    refine g_tableIn (off := 88) (tgt := 91) C dX3_counted_3 (by decide) (by decide) (by decide) (by decide) ?_
    refine g_aload_n C dX3_counted_91 rfl 1 rfl ?_
    refine g_get (v := .ref u11) (ci := 3) (Cn := RX3) (T := TX3) (N := 14) C k_X3_counted_inX3 gm0 rfl 12 (by decide) k_X3_counted_1 rfl rfl dX3_counted_92 ?_
    refine g_getN (host := "WetMosaicModel") (v := .ref u12) (ci := 2) (Cn := RX2) (T := TX2) (N := 3) C k_X3_counted_inX2 (gmT (gmT (gmT (gmT (gmT (gmT (gmT (gmT (gmT (gmT (gmT gm0))))))))))) rfl 1 (by decide) (by decide +kernel) rfl rfl dX3_counted_95 ?_
    refine g_astore_n (lv' := [(3, .ref u12), (2, .int 0), (0, .ref u0), (1, .int (nI 4))]) C dX3_counted_98 rfl (by decide) rfl ?_
    refine g_aload_n C dX3_counted_99 rfl 0 rfl ?_
    refine g_alen (v := 80) C 0 (gmT (gmT (gmT (gmT (gmT (gmT (gmT (gmT (gmT (gmT (gmT (gmT gm0)))))))))))) ht0 rfl dX3_counted_100 ?_
    refine g_istore (lv' := [(4, .int 80), (3, .ref u12), (2, .int 0), (0, .ref u0), (1, .int (nI 4))]) C dX3_counted_101 (by decide) rfl ?_
    refine g_iconst (v := 0) C dX3_counted_103 (by decide) ?_
    refine g_istore (lv' := [(5, .int 0), (4, .int 80), (3, .ref u12), (2, .int 0), (0, .ref u0), (1, .int (nI 4))]) C dX3_counted_104 (by decide) rfl ?_
    have lp106 : ∀ (n9 : Nat) (i q : Nat) (hq : q = cnt (fun c => decide (0 ≤ wet c)) i) (hi : i ≤ 80) (hn : 81 ≤ i + n9), G p l e ({ frames := 5, cells := 0, slots := 0, locals := 112 } : Room) s m args below meth c D A s.heap 7 0 0 Q 106 [(0, .ref u0), (1, .int (nI 4)), (2, .int (nI q)), (3, .ref u12), (4, .int 80), (5, .int (nI i))] [] ((u0, .inr (3, [.int th, .int (nI np), .ref u1, .ref u2, .ref u3, .ref u4, .ref u5, .ref u6, .ref u7, .ref u8, .ref u9, .ref u10, .ref u11, .ref u13])) :: (u1, .inl (cI, 100, .inl (fi))) :: (u2, .inl (cI, 100, .inl (le))) :: (u3, .inl (cI, 100, .inl (ac))) :: (u4, .inl (cI, 100, .inl (se))) :: (u5, .inl (cI, 100, .inl (hh))) :: (u6, .inl (cI, 100, .inl (ou))) :: (u7, .inl (cI, 80, .inl (cover))) :: (u8, .inl (cI, 8, .inl (sun))) :: (u9, .inl (cI, 80, .inl (rw))) :: (u10, .inl (cI, 80, .inl (fo))) :: (u11, .inr (2, [.int (nI hr), .ref u12, .ref u0])) :: (u12, .inl (cI, 80, .inl (wet))) :: (u13, .inr (2, [.int ah, .ref u14, .ref u0])) :: (u14, .inl (cI, 80, .inl (aw))) :: Z) := by
      intro n9
      induction n9 with
      | zero =>
        intro i q hq hi hn
        exfalso; omega
      | succ n9 ih =>
        intro i q hq hi hn
        refine g_iload C dX3_counted_106 5 rfl ?_
        refine g_iload C dX3_counted_108 4 rfl ?_
        refine g_icmp_ge (tgt := 139) C dX3_counted_110 (by decide) (fun c_2 => ?_) (fun c_2 => ?_)
        · skip
          rw [show (80 : Int32) = nI 80 from rfl, nI_leI (by omega) (by omega)] at c_2
          refine g_iload_n C dX3_counted_139 rfl 2 rfl ?_
          refine g_iret C hQ (Nat.le_of_ble_eq_true rfl) (Nat.le_of_ble_eq_true rfl) dX3_counted_140 ?_
          exact ⟨by rw [hq, show i = 80 by omega]; rfl, rfl⟩
        · skip
          rw [show (80 : Int32) = nI 80 from rfl, nI_leI (by omega) (by omega)] at c_2
          refine g_aload_n C dX3_counted_113 rfl 3 rfl ?_
          refine g_iload C dX3_counted_114 5 rfl ?_
          refine g_iald C 0 (gmT (gmT (gmT (gmT (gmT (gmT (gmT (gmT (gmT (gmT (gmT (gmT gm0)))))))))))) ht0 (vp_in_nI (by omega) (by omega)) dX3_counted_116 ?_
          refine g_eqi (x := wet (nI i).toNatClampNeg) (y := wet i) (by rw [nI_clamp (by omega)]) ?_
          refine g_istore (lv' := [(6, .int (wet i)), (0, .ref u0), (1, .int (nI 4)), (2, .int (nI q)), (3, .ref u12), (4, .int 80), (5, .int (nI i))]) C dX3_counted_117 (by decide) rfl ?_
          refine g_iload_n C dX3_counted_119 rfl 3 rfl ?_
          refine g_iload C dX3_counted_120 0 rfl ?_
          refine g_iconst (v := (-1)) C dX3_counted_122 (by decide) ?_
          refine g_icmp_ne (tgt := 130) C dX3_counted_123 (by decide) (fun c_3 => ?_) (fun c_3 => ?_)
          · skip
            refine g_iconst (v := 1) C dX3_counted_130 (by decide) ?_
            refine g_iadd C dX3_counted_131 ?_
            refine g_eqi (x := (nI q) + 1) (y := nI (q + 1)) (nI_add _ 1) ?_
            refine g_istore_n (lv' := [(2, .int (nI (q + 1))), (6, .int (wet i)), (0, .ref u0), (1, .int (nI 4)), (3, .ref u12), (4, .int 80), (5, .int (nI i))]) C dX3_counted_132 rfl (by decide) rfl ?_
            refine g_iinc (v := nI (i + 1)) (lv' := [(5, .int (nI (i + 1))), (2, .int (nI (q + 1))), (6, .int (wet i)), (0, .ref u0), (1, .int (nI 4)), (3, .ref u12), (4, .int 80)]) C dX3_counted_133 6 rfl (by exact nI_add _ 1) (by decide) rfl ?_
            refine g_goto (tgt := 106) C dX3_counted_136 (by decide) ?_
            refine g_sub [3, 4, 1, 5, 6, 0] (lv' := [(0, .ref u0), (1, .int (nI 4)), (2, .int (nI (q + 1))), (3, .ref u12), (4, .int 80), (5, .int (nI (i + 1)))]) rfl ?_
            exact ih (i + 1) _ (by rw [hq]; first | exact (cnt_f ((wet_ge (by omega) hwt).trans (decide_eq_false (by simp [*])))).symm | exact (cnt_t ((wet_ge (by omega) hwt).trans (decide_eq_true (by assumption)))).symm) (by omega) (by omega)
          · skip
            refine g_iconst (v := 0) C dX3_counted_126 (by decide) ?_
            refine g_goto (tgt := 131) C dX3_counted_127 (by decide) ?_
            refine g_iadd C dX3_counted_131 ?_
            refine g_eqi (x := (nI q) + 0) (y := nI (q + 0)) (nI_add _ 0) ?_
            refine g_istore_n (lv' := [(2, .int (nI (q + 0))), (6, .int (wet i)), (0, .ref u0), (1, .int (nI 4)), (3, .ref u12), (4, .int 80), (5, .int (nI i))]) C dX3_counted_132 rfl (by decide) rfl ?_
            refine g_iinc (v := nI (i + 1)) (lv' := [(5, .int (nI (i + 1))), (2, .int (nI (q + 0))), (6, .int (wet i)), (0, .ref u0), (1, .int (nI 4)), (3, .ref u12), (4, .int 80)]) C dX3_counted_133 6 rfl (by exact nI_add _ 1) (by decide) rfl ?_
            refine g_goto (tgt := 106) C dX3_counted_136 (by decide) ?_
            refine g_sub [3, 4, 1, 5, 6, 0] (lv' := [(0, .ref u0), (1, .int (nI 4)), (2, .int (nI (q + 0))), (3, .ref u12), (4, .int 80), (5, .int (nI (i + 1)))]) rfl ?_
            exact ih (i + 1) _ (by rw [hq]; first | exact (cnt_f ((wet_ge (by omega) hwt).trans (decide_eq_false (by simp [*])))).symm | exact (cnt_t ((wet_ge (by omega) hwt).trans (decide_eq_true (by assumption)))).symm) (by omega) (by omega)
    refine g_sub [4, 5, 3, 2, 1, 0] (lv' := [(0, .ref u0), (1, .int (nI 4)), (2, .int 0), (3, .ref u12), (4, .int 80), (5, .int 0)]) rfl ?_
    exact lp106 81 0 0 rfl (by omega) (by omega)
  · skip
    refine g_iconst (v := 0) C dX3_counted_0 (by decide) ?_
    refine g_istore_n (lv' := [(2, .int 0), (0, .ref u0), (1, .int (nI 5))]) C dX3_counted_1 rfl (by decide) rfl ?_
    refine g_iload_n C dX3_counted_2 rfl 2 rfl ?_
    refine g_tableIn (off := 138) (tgt := 141) C dX3_counted_3 (by decide) (by decide) (by decide) (by decide) ?_
    refine g_aload_n C dX3_counted_141 rfl 1 rfl ?_
    refine g_get (v := .ref u11) (ci := 3) (Cn := RX3) (T := TX3) (N := 14) C k_X3_counted_inX3 gm0 rfl 12 (by decide) k_X3_counted_1 rfl rfl dX3_counted_142 ?_
    refine g_callV (ci := 2) (Cn := RX2) (As := []) (rest := []) C (gmT (gmT (gmT (gmT (gmT (gmT (gmT (gmT (gmT (gmT (gmT gm0))))))))))) rfl rfl (c_X2_wetOnes l D tys cI ht0 ((u0, .inr (3, [.int th, .int (nI np), .ref u1, .ref u2, .ref u3, .ref u4, .ref u5, .ref u6, .ref u7, .ref u8, .ref u9, .ref u10, .ref u11, .ref u13])) :: (u1, .inl (cI, 100, .inl (fi))) :: (u2, .inl (cI, 100, .inl (le))) :: (u3, .inl (cI, 100, .inl (ac))) :: (u4, .inl (cI, 100, .inl (se))) :: (u5, .inl (cI, 100, .inl (hh))) :: (u6, .inl (cI, 100, .inl (ou))) :: (u7, .inl (cI, 80, .inl (cover))) :: (u8, .inl (cI, 8, .inl (sun))) :: (u9, .inl (cI, 80, .inl (rw))) :: (u10, .inl (cI, 80, .inl (fo))) :: (u11, .inr (2, [.int (nI hr), .ref u12, .ref u0])) :: (u12, .inl (cI, 80, .inl (wet))) :: (u13, .inr (2, [.int ah, .ref u14, .ref u0])) :: (u14, .inl (cI, 80, .inl (aw))) :: Z) u0 u11 u12 (nI hr) wet (gmT (gmT (gmT (gmT (gmT (gmT (gmT (gmT (gmT (gmT (gmT gm0))))))))))) (gmT (gmT (gmT (gmT (gmT (gmT (gmT (gmT (gmT (gmT (gmT (gmT gm0))))))))))))) (cwV 0 C.ts gX3_counted_X2_wetOnes rfl rfl rfl (by decide +kernel) ⟨(Nat.le_of_ble_eq_true rfl), (Nat.le_of_ble_eq_true rfl)⟩) rfl rfl (Nat.le_of_ble_eq_true rfl) dX3_counted_145 (Nat.le_of_ble_eq_true rfl) (Nat.le_of_ble_eq_true rfl) (g_is (x := .int (nI (cnt (fun c => decide (1 ≤ wet c)) 80))) (W1 := ((u0, .inr (3, [.int th, .int (nI np), .ref u1, .ref u2, .ref u3, .ref u4, .ref u5, .ref u6, .ref u7, .ref u8, .ref u9, .ref u10, .ref u11, .ref u13])) :: (u1, .inl (cI, 100, .inl (fi))) :: (u2, .inl (cI, 100, .inl (le))) :: (u3, .inl (cI, 100, .inl (ac))) :: (u4, .inl (cI, 100, .inl (se))) :: (u5, .inl (cI, 100, .inl (hh))) :: (u6, .inl (cI, 100, .inl (ou))) :: (u7, .inl (cI, 80, .inl (cover))) :: (u8, .inl (cI, 8, .inl (sun))) :: (u9, .inl (cI, 80, .inl (rw))) :: (u10, .inl (cI, 80, .inl (fo))) :: (u11, .inr (2, [.int (nI hr), .ref u12, .ref u0])) :: (u12, .inl (cI, 80, .inl (wet))) :: (u13, .inr (2, [.int ah, .ref u14, .ref u0])) :: (u14, .inl (cI, 80, .inl (aw))) :: Z)) ?_)
    have hcn := cnt_le (fun c => decide (1 ≤ wet c)) 80
    refine g_iret C hQ (Nat.le_of_ble_eq_true rfl) (Nat.le_of_ble_eq_true rfl) dX3_counted_148 ?_
    exact ⟨rfl, rfl⟩
  · skip
    refine g_iconst (v := 0) C dX3_counted_0 (by decide) ?_
    refine g_istore_n (lv' := [(2, .int 0), (0, .ref u0), (1, .int (nI 6))]) C dX3_counted_1 rfl (by decide) rfl ?_
    refine g_iload_n C dX3_counted_2 rfl 2 rfl ?_
    refine g_tableIn (off := 146) (tgt := 149) C dX3_counted_3 (by decide) (by decide) (by decide) (by decide) ?_
    refine g_aload_n C dX3_counted_149 rfl 1 rfl ?_
    refine g_callV (ci := 3) (Cn := RX3) (As := []) (rest := []) C gm0 rfl rfl (c_X3_covered l D tys cI ht0 ((u0, .inr (3, [.int th, .int (nI np), .ref u1, .ref u2, .ref u3, .ref u4, .ref u5, .ref u6, .ref u7, .ref u8, .ref u9, .ref u10, .ref u11, .ref u13])) :: (u1, .inl (cI, 100, .inl (fi))) :: (u2, .inl (cI, 100, .inl (le))) :: (u3, .inl (cI, 100, .inl (ac))) :: (u4, .inl (cI, 100, .inl (se))) :: (u5, .inl (cI, 100, .inl (hh))) :: (u6, .inl (cI, 100, .inl (ou))) :: (u7, .inl (cI, 80, .inl (cover))) :: (u8, .inl (cI, 8, .inl (sun))) :: (u9, .inl (cI, 80, .inl (rw))) :: (u10, .inl (cI, 80, .inl (fo))) :: (u11, .inr (2, [.int (nI hr), .ref u12, .ref u0])) :: (u12, .inl (cI, 80, .inl (wet))) :: (u13, .inr (2, [.int ah, .ref u14, .ref u0])) :: (u14, .inl (cI, 80, .inl (aw))) :: Z) u0 u1 u2 u3 u4 u5 u6 u7 u8 u9 u10 u11 u12 u13 u14 np th fi le ac se hh ou P hr wet cover hnp hcv gm0 (gmT (gmT (gmT (gmT (gmT (gmT (gmT (gmT (gmT (gmT (gmT gm0))))))))))) (gmT (gmT (gmT (gmT (gmT (gmT (gmT (gmT (gmT (gmT (gmT (gmT gm0)))))))))))) (gmT gm0) (gmT (gmT gm0)) (gmT (gmT (gmT gm0))) (gmT (gmT (gmT (gmT gm0)))) (gmT (gmT (gmT (gmT (gmT gm0))))) (gmT (gmT (gmT (gmT (gmT (gmT gm0)))))) (gmT (gmT (gmT (gmT (gmT (gmT (gmT gm0)))))))) (cwV 0 C.ts gX3_counted_X3_covered rfl rfl rfl (by decide +kernel) ⟨(Nat.le_of_ble_eq_true rfl), (Nat.le_of_ble_eq_true rfl)⟩) rfl rfl (Nat.le_of_ble_eq_true rfl) dX3_counted_150 (Nat.le_of_ble_eq_true rfl) (Nat.le_of_ble_eq_true rfl) (g_is (x := .int (nI (cnt (fun c => decide (0 ≤ cover c)) 80))) (W1 := ((u0, .inr (3, [.int th, .int (nI np), .ref u1, .ref u2, .ref u3, .ref u4, .ref u5, .ref u6, .ref u7, .ref u8, .ref u9, .ref u10, .ref u11, .ref u13])) :: (u1, .inl (cI, 100, .inl (fi))) :: (u2, .inl (cI, 100, .inl (le))) :: (u3, .inl (cI, 100, .inl (ac))) :: (u4, .inl (cI, 100, .inl (se))) :: (u5, .inl (cI, 100, .inl (hh))) :: (u6, .inl (cI, 100, .inl (ou))) :: (u7, .inl (cI, 80, .inl (cover))) :: (u8, .inl (cI, 8, .inl (sun))) :: (u9, .inl (cI, 80, .inl (rw))) :: (u10, .inl (cI, 80, .inl (fo))) :: (u11, .inr (2, [.int (nI hr), .ref u12, .ref u0])) :: (u12, .inl (cI, 80, .inl (wet))) :: (u13, .inr (2, [.int ah, .ref u14, .ref u0])) :: (u14, .inl (cI, 80, .inl (aw))) :: Z)) ?_)
    refine g_iret C hQ (Nat.le_of_ble_eq_true rfl) (Nat.le_of_ble_eq_true rfl) dX3_counted_153 ?_
    exact ⟨rfl, rfl⟩
  · skip
    refine g_iconst (v := 0) C dX3_counted_0 (by decide) ?_
    refine g_istore_n (lv' := [(2, .int 0), (0, .ref u0), (1, .int (nI 7))]) C dX3_counted_1 rfl (by decide) rfl ?_
    refine g_iload_n C dX3_counted_2 rfl 2 rfl ?_
    refine g_tableOut (tgt := 154) C dX3_counted_3 (by decide) (by decide) ?_
    refine g_aload_n C dX3_counted_154 rfl 1 rfl ?_
    refine g_callV (ci := 3) (Cn := RX3) (As := []) (rest := []) C gm0 rfl rfl (c_X3_gaps l D tys cI ht0 u0 u1 u2 u3 u4 u5 u6 u7 u8 u9 u10 u11 u12 u13 u14 np th fi le ac se hh ou cover sun rw fo wet aw hr ah Z) (cwV 0 C.ts gX3_counted_X3_gaps rfl rfl rfl (by decide +kernel) ⟨(Nat.le_of_ble_eq_true rfl), (Nat.le_of_ble_eq_true rfl)⟩) rfl rfl (Nat.le_of_ble_eq_true rfl) dX3_counted_155 (Nat.le_of_ble_eq_true rfl) (Nat.le_of_ble_eq_true rfl) (g_is (x := .int (nI (gmS cover rw 80).1)) (W1 := ((u0, .inr (3, [.int th, .int (nI np), .ref u1, .ref u2, .ref u3, .ref u4, .ref u5, .ref u6, .ref u7, .ref u8, .ref u9, .ref u10, .ref u11, .ref u13])) :: (u1, .inl (cI, 100, .inl (fi))) :: (u2, .inl (cI, 100, .inl (le))) :: (u3, .inl (cI, 100, .inl (ac))) :: (u4, .inl (cI, 100, .inl (se))) :: (u5, .inl (cI, 100, .inl (hh))) :: (u6, .inl (cI, 100, .inl (ou))) :: (u7, .inl (cI, 80, .inl (cover))) :: (u8, .inl (cI, 8, .inl (sun))) :: (u9, .inl (cI, 80, .inl ((gmS cover rw 80).2.2))) :: (u10, .inl (cI, 80, .inl ((gmS cover rw 80).2.1))) :: (u11, .inr (2, [.int (nI hr), .ref u12, .ref u0])) :: (u12, .inl (cI, 80, .inl (wet))) :: (u13, .inr (2, [.int ah, .ref u14, .ref u0])) :: (u14, .inl (cI, 80, .inl (aw))) :: Z)) ?_)
    refine g_iret C hQ (Nat.le_of_ble_eq_true rfl) (Nat.le_of_ble_eq_true rfl) dX3_counted_158 ?_
    exact ⟨rfl, rfl⟩

theorem k_X2_become_inX2 : ∀ w ∈ wsX20, w ∈ wsX2_become := by decide +kernel
theorem k_X2_become_1 : Cond.fieldLink RX2 19 "WetMosaicModel$State" "hour" "I" ∈ wsX2_become := by decide +kernel
theorem k_X2_become_2 : Cond.fieldLink RX2 15 "WetMosaicModel$State" "wet" "[I" ∈ wsX2_become := by decide +kernel
theorem k_X2_become_3 : Cond.methodLink RX2 23 arraycopyName ∈ wsX2_become := by decide +kernel
theorem k_X2_become_4 : Cond.native arraycopyName ∈ wsX2_become := by decide +kernel
theorem k_X2_become_5 : Cond.static arraycopyName ∈ wsX2_become := by decide +kernel
theorem k_X2_become_6 : Cond.initialized "java/lang/System" ∈ wsX2_become := by decide +kernel
set_option maxHeartbeats 4000000 in
set_option maxRecDepth 100000 in
theorem c_X2_become (l : Launch) (D : va_G) (tys : List (ClassId × FieldType)) (cI : ClassId) (ht0 : tys[0]? = some (cI, .int)) (u0 u1 u2 u3 u4 u5 u6 u7 u8 u9 u10 u11 u12 u13 u14 np : Nat) (th : Int32) (fi le ac se hh ou cover sun rw fo wet aw : Nat → Int32) (hr : Nat) (ah : Int32) (Z : va_W) : gM l yX2_become wsX2_become ({ frames := 1, cells := 0, slots := 0, locals := 60 } : Room) D tys [.ref u13, .ref u11] ((u0, .inr (3, [.int th, .int (nI np), .ref u1, .ref u2, .ref u3, .ref u4, .ref u5, .ref u6, .ref u7, .ref u8, .ref u9, .ref u10, .ref u11, .ref u13])) :: (u1, .inl (cI, 100, .inl (fi))) :: (u2, .inl (cI, 100, .inl (le))) :: (u3, .inl (cI, 100, .inl (ac))) :: (u4, .inl (cI, 100, .inl (se))) :: (u5, .inl (cI, 100, .inl (hh))) :: (u6, .inl (cI, 100, .inl (ou))) :: (u7, .inl (cI, 80, .inl (cover))) :: (u8, .inl (cI, 8, .inl (sun))) :: (u9, .inl (cI, 80, .inl (rw))) :: (u10, .inl (cI, 80, .inl (fo))) :: (u11, .inr (2, [.int (nI hr), .ref u12, .ref u0])) :: (u12, .inl (cI, 80, .inl (wet))) :: (u13, .inr (2, [.int ah, .ref u14, .ref u0])) :: (u14, .inl (cI, 80, .inl (aw))) :: Z) (gIs none ((u0, .inr (3, [.int th, .int (nI np), .ref u1, .ref u2, .ref u3, .ref u4, .ref u5, .ref u6, .ref u7, .ref u8, .ref u9, .ref u10, .ref u11, .ref u13])) :: (u1, .inl (cI, 100, .inl (fi))) :: (u2, .inl (cI, 100, .inl (le))) :: (u3, .inl (cI, 100, .inl (ac))) :: (u4, .inl (cI, 100, .inl (se))) :: (u5, .inl (cI, 100, .inl (hh))) :: (u6, .inl (cI, 100, .inl (ou))) :: (u7, .inl (cI, 80, .inl (cover))) :: (u8, .inl (cI, 8, .inl (sun))) :: (u9, .inl (cI, 80, .inl (rw))) :: (u10, .inl (cI, 80, .inl (fo))) :: (u11, .inr (2, [.int (nI hr), .ref u12, .ref u0])) :: (u12, .inl (cI, 80, .inl (wet))) :: (u13, .inr (2, [.int (nI hr), .ref u14, .ref u0])) :: (u14, .inl (cI, 80, .inl (wet))) :: Z)) 0 0 := by
  refine gM_of (by decide +kernel) rfl (Nat.le_of_ble_eq_true rfl) ?_
  intro p e s m args below meth c A Q hin C hQ
  refine g_sub [0, 1] (lv' := [(0, .ref u13), (1, .ref u11)]) rfl ?_
  refine g_aload_n C dX2_become_0 rfl 0 rfl ?_
  refine g_aload_n C dX2_become_1 rfl 1 rfl ?_
  refine g_get (v := .int (nI hr)) (ci := 2) (Cn := RX2) (T := TX2) (N := 3) C k_X2_become_inX2 (gmT (gmT (gmT (gmT (gmT (gmT (gmT (gmT (gmT (gmT (gmT gm0))))))))))) rfl 0 (by decide) k_X2_become_1 rfl rfl dX2_become_2 ?_
  refine g_put (ci := 2) (Cn := RX2) (T := TX2) (N := 3) (ty := .int) (ws' := ((u0, .inr (3, [.int th, .int (nI np), .ref u1, .ref u2, .ref u3, .ref u4, .ref u5, .ref u6, .ref u7, .ref u8, .ref u9, .ref u10, .ref u11, .ref u13])) :: (u1, .inl (cI, 100, .inl (fi))) :: (u2, .inl (cI, 100, .inl (le))) :: (u3, .inl (cI, 100, .inl (ac))) :: (u4, .inl (cI, 100, .inl (se))) :: (u5, .inl (cI, 100, .inl (hh))) :: (u6, .inl (cI, 100, .inl (ou))) :: (u7, .inl (cI, 80, .inl (cover))) :: (u8, .inl (cI, 8, .inl (sun))) :: (u9, .inl (cI, 80, .inl (rw))) :: (u10, .inl (cI, 80, .inl (fo))) :: (u11, .inr (2, [.int (nI hr), .ref u12, .ref u0])) :: (u12, .inl (cI, 80, .inl (wet))) :: (u13, .inr (2, [.int (nI hr), .ref u14, .ref u0])) :: (u14, .inl (cI, 80, .inl (aw))) :: Z)) C k_X2_become_inX2 tyX2 tyX2_ok nmX2 13 rfl rfl 0 (by decide) k_X2_become_1 rfl rfl (by decide +kernel) rfl rfl (Nat.le_of_ble_eq_true rfl) dX2_become_5 rfl ?_
  refine g_aload_n C dX2_become_8 rfl 1 rfl ?_
  refine g_get (v := .ref u12) (ci := 2) (Cn := RX2) (T := TX2) (N := 3) C k_X2_become_inX2 (gmT (gmT (gmT (gmT (gmT (gmT (gmT (gmT (gmT (gmT (gmT gm0))))))))))) rfl 1 (by decide) k_X2_become_2 rfl rfl dX2_become_9 ?_
  refine g_iconst (v := 0) C dX2_become_12 (by decide) ?_
  refine g_aload_n C dX2_become_13 rfl 0 rfl ?_
  refine g_get (v := .ref u14) (ci := 2) (Cn := RX2) (T := TX2) (N := 3) C k_X2_become_inX2 (gmT (gmT (gmT (gmT (gmT (gmT (gmT (gmT (gmT (gmT (gmT (gmT (gmT gm0))))))))))))) rfl 1 (by decide) k_X2_become_2 rfl rfl dX2_become_14 ?_
  refine g_iconst (v := 0) C dX2_become_17 (by decide) ?_
  refine g_bipush (v := 80) C dX2_become_18 (by decide) ?_
  refine g_copy (ws' := ((u0, .inr (3, [.int th, .int (nI np), .ref u1, .ref u2, .ref u3, .ref u4, .ref u5, .ref u6, .ref u7, .ref u8, .ref u9, .ref u10, .ref u11, .ref u13])) :: (u1, .inl (cI, 100, .inl (fi))) :: (u2, .inl (cI, 100, .inl (le))) :: (u3, .inl (cI, 100, .inl (ac))) :: (u4, .inl (cI, 100, .inl (se))) :: (u5, .inl (cI, 100, .inl (hh))) :: (u6, .inl (cI, 100, .inl (ou))) :: (u7, .inl (cI, 80, .inl (cover))) :: (u8, .inl (cI, 8, .inl (sun))) :: (u9, .inl (cI, 80, .inl (rw))) :: (u10, .inl (cI, 80, .inl (fo))) :: (u11, .inr (2, [.int (nI hr), .ref u12, .ref u0])) :: (u12, .inl (cI, 80, .inl (wet))) :: (u13, .inr (2, [.int (nI hr), .ref u14, .ref u0])) :: (u14, .inl (cI, 80, .inl (va_cpy wet aw 0 0 80))) :: Z)) (N0 := 80) C 12 14 0 rfl rfl ht0 k_X2_become_3 k_X2_become_4 k_X2_become_5 k_X2_become_6 (by decide) (by decide) (by decide) (by decide) (Nat.le_of_ble_eq_true rfl) (Nat.le_of_ble_eq_true rfl) dX2_become_20 rfl ?_
  refine g_cong (g := wet) (ws' := ((u0, .inr (3, [.int th, .int (nI np), .ref u1, .ref u2, .ref u3, .ref u4, .ref u5, .ref u6, .ref u7, .ref u8, .ref u9, .ref u10, .ref u11, .ref u13])) :: (u1, .inl (cI, 100, .inl (fi))) :: (u2, .inl (cI, 100, .inl (le))) :: (u3, .inl (cI, 100, .inl (ac))) :: (u4, .inl (cI, 100, .inl (se))) :: (u5, .inl (cI, 100, .inl (hh))) :: (u6, .inl (cI, 100, .inl (ou))) :: (u7, .inl (cI, 80, .inl (cover))) :: (u8, .inl (cI, 8, .inl (sun))) :: (u9, .inl (cI, 80, .inl (rw))) :: (u10, .inl (cI, 80, .inl (fo))) :: (u11, .inr (2, [.int (nI hr), .ref u12, .ref u0])) :: (u12, .inl (cI, 80, .inl (wet))) :: (u13, .inr (2, [.int (nI hr), .ref u14, .ref u0])) :: (u14, .inl (cI, 80, .inl (wet))) :: Z)) 14 rfl cpy80 rfl ?_
  refine g_vret C hQ (Nat.le_of_ble_eq_true rfl) (Nat.le_of_ble_eq_true rfl) dX2_become_23 ?_
  exact ⟨rfl, rfl⟩

theorem k_X2_pass_s_inX2 : ∀ w ∈ wsX20, w ∈ wsX2_pass := by decide +kernel
theorem k_X2_pass_s_1 : Cond.fieldLink RX2 3 "WetMosaicModel$State" "this$0" "LWetMosaicModel;" ∈ wsX2_pass := by decide +kernel
theorem k_X2_pass_s_inX3 : ∀ w ∈ wsX30, w ∈ wsX2_pass := by decide +kernel
theorem k_X2_pass_s_3 : Cond.fieldLink RX2 19 "WetMosaicModel$State" "hour" "I" ∈ wsX2_pass := by decide +kernel
theorem k_X2_pass_s_4 : Cond.fieldLink RX2 15 "WetMosaicModel$State" "wet" "[I" ∈ wsX2_pass := by decide +kernel
theorem k_X2_pass_s_5 : Cond.methodLink RX2 35 Lib.Math.max.name ∈ wsX2_pass := by decide +kernel
theorem k_X2_pass_s_6 : Cond.static Lib.Math.max.name ∈ wsX2_pass := by decide +kernel
theorem k_X2_pass_s_7 : Cond.initialized "java/lang/Math" ∈ wsX2_pass := by decide +kernel
theorem k_X2_pass_s_8 : Cond.code Lib.Math.max.name Lib.Math.max.code 2 (some .int) ∈ wsX2_pass := by decide +kernel
set_option maxHeartbeats 4000000 in
set_option maxRecDepth 100000 in
theorem c_X2_pass_s (l : Launch) (D : va_G) (tys : List (ClassId × FieldType)) (cI : ClassId) (ht0 : tys[0]? = some (cI, .int)) (u0 u1 u2 u3 u4 u5 u6 u7 u8 u9 u10 u11 u12 u13 u14 np : Nat) (th : Int32) (fi le ac se hh ou cover sun rw fo wet aw : Nat → Int32) (hr : Nat) (ah : Int32) (Z : va_W) (hh9 : hr < 2 ^ 30) : gM l yX2_pass wsX2_pass ({ frames := 1, cells := 0, slots := 0, locals := 40 } : Room) D tys [.ref u11] ((u0, .inr (3, [.int th, .int (nI np), .ref u1, .ref u2, .ref u3, .ref u4, .ref u5, .ref u6, .ref u7, .ref u8, .ref u9, .ref u10, .ref u11, .ref u13])) :: (u1, .inl (cI, 100, .inl (fi))) :: (u2, .inl (cI, 100, .inl (le))) :: (u3, .inl (cI, 100, .inl (ac))) :: (u4, .inl (cI, 100, .inl (se))) :: (u5, .inl (cI, 100, .inl (hh))) :: (u6, .inl (cI, 100, .inl (ou))) :: (u7, .inl (cI, 80, .inl (cover))) :: (u8, .inl (cI, 8, .inl (sun))) :: (u9, .inl (cI, 80, .inl (rw))) :: (u10, .inl (cI, 80, .inl (fo))) :: (u11, .inr (2, [.int (nI hr), .ref u12, .ref u0])) :: (u12, .inl (cI, 80, .inl (wet))) :: (u13, .inr (2, [.int ah, .ref u14, .ref u0])) :: (u14, .inl (cI, 80, .inl (aw))) :: Z) (gIs none ((u0, .inr (3, [.int th, .int (nI np), .ref u1, .ref u2, .ref u3, .ref u4, .ref u5, .ref u6, .ref u7, .ref u8, .ref u9, .ref u10, .ref u11, .ref u13])) :: (u1, .inl (cI, 100, .inl (fi))) :: (u2, .inl (cI, 100, .inl (le))) :: (u3, .inl (cI, 100, .inl (ac))) :: (u4, .inl (cI, 100, .inl (se))) :: (u5, .inl (cI, 100, .inl (hh))) :: (u6, .inl (cI, 100, .inl (ou))) :: (u7, .inl (cI, 80, .inl (cover))) :: (u8, .inl (cI, 8, .inl (sun))) :: (u9, .inl (cI, 80, .inl (rw))) :: (u10, .inl (cI, 80, .inl (fo))) :: (u11, .inr (2, [.int (nI (hr + 1)), .ref u12, .ref u0])) :: (u12, .inl (cI, 80, .inl (dry1 wet cover (sun (hr % 8)) (decide (hr % 2 = 0))))) :: (u13, .inr (2, [.int ah, .ref u14, .ref u0])) :: (u14, .inl (cI, 80, .inl (aw))) :: Z)) 0 0 := by
  refine gM_of (by decide +kernel) rfl (Nat.le_of_ble_eq_true rfl) ?_
  intro p e s m args below meth c A Q hin C hQ
  refine g_sub [0] (lv' := [(0, .ref u11)]) rfl ?_
  refine g_aload_n C dX2_pass_0 rfl 0 rfl ?_
  refine g_get (v := .ref u0) (ci := 2) (Cn := RX2) (T := TX2) (N := 3) C k_X2_pass_s_inX2 (gmT (gmT (gmT (gmT (gmT (gmT (gmT (gmT (gmT (gmT (gmT gm0))))))))))) rfl 2 (by decide) k_X2_pass_s_1 rfl rfl dX2_pass_1 ?_
  refine g_getN (host := "WetMosaicModel") (v := .ref u8) (ci := 3) (Cn := RX3) (T := TX3) (N := 14) C k_X2_pass_s_inX3 gm0 rfl 9 (by decide) (by decide +kernel) rfl rfl dX2_pass_4 ?_
  refine g_aload_n C dX2_pass_7 rfl 0 rfl ?_
  refine g_get (v := .int (nI hr)) (ci := 2) (Cn := RX2) (T := TX2) (N := 3) C k_X2_pass_s_inX2 (gmT (gmT (gmT (gmT (gmT (gmT (gmT (gmT (gmT (gmT (gmT gm0))))))))))) rfl 0 (by decide) k_X2_pass_s_3 rfl rfl dX2_pass_8 ?_
  refine g_bipush (v := 8) C dX2_pass_11 (by decide) ?_
  refine g_irem C dX2_pass_13 (by decide) ?_
  refine g_eqi (x := (nI hr) - (nI hr) / 8 * 8) (y := nI (hr % 8)) (remI hr 8 (by omega) (by omega) (by omega) rfl) ?_
  refine g_iald C 0 (gmT (gmT (gmT (gmT (gmT (gmT (gmT (gmT gm0)))))))) ht0 (vp_in_nI (by omega) (by omega)) dX2_pass_14 ?_
  refine g_eqi (x := sun (nI (hr % 8)).toNatClampNeg) (y := sun (hr % 8)) (by rw [nI_clamp (by omega)]) ?_
  refine g_istore_n (lv' := [(1, .int (sun (hr % 8))), (0, .ref u11)]) C dX2_pass_15 rfl (by decide) rfl ?_
  refine g_iconst (v := 0) C dX2_pass_16 (by decide) ?_
  refine g_istore_n (lv' := [(2, .int 0), (1, .int (sun (hr % 8))), (0, .ref u11)]) C dX2_pass_17 rfl (by decide) rfl ?_
  have lp18_1 : ∀ (n9 : Nat) (i : Nat) (g : Nat → Int32) (hlo : ∀ c, c < i → g c = dry1 wet cover (sun (hr % 8)) (decide (hr % 2 = 0)) c) (hhi : ∀ c, i ≤ c → g c = wet c) (hi : i ≤ 80) (hn : 81 ≤ i + n9), G p l e ({ frames := 1, cells := 0, slots := 0, locals := 40 } : Room) s m args below meth c D A s.heap 3 0 0 Q 18 [(0, .ref u11), (1, .int (sun (hr % 8))), (2, .int (nI i))] [] ((u0, .inr (3, [.int th, .int (nI np), .ref u1, .ref u2, .ref u3, .ref u4, .ref u5, .ref u6, .ref u7, .ref u8, .ref u9, .ref u10, .ref u11, .ref u13])) :: (u1, .inl (cI, 100, .inl (fi))) :: (u2, .inl (cI, 100, .inl (le))) :: (u3, .inl (cI, 100, .inl (ac))) :: (u4, .inl (cI, 100, .inl (se))) :: (u5, .inl (cI, 100, .inl (hh))) :: (u6, .inl (cI, 100, .inl (ou))) :: (u7, .inl (cI, 80, .inl (cover))) :: (u8, .inl (cI, 8, .inl (sun))) :: (u9, .inl (cI, 80, .inl (rw))) :: (u10, .inl (cI, 80, .inl (fo))) :: (u11, .inr (2, [.int (nI hr), .ref u12, .ref u0])) :: (u12, .inl (cI, 80, .inl (g))) :: (u13, .inr (2, [.int ah, .ref u14, .ref u0])) :: (u14, .inl (cI, 80, .inl (aw))) :: Z) := by
    intro n9
    induction n9 with
    | zero =>
      intro i g hlo hhi hi hn
      exfalso; omega
    | succ n9 ih =>
      intro i g hlo hhi hi hn
      refine g_iload_n C dX2_pass_18 rfl 2 rfl ?_
      refine g_bipush (v := 80) C dX2_pass_19 (by decide) ?_
      refine g_icmp_ge (tgt := 79) C dX2_pass_21 (by decide) (fun c_2 => ?_) (fun c_2 => ?_)
      · skip
        rw [show (80 : Int32) = nI 80 from rfl, nI_leI (by omega) (by omega)] at c_2
        refine g_cong (g := dry1 wet cover (sun (hr % 8)) (decide (hr % 2 = 0))) (ws' := ((u0, .inr (3, [.int th, .int (nI np), .ref u1, .ref u2, .ref u3, .ref u4, .ref u5, .ref u6, .ref u7, .ref u8, .ref u9, .ref u10, .ref u11, .ref u13])) :: (u1, .inl (cI, 100, .inl (fi))) :: (u2, .inl (cI, 100, .inl (le))) :: (u3, .inl (cI, 100, .inl (ac))) :: (u4, .inl (cI, 100, .inl (se))) :: (u5, .inl (cI, 100, .inl (hh))) :: (u6, .inl (cI, 100, .inl (ou))) :: (u7, .inl (cI, 80, .inl (cover))) :: (u8, .inl (cI, 8, .inl (sun))) :: (u9, .inl (cI, 80, .inl (rw))) :: (u10, .inl (cI, 80, .inl (fo))) :: (u11, .inr (2, [.int (nI hr), .ref u12, .ref u0])) :: (u12, .inl (cI, 80, .inl (dry1 wet cover (sun (hr % 8)) (decide (hr % 2 = 0))))) :: (u13, .inr (2, [.int ah, .ref u14, .ref u0])) :: (u14, .inl (cI, 80, .inl (aw))) :: Z)) 12 rfl (fun j hj => hlo j (by omega)) rfl ?_
        refine g_aload_n C dX2_pass_79 rfl 0 rfl ?_
        refine g_dup C dX2_pass_80 rfl ?_
        refine g_get (v := .int (nI hr)) (ci := 2) (Cn := RX2) (T := TX2) (N := 3) C k_X2_pass_s_inX2 (gmT (gmT (gmT (gmT (gmT (gmT (gmT (gmT (gmT (gmT (gmT gm0))))))))))) rfl 0 (by decide) k_X2_pass_s_3 rfl rfl dX2_pass_81 ?_
        refine g_iconst (v := 1) C dX2_pass_84 (by decide) ?_
        refine g_iadd C dX2_pass_85 ?_
        refine g_eqi (x := (nI hr) + 1) (y := nI (hr + 1)) (nI_add _ 1) ?_
        refine g_put (ci := 2) (Cn := RX2) (T := TX2) (N := 3) (ty := .int) (ws' := ((u0, .inr (3, [.int th, .int (nI np), .ref u1, .ref u2, .ref u3, .ref u4, .ref u5, .ref u6, .ref u7, .ref u8, .ref u9, .ref u10, .ref u11, .ref u13])) :: (u1, .inl (cI, 100, .inl (fi))) :: (u2, .inl (cI, 100, .inl (le))) :: (u3, .inl (cI, 100, .inl (ac))) :: (u4, .inl (cI, 100, .inl (se))) :: (u5, .inl (cI, 100, .inl (hh))) :: (u6, .inl (cI, 100, .inl (ou))) :: (u7, .inl (cI, 80, .inl (cover))) :: (u8, .inl (cI, 8, .inl (sun))) :: (u9, .inl (cI, 80, .inl (rw))) :: (u10, .inl (cI, 80, .inl (fo))) :: (u11, .inr (2, [.int (nI (hr + 1)), .ref u12, .ref u0])) :: (u12, .inl (cI, 80, .inl (dry1 wet cover (sun (hr % 8)) (decide (hr % 2 = 0))))) :: (u13, .inr (2, [.int ah, .ref u14, .ref u0])) :: (u14, .inl (cI, 80, .inl (aw))) :: Z)) C k_X2_pass_s_inX2 tyX2 tyX2_ok nmX2 11 rfl rfl 0 (by decide) k_X2_pass_s_3 rfl rfl (by decide +kernel) rfl rfl (Nat.le_of_ble_eq_true rfl) dX2_pass_86 rfl ?_
        refine g_vret C hQ (Nat.le_of_ble_eq_true rfl) (Nat.le_of_ble_eq_true rfl) dX2_pass_89 ?_
        exact ⟨rfl, rfl⟩
      · skip
        rw [show (80 : Int32) = nI 80 from rfl, nI_leI (by omega) (by omega)] at c_2
        refine g_aload_n C dX2_pass_24 rfl 0 rfl ?_
        refine g_get (v := .ref u12) (ci := 2) (Cn := RX2) (T := TX2) (N := 3) C k_X2_pass_s_inX2 (gmT (gmT (gmT (gmT (gmT (gmT (gmT (gmT (gmT (gmT (gmT gm0))))))))))) rfl 1 (by decide) k_X2_pass_s_4 rfl rfl dX2_pass_25 ?_
        refine g_iload_n C dX2_pass_28 rfl 2 rfl ?_
        refine g_iald C 0 (gmT (gmT (gmT (gmT (gmT (gmT (gmT (gmT (gmT (gmT (gmT (gmT gm0)))))))))))) ht0 (vp_in_nI (by omega) (by omega)) dX2_pass_29 ?_
        refine g_eqi (x := g (nI i).toNatClampNeg) (y := wet i) (by rw [nI_clamp (by omega)]; exact hhi i (by omega)) ?_
        refine g_if_le (tgt := 73) C dX2_pass_30 (by decide) (fun c_3 => ?_) (fun c_3 => ?_)
        · skip
          refine g_iinc (v := nI (i + 1)) (lv' := [(2, .int (nI (i + 1))), (0, .ref u11), (1, .int (sun (hr % 8)))]) C dX2_pass_73 2 rfl (by exact nI_add _ 1) (by decide) rfl ?_
          refine g_goto (tgt := 18) C dX2_pass_76 (by decide) ?_
          refine g_sub [1, 2, 0] (lv' := [(0, .ref u11), (1, .int (sun (hr % 8))), (2, .int (nI (i + 1)))]) rfl ?_
          exact ih (i + 1) _ (lo_keep hlo hhi (by simp [dry1, i_1le, *])) (fun c hc => hhi c (by omega)) (by omega) (by omega)
        · skip
          refine g_aload_n C dX2_pass_33 rfl 0 rfl ?_
          refine g_get (v := .ref u0) (ci := 2) (Cn := RX2) (T := TX2) (N := 3) C k_X2_pass_s_inX2 (gmT (gmT (gmT (gmT (gmT (gmT (gmT (gmT (gmT (gmT (gmT gm0))))))))))) rfl 2 (by decide) k_X2_pass_s_1 rfl rfl dX2_pass_34 ?_
          refine g_getN (host := "WetMosaicModel") (v := .ref u7) (ci := 3) (Cn := RX3) (T := TX3) (N := 14) C k_X2_pass_s_inX3 gm0 rfl 8 (by decide) (by decide +kernel) rfl rfl dX2_pass_37 ?_
          refine g_iload_n C dX2_pass_40 rfl 2 rfl ?_
          refine g_iald C 0 (gmT (gmT (gmT (gmT (gmT (gmT (gmT gm0))))))) ht0 (vp_in_nI (by omega) (by omega)) dX2_pass_41 ?_
          refine g_eqi (x := cover (nI i).toNatClampNeg) (y := cover i) (by rw [nI_clamp (by omega)]) ?_
          refine g_iconst (v := (-1)) C dX2_pass_42 (by decide) ?_
          refine g_icmp_eq (tgt := 55) C dX2_pass_43 (by decide) (fun c_4 => ?_) (fun c_4 => ?_)
          · skip
            refine g_aload_n C dX2_pass_55 rfl 0 rfl ?_
            refine g_get (v := .ref u12) (ci := 2) (Cn := RX2) (T := TX2) (N := 3) C k_X2_pass_s_inX2 (gmT (gmT (gmT (gmT (gmT (gmT (gmT (gmT (gmT (gmT (gmT gm0))))))))))) rfl 1 (by decide) k_X2_pass_s_4 rfl rfl dX2_pass_56 ?_
            refine g_iload_n C dX2_pass_59 rfl 2 rfl ?_
            refine g_iconst (v := 0) C dX2_pass_60 (by decide) ?_
            refine g_aload_n C dX2_pass_61 rfl 0 rfl ?_
            refine g_get (v := .ref u12) (ci := 2) (Cn := RX2) (T := TX2) (N := 3) C k_X2_pass_s_inX2 (gmT (gmT (gmT (gmT (gmT (gmT (gmT (gmT (gmT (gmT (gmT gm0))))))))))) rfl 1 (by decide) k_X2_pass_s_4 rfl rfl dX2_pass_62 ?_
            refine g_iload_n C dX2_pass_65 rfl 2 rfl ?_
            refine g_iald C 0 (gmT (gmT (gmT (gmT (gmT (gmT (gmT (gmT (gmT (gmT (gmT (gmT gm0)))))))))))) ht0 (vp_in_nI (by omega) (by omega)) dX2_pass_66 ?_
            refine g_eqi (x := g (nI i).toNatClampNeg) (y := wet i) (by rw [nI_clamp (by omega)]; exact hhi i (by omega)) ?_
            refine g_iload_n C dX2_pass_67 rfl 1 rfl ?_
            refine g_isub C dX2_pass_68 ?_
            refine g_max C k_X2_pass_s_5 k_X2_pass_s_6 k_X2_pass_s_7 k_X2_pass_s_8 (Nat.le_of_ble_eq_true rfl) (Nat.le_of_ble_eq_true rfl) (Nat.le_of_ble_eq_true rfl) (Nat.le_of_ble_eq_true rfl) dX2_pass_69 ?_
            refine g_iast (ws' := ((u0, .inr (3, [.int th, .int (nI np), .ref u1, .ref u2, .ref u3, .ref u4, .ref u5, .ref u6, .ref u7, .ref u8, .ref u9, .ref u10, .ref u11, .ref u13])) :: (u1, .inl (cI, 100, .inl (fi))) :: (u2, .inl (cI, 100, .inl (le))) :: (u3, .inl (cI, 100, .inl (ac))) :: (u4, .inl (cI, 100, .inl (se))) :: (u5, .inl (cI, 100, .inl (hh))) :: (u6, .inl (cI, 100, .inl (ou))) :: (u7, .inl (cI, 80, .inl (cover))) :: (u8, .inl (cI, 8, .inl (sun))) :: (u9, .inl (cI, 80, .inl (rw))) :: (u10, .inl (cI, 80, .inl (fo))) :: (u11, .inr (2, [.int (nI hr), .ref u12, .ref u0])) :: (u12, .inl (cI, 80, .inl (upd g (nI i).toNatClampNeg (if 0 < (wet i) - (sun (hr % 8)) then (wet i) - (sun (hr % 8)) else 0)))) :: (u13, .inr (2, [.int ah, .ref u14, .ref u0])) :: (u14, .inl (cI, 80, .inl (aw))) :: Z)) C 12 0 rfl ht0 (vp_in_nI (by omega) (by omega)) dX2_pass_72 rfl ?_
            rw [nI_clamp (n := i) (by omega)]
            refine g_iinc (v := nI (i + 1)) (lv' := [(2, .int (nI (i + 1))), (0, .ref u11), (1, .int (sun (hr % 8)))]) C dX2_pass_73 2 rfl (by exact nI_add _ 1) (by decide) rfl ?_
            refine g_goto (tgt := 18) C dX2_pass_76 (by decide) ?_
            refine g_sub [1, 2, 0] (lv' := [(0, .ref u11), (1, .int (sun (hr % 8))), (2, .int (nI (i + 1)))]) rfl ?_
            exact ih (i + 1) _ (lo_put hlo (by simp [dry1, i_1le, *])) (hi_put hhi) (by omega) (by omega)
          · skip
            refine g_aload_n C dX2_pass_46 rfl 0 rfl ?_
            refine g_get (v := .int (nI hr)) (ci := 2) (Cn := RX2) (T := TX2) (N := 3) C k_X2_pass_s_inX2 (gmT (gmT (gmT (gmT (gmT (gmT (gmT (gmT (gmT (gmT (gmT gm0))))))))))) rfl 0 (by decide) k_X2_pass_s_3 rfl rfl dX2_pass_47 ?_
            refine g_iconst (v := 2) C dX2_pass_50 (by decide) ?_
            refine g_irem C dX2_pass_51 (by decide) ?_
            refine g_eqi (x := (nI hr) - (nI hr) / 2 * 2) (y := nI (hr % 2)) (remI hr 2 (by omega) (by omega) (by omega) rfl) ?_
            refine g_if_ne (tgt := 73) C dX2_pass_52 (by decide) (fun c_5 => ?_) (fun c_5 => ?_)
            · skip
              rw [show (0 : Int32) = nI 0 from rfl, nI_eq (by omega) (by omega)] at c_5
              refine g_iinc (v := nI (i + 1)) (lv' := [(2, .int (nI (i + 1))), (0, .ref u11), (1, .int (sun (hr % 8)))]) C dX2_pass_73 2 rfl (by exact nI_add _ 1) (by decide) rfl ?_
              refine g_goto (tgt := 18) C dX2_pass_76 (by decide) ?_
              refine g_sub [1, 2, 0] (lv' := [(0, .ref u11), (1, .int (sun (hr % 8))), (2, .int (nI (i + 1)))]) rfl ?_
              exact ih (i + 1) _ (lo_keep hlo hhi (by simp [dry1, i_1le, *])) (fun c hc => hhi c (by omega)) (by omega) (by omega)
            · skip
              rw [show (0 : Int32) = nI 0 from rfl, nI_eq (by omega) (by omega)] at c_5
              refine g_aload_n C dX2_pass_55 rfl 0 rfl ?_
              refine g_get (v := .ref u12) (ci := 2) (Cn := RX2) (T := TX2) (N := 3) C k_X2_pass_s_inX2 (gmT (gmT (gmT (gmT (gmT (gmT (gmT (gmT (gmT (gmT (gmT gm0))))))))))) rfl 1 (by decide) k_X2_pass_s_4 rfl rfl dX2_pass_56 ?_
              refine g_iload_n C dX2_pass_59 rfl 2 rfl ?_
              refine g_iconst (v := 0) C dX2_pass_60 (by decide) ?_
              refine g_aload_n C dX2_pass_61 rfl 0 rfl ?_
              refine g_get (v := .ref u12) (ci := 2) (Cn := RX2) (T := TX2) (N := 3) C k_X2_pass_s_inX2 (gmT (gmT (gmT (gmT (gmT (gmT (gmT (gmT (gmT (gmT (gmT gm0))))))))))) rfl 1 (by decide) k_X2_pass_s_4 rfl rfl dX2_pass_62 ?_
              refine g_iload_n C dX2_pass_65 rfl 2 rfl ?_
              refine g_iald C 0 (gmT (gmT (gmT (gmT (gmT (gmT (gmT (gmT (gmT (gmT (gmT (gmT gm0)))))))))))) ht0 (vp_in_nI (by omega) (by omega)) dX2_pass_66 ?_
              refine g_eqi (x := g (nI i).toNatClampNeg) (y := wet i) (by rw [nI_clamp (by omega)]; exact hhi i (by omega)) ?_
              refine g_iload_n C dX2_pass_67 rfl 1 rfl ?_
              refine g_isub C dX2_pass_68 ?_
              refine g_max C k_X2_pass_s_5 k_X2_pass_s_6 k_X2_pass_s_7 k_X2_pass_s_8 (Nat.le_of_ble_eq_true rfl) (Nat.le_of_ble_eq_true rfl) (Nat.le_of_ble_eq_true rfl) (Nat.le_of_ble_eq_true rfl) dX2_pass_69 ?_
              refine g_iast (ws' := ((u0, .inr (3, [.int th, .int (nI np), .ref u1, .ref u2, .ref u3, .ref u4, .ref u5, .ref u6, .ref u7, .ref u8, .ref u9, .ref u10, .ref u11, .ref u13])) :: (u1, .inl (cI, 100, .inl (fi))) :: (u2, .inl (cI, 100, .inl (le))) :: (u3, .inl (cI, 100, .inl (ac))) :: (u4, .inl (cI, 100, .inl (se))) :: (u5, .inl (cI, 100, .inl (hh))) :: (u6, .inl (cI, 100, .inl (ou))) :: (u7, .inl (cI, 80, .inl (cover))) :: (u8, .inl (cI, 8, .inl (sun))) :: (u9, .inl (cI, 80, .inl (rw))) :: (u10, .inl (cI, 80, .inl (fo))) :: (u11, .inr (2, [.int (nI hr), .ref u12, .ref u0])) :: (u12, .inl (cI, 80, .inl (upd g (nI i).toNatClampNeg (if 0 < (wet i) - (sun (hr % 8)) then (wet i) - (sun (hr % 8)) else 0)))) :: (u13, .inr (2, [.int ah, .ref u14, .ref u0])) :: (u14, .inl (cI, 80, .inl (aw))) :: Z)) C 12 0 rfl ht0 (vp_in_nI (by omega) (by omega)) dX2_pass_72 rfl ?_
              rw [nI_clamp (n := i) (by omega)]
              refine g_iinc (v := nI (i + 1)) (lv' := [(2, .int (nI (i + 1))), (0, .ref u11), (1, .int (sun (hr % 8)))]) C dX2_pass_73 2 rfl (by exact nI_add _ 1) (by decide) rfl ?_
              refine g_goto (tgt := 18) C dX2_pass_76 (by decide) ?_
              refine g_sub [1, 2, 0] (lv' := [(0, .ref u11), (1, .int (sun (hr % 8))), (2, .int (nI (i + 1)))]) rfl ?_
              exact ih (i + 1) _ (lo_put hlo (by simp [dry1, i_1le, *])) (hi_put hhi) (by omega) (by omega)
  refine g_sub [2, 1, 0] (lv' := [(0, .ref u11), (1, .int (sun (hr % 8))), (2, .int 0)]) rfl ?_
  exact lp18_1 81 0 wet (fun c hc => absurd hc (Nat.not_lt_zero c)) (fun c hc => rfl) (by omega) (by omega)

theorem k_X2_pass_a_inX2 : ∀ w ∈ wsX20, w ∈ wsX2_pass := by decide +kernel
theorem k_X2_pass_a_1 : Cond.fieldLink RX2 3 "WetMosaicModel$State" "this$0" "LWetMosaicModel;" ∈ wsX2_pass := by decide +kernel
theorem k_X2_pass_a_inX3 : ∀ w ∈ wsX30, w ∈ wsX2_pass := by decide +kernel
theorem k_X2_pass_a_3 : Cond.fieldLink RX2 19 "WetMosaicModel$State" "hour" "I" ∈ wsX2_pass := by decide +kernel
theorem k_X2_pass_a_4 : Cond.fieldLink RX2 15 "WetMosaicModel$State" "wet" "[I" ∈ wsX2_pass := by decide +kernel
theorem k_X2_pass_a_5 : Cond.methodLink RX2 35 Lib.Math.max.name ∈ wsX2_pass := by decide +kernel
theorem k_X2_pass_a_6 : Cond.static Lib.Math.max.name ∈ wsX2_pass := by decide +kernel
theorem k_X2_pass_a_7 : Cond.initialized "java/lang/Math" ∈ wsX2_pass := by decide +kernel
theorem k_X2_pass_a_8 : Cond.code Lib.Math.max.name Lib.Math.max.code 2 (some .int) ∈ wsX2_pass := by decide +kernel
set_option maxHeartbeats 4000000 in
set_option maxRecDepth 100000 in
theorem c_X2_pass_a (l : Launch) (D : va_G) (tys : List (ClassId × FieldType)) (cI : ClassId) (ht0 : tys[0]? = some (cI, .int)) (u0 u1 u2 u3 u4 u5 u6 u7 u8 u9 u10 u11 u12 u13 u14 np : Nat) (th : Int32) (fi le ac se hh ou cover sun rw fo wet aw : Nat → Int32) (hr : Nat) (hx : Nat) (Z : va_W) (hh9 : hx < 2 ^ 30) : gM l yX2_pass wsX2_pass ({ frames := 1, cells := 0, slots := 0, locals := 40 } : Room) D tys [.ref u13] ((u0, .inr (3, [.int th, .int (nI np), .ref u1, .ref u2, .ref u3, .ref u4, .ref u5, .ref u6, .ref u7, .ref u8, .ref u9, .ref u10, .ref u11, .ref u13])) :: (u1, .inl (cI, 100, .inl (fi))) :: (u2, .inl (cI, 100, .inl (le))) :: (u3, .inl (cI, 100, .inl (ac))) :: (u4, .inl (cI, 100, .inl (se))) :: (u5, .inl (cI, 100, .inl (hh))) :: (u6, .inl (cI, 100, .inl (ou))) :: (u7, .inl (cI, 80, .inl (cover))) :: (u8, .inl (cI, 8, .inl (sun))) :: (u9, .inl (cI, 80, .inl (rw))) :: (u10, .inl (cI, 80, .inl (fo))) :: (u11, .inr (2, [.int (nI hr), .ref u12, .ref u0])) :: (u12, .inl (cI, 80, .inl (wet))) :: (u13, .inr (2, [.int (nI hx), .ref u14, .ref u0])) :: (u14, .inl (cI, 80, .inl (aw))) :: Z) (gIs none ((u0, .inr (3, [.int th, .int (nI np), .ref u1, .ref u2, .ref u3, .ref u4, .ref u5, .ref u6, .ref u7, .ref u8, .ref u9, .ref u10, .ref u11, .ref u13])) :: (u1, .inl (cI, 100, .inl (fi))) :: (u2, .inl (cI, 100, .inl (le))) :: (u3, .inl (cI, 100, .inl (ac))) :: (u4, .inl (cI, 100, .inl (se))) :: (u5, .inl (cI, 100, .inl (hh))) :: (u6, .inl (cI, 100, .inl (ou))) :: (u7, .inl (cI, 80, .inl (cover))) :: (u8, .inl (cI, 8, .inl (sun))) :: (u9, .inl (cI, 80, .inl (rw))) :: (u10, .inl (cI, 80, .inl (fo))) :: (u11, .inr (2, [.int (nI hr), .ref u12, .ref u0])) :: (u12, .inl (cI, 80, .inl (wet))) :: (u13, .inr (2, [.int (nI (hx + 1)), .ref u14, .ref u0])) :: (u14, .inl (cI, 80, .inl (dry1 aw cover (sun (hx % 8)) (decide (hx % 2 = 0))))) :: Z)) 0 0 := by
  refine gM_of (by decide +kernel) rfl (Nat.le_of_ble_eq_true rfl) ?_
  intro p e s m args below meth c A Q hin C hQ
  refine g_sub [0] (lv' := [(0, .ref u13)]) rfl ?_
  refine g_aload_n C dX2_pass_0 rfl 0 rfl ?_
  refine g_get (v := .ref u0) (ci := 2) (Cn := RX2) (T := TX2) (N := 3) C k_X2_pass_a_inX2 (gmT (gmT (gmT (gmT (gmT (gmT (gmT (gmT (gmT (gmT (gmT (gmT (gmT gm0))))))))))))) rfl 2 (by decide) k_X2_pass_a_1 rfl rfl dX2_pass_1 ?_
  refine g_getN (host := "WetMosaicModel") (v := .ref u8) (ci := 3) (Cn := RX3) (T := TX3) (N := 14) C k_X2_pass_a_inX3 gm0 rfl 9 (by decide) (by decide +kernel) rfl rfl dX2_pass_4 ?_
  refine g_aload_n C dX2_pass_7 rfl 0 rfl ?_
  refine g_get (v := .int (nI hx)) (ci := 2) (Cn := RX2) (T := TX2) (N := 3) C k_X2_pass_a_inX2 (gmT (gmT (gmT (gmT (gmT (gmT (gmT (gmT (gmT (gmT (gmT (gmT (gmT gm0))))))))))))) rfl 0 (by decide) k_X2_pass_a_3 rfl rfl dX2_pass_8 ?_
  refine g_bipush (v := 8) C dX2_pass_11 (by decide) ?_
  refine g_irem C dX2_pass_13 (by decide) ?_
  refine g_eqi (x := (nI hx) - (nI hx) / 8 * 8) (y := nI (hx % 8)) (remI hx 8 (by omega) (by omega) (by omega) rfl) ?_
  refine g_iald C 0 (gmT (gmT (gmT (gmT (gmT (gmT (gmT (gmT gm0)))))))) ht0 (vp_in_nI (by omega) (by omega)) dX2_pass_14 ?_
  refine g_eqi (x := sun (nI (hx % 8)).toNatClampNeg) (y := sun (hx % 8)) (by rw [nI_clamp (by omega)]) ?_
  refine g_istore_n (lv' := [(1, .int (sun (hx % 8))), (0, .ref u13)]) C dX2_pass_15 rfl (by decide) rfl ?_
  refine g_iconst (v := 0) C dX2_pass_16 (by decide) ?_
  refine g_istore_n (lv' := [(2, .int 0), (1, .int (sun (hx % 8))), (0, .ref u13)]) C dX2_pass_17 rfl (by decide) rfl ?_
  have lp18_1 : ∀ (n9 : Nat) (i : Nat) (g : Nat → Int32) (hlo : ∀ c, c < i → g c = dry1 aw cover (sun (hx % 8)) (decide (hx % 2 = 0)) c) (hhi : ∀ c, i ≤ c → g c = aw c) (hi : i ≤ 80) (hn : 81 ≤ i + n9), G p l e ({ frames := 1, cells := 0, slots := 0, locals := 40 } : Room) s m args below meth c D A s.heap 3 0 0 Q 18 [(0, .ref u13), (1, .int (sun (hx % 8))), (2, .int (nI i))] [] ((u0, .inr (3, [.int th, .int (nI np), .ref u1, .ref u2, .ref u3, .ref u4, .ref u5, .ref u6, .ref u7, .ref u8, .ref u9, .ref u10, .ref u11, .ref u13])) :: (u1, .inl (cI, 100, .inl (fi))) :: (u2, .inl (cI, 100, .inl (le))) :: (u3, .inl (cI, 100, .inl (ac))) :: (u4, .inl (cI, 100, .inl (se))) :: (u5, .inl (cI, 100, .inl (hh))) :: (u6, .inl (cI, 100, .inl (ou))) :: (u7, .inl (cI, 80, .inl (cover))) :: (u8, .inl (cI, 8, .inl (sun))) :: (u9, .inl (cI, 80, .inl (rw))) :: (u10, .inl (cI, 80, .inl (fo))) :: (u11, .inr (2, [.int (nI hr), .ref u12, .ref u0])) :: (u12, .inl (cI, 80, .inl (wet))) :: (u13, .inr (2, [.int (nI hx), .ref u14, .ref u0])) :: (u14, .inl (cI, 80, .inl (g))) :: Z) := by
    intro n9
    induction n9 with
    | zero =>
      intro i g hlo hhi hi hn
      exfalso; omega
    | succ n9 ih =>
      intro i g hlo hhi hi hn
      refine g_iload_n C dX2_pass_18 rfl 2 rfl ?_
      refine g_bipush (v := 80) C dX2_pass_19 (by decide) ?_
      refine g_icmp_ge (tgt := 79) C dX2_pass_21 (by decide) (fun c_2 => ?_) (fun c_2 => ?_)
      · skip
        rw [show (80 : Int32) = nI 80 from rfl, nI_leI (by omega) (by omega)] at c_2
        refine g_cong (g := dry1 aw cover (sun (hx % 8)) (decide (hx % 2 = 0))) (ws' := ((u0, .inr (3, [.int th, .int (nI np), .ref u1, .ref u2, .ref u3, .ref u4, .ref u5, .ref u6, .ref u7, .ref u8, .ref u9, .ref u10, .ref u11, .ref u13])) :: (u1, .inl (cI, 100, .inl (fi))) :: (u2, .inl (cI, 100, .inl (le))) :: (u3, .inl (cI, 100, .inl (ac))) :: (u4, .inl (cI, 100, .inl (se))) :: (u5, .inl (cI, 100, .inl (hh))) :: (u6, .inl (cI, 100, .inl (ou))) :: (u7, .inl (cI, 80, .inl (cover))) :: (u8, .inl (cI, 8, .inl (sun))) :: (u9, .inl (cI, 80, .inl (rw))) :: (u10, .inl (cI, 80, .inl (fo))) :: (u11, .inr (2, [.int (nI hr), .ref u12, .ref u0])) :: (u12, .inl (cI, 80, .inl (wet))) :: (u13, .inr (2, [.int (nI hx), .ref u14, .ref u0])) :: (u14, .inl (cI, 80, .inl (dry1 aw cover (sun (hx % 8)) (decide (hx % 2 = 0))))) :: Z)) 14 rfl (fun j hj => hlo j (by omega)) rfl ?_
        refine g_aload_n C dX2_pass_79 rfl 0 rfl ?_
        refine g_dup C dX2_pass_80 rfl ?_
        refine g_get (v := .int (nI hx)) (ci := 2) (Cn := RX2) (T := TX2) (N := 3) C k_X2_pass_a_inX2 (gmT (gmT (gmT (gmT (gmT (gmT (gmT (gmT (gmT (gmT (gmT (gmT (gmT gm0))))))))))))) rfl 0 (by decide) k_X2_pass_a_3 rfl rfl dX2_pass_81 ?_
        refine g_iconst (v := 1) C dX2_pass_84 (by decide) ?_
        refine g_iadd C dX2_pass_85 ?_
        refine g_eqi (x := (nI hx) + 1) (y := nI (hx + 1)) (nI_add _ 1) ?_
        refine g_put (ci := 2) (Cn := RX2) (T := TX2) (N := 3) (ty := .int) (ws' := ((u0, .inr (3, [.int th, .int (nI np), .ref u1, .ref u2, .ref u3, .ref u4, .ref u5, .ref u6, .ref u7, .ref u8, .ref u9, .ref u10, .ref u11, .ref u13])) :: (u1, .inl (cI, 100, .inl (fi))) :: (u2, .inl (cI, 100, .inl (le))) :: (u3, .inl (cI, 100, .inl (ac))) :: (u4, .inl (cI, 100, .inl (se))) :: (u5, .inl (cI, 100, .inl (hh))) :: (u6, .inl (cI, 100, .inl (ou))) :: (u7, .inl (cI, 80, .inl (cover))) :: (u8, .inl (cI, 8, .inl (sun))) :: (u9, .inl (cI, 80, .inl (rw))) :: (u10, .inl (cI, 80, .inl (fo))) :: (u11, .inr (2, [.int (nI hr), .ref u12, .ref u0])) :: (u12, .inl (cI, 80, .inl (wet))) :: (u13, .inr (2, [.int (nI (hx + 1)), .ref u14, .ref u0])) :: (u14, .inl (cI, 80, .inl (dry1 aw cover (sun (hx % 8)) (decide (hx % 2 = 0))))) :: Z)) C k_X2_pass_a_inX2 tyX2 tyX2_ok nmX2 13 rfl rfl 0 (by decide) k_X2_pass_a_3 rfl rfl (by decide +kernel) rfl rfl (Nat.le_of_ble_eq_true rfl) dX2_pass_86 rfl ?_
        refine g_vret C hQ (Nat.le_of_ble_eq_true rfl) (Nat.le_of_ble_eq_true rfl) dX2_pass_89 ?_
        exact ⟨rfl, rfl⟩
      · skip
        rw [show (80 : Int32) = nI 80 from rfl, nI_leI (by omega) (by omega)] at c_2
        refine g_aload_n C dX2_pass_24 rfl 0 rfl ?_
        refine g_get (v := .ref u14) (ci := 2) (Cn := RX2) (T := TX2) (N := 3) C k_X2_pass_a_inX2 (gmT (gmT (gmT (gmT (gmT (gmT (gmT (gmT (gmT (gmT (gmT (gmT (gmT gm0))))))))))))) rfl 1 (by decide) k_X2_pass_a_4 rfl rfl dX2_pass_25 ?_
        refine g_iload_n C dX2_pass_28 rfl 2 rfl ?_
        refine g_iald C 0 (gmT (gmT (gmT (gmT (gmT (gmT (gmT (gmT (gmT (gmT (gmT (gmT (gmT (gmT gm0)))))))))))))) ht0 (vp_in_nI (by omega) (by omega)) dX2_pass_29 ?_
        refine g_eqi (x := g (nI i).toNatClampNeg) (y := aw i) (by rw [nI_clamp (by omega)]; exact hhi i (by omega)) ?_
        refine g_if_le (tgt := 73) C dX2_pass_30 (by decide) (fun c_3 => ?_) (fun c_3 => ?_)
        · skip
          refine g_iinc (v := nI (i + 1)) (lv' := [(2, .int (nI (i + 1))), (0, .ref u13), (1, .int (sun (hx % 8)))]) C dX2_pass_73 2 rfl (by exact nI_add _ 1) (by decide) rfl ?_
          refine g_goto (tgt := 18) C dX2_pass_76 (by decide) ?_
          refine g_sub [1, 2, 0] (lv' := [(0, .ref u13), (1, .int (sun (hx % 8))), (2, .int (nI (i + 1)))]) rfl ?_
          exact ih (i + 1) _ (lo_keep hlo hhi (by simp [dry1, i_1le, *])) (fun c hc => hhi c (by omega)) (by omega) (by omega)
        · skip
          refine g_aload_n C dX2_pass_33 rfl 0 rfl ?_
          refine g_get (v := .ref u0) (ci := 2) (Cn := RX2) (T := TX2) (N := 3) C k_X2_pass_a_inX2 (gmT (gmT (gmT (gmT (gmT (gmT (gmT (gmT (gmT (gmT (gmT (gmT (gmT gm0))))))))))))) rfl 2 (by decide) k_X2_pass_a_1 rfl rfl dX2_pass_34 ?_
          refine g_getN (host := "WetMosaicModel") (v := .ref u7) (ci := 3) (Cn := RX3) (T := TX3) (N := 14) C k_X2_pass_a_inX3 gm0 rfl 8 (by decide) (by decide +kernel) rfl rfl dX2_pass_37 ?_
          refine g_iload_n C dX2_pass_40 rfl 2 rfl ?_
          refine g_iald C 0 (gmT (gmT (gmT (gmT (gmT (gmT (gmT gm0))))))) ht0 (vp_in_nI (by omega) (by omega)) dX2_pass_41 ?_
          refine g_eqi (x := cover (nI i).toNatClampNeg) (y := cover i) (by rw [nI_clamp (by omega)]) ?_
          refine g_iconst (v := (-1)) C dX2_pass_42 (by decide) ?_
          refine g_icmp_eq (tgt := 55) C dX2_pass_43 (by decide) (fun c_4 => ?_) (fun c_4 => ?_)
          · skip
            refine g_aload_n C dX2_pass_55 rfl 0 rfl ?_
            refine g_get (v := .ref u14) (ci := 2) (Cn := RX2) (T := TX2) (N := 3) C k_X2_pass_a_inX2 (gmT (gmT (gmT (gmT (gmT (gmT (gmT (gmT (gmT (gmT (gmT (gmT (gmT gm0))))))))))))) rfl 1 (by decide) k_X2_pass_a_4 rfl rfl dX2_pass_56 ?_
            refine g_iload_n C dX2_pass_59 rfl 2 rfl ?_
            refine g_iconst (v := 0) C dX2_pass_60 (by decide) ?_
            refine g_aload_n C dX2_pass_61 rfl 0 rfl ?_
            refine g_get (v := .ref u14) (ci := 2) (Cn := RX2) (T := TX2) (N := 3) C k_X2_pass_a_inX2 (gmT (gmT (gmT (gmT (gmT (gmT (gmT (gmT (gmT (gmT (gmT (gmT (gmT gm0))))))))))))) rfl 1 (by decide) k_X2_pass_a_4 rfl rfl dX2_pass_62 ?_
            refine g_iload_n C dX2_pass_65 rfl 2 rfl ?_
            refine g_iald C 0 (gmT (gmT (gmT (gmT (gmT (gmT (gmT (gmT (gmT (gmT (gmT (gmT (gmT (gmT gm0)))))))))))))) ht0 (vp_in_nI (by omega) (by omega)) dX2_pass_66 ?_
            refine g_eqi (x := g (nI i).toNatClampNeg) (y := aw i) (by rw [nI_clamp (by omega)]; exact hhi i (by omega)) ?_
            refine g_iload_n C dX2_pass_67 rfl 1 rfl ?_
            refine g_isub C dX2_pass_68 ?_
            refine g_max C k_X2_pass_a_5 k_X2_pass_a_6 k_X2_pass_a_7 k_X2_pass_a_8 (Nat.le_of_ble_eq_true rfl) (Nat.le_of_ble_eq_true rfl) (Nat.le_of_ble_eq_true rfl) (Nat.le_of_ble_eq_true rfl) dX2_pass_69 ?_
            refine g_iast (ws' := ((u0, .inr (3, [.int th, .int (nI np), .ref u1, .ref u2, .ref u3, .ref u4, .ref u5, .ref u6, .ref u7, .ref u8, .ref u9, .ref u10, .ref u11, .ref u13])) :: (u1, .inl (cI, 100, .inl (fi))) :: (u2, .inl (cI, 100, .inl (le))) :: (u3, .inl (cI, 100, .inl (ac))) :: (u4, .inl (cI, 100, .inl (se))) :: (u5, .inl (cI, 100, .inl (hh))) :: (u6, .inl (cI, 100, .inl (ou))) :: (u7, .inl (cI, 80, .inl (cover))) :: (u8, .inl (cI, 8, .inl (sun))) :: (u9, .inl (cI, 80, .inl (rw))) :: (u10, .inl (cI, 80, .inl (fo))) :: (u11, .inr (2, [.int (nI hr), .ref u12, .ref u0])) :: (u12, .inl (cI, 80, .inl (wet))) :: (u13, .inr (2, [.int (nI hx), .ref u14, .ref u0])) :: (u14, .inl (cI, 80, .inl (upd g (nI i).toNatClampNeg (if 0 < (aw i) - (sun (hx % 8)) then (aw i) - (sun (hx % 8)) else 0)))) :: Z)) C 14 0 rfl ht0 (vp_in_nI (by omega) (by omega)) dX2_pass_72 rfl ?_
            rw [nI_clamp (n := i) (by omega)]
            refine g_iinc (v := nI (i + 1)) (lv' := [(2, .int (nI (i + 1))), (0, .ref u13), (1, .int (sun (hx % 8)))]) C dX2_pass_73 2 rfl (by exact nI_add _ 1) (by decide) rfl ?_
            refine g_goto (tgt := 18) C dX2_pass_76 (by decide) ?_
            refine g_sub [1, 2, 0] (lv' := [(0, .ref u13), (1, .int (sun (hx % 8))), (2, .int (nI (i + 1)))]) rfl ?_
            exact ih (i + 1) _ (lo_put hlo (by simp [dry1, i_1le, *])) (hi_put hhi) (by omega) (by omega)
          · skip
            refine g_aload_n C dX2_pass_46 rfl 0 rfl ?_
            refine g_get (v := .int (nI hx)) (ci := 2) (Cn := RX2) (T := TX2) (N := 3) C k_X2_pass_a_inX2 (gmT (gmT (gmT (gmT (gmT (gmT (gmT (gmT (gmT (gmT (gmT (gmT (gmT gm0))))))))))))) rfl 0 (by decide) k_X2_pass_a_3 rfl rfl dX2_pass_47 ?_
            refine g_iconst (v := 2) C dX2_pass_50 (by decide) ?_
            refine g_irem C dX2_pass_51 (by decide) ?_
            refine g_eqi (x := (nI hx) - (nI hx) / 2 * 2) (y := nI (hx % 2)) (remI hx 2 (by omega) (by omega) (by omega) rfl) ?_
            refine g_if_ne (tgt := 73) C dX2_pass_52 (by decide) (fun c_5 => ?_) (fun c_5 => ?_)
            · skip
              rw [show (0 : Int32) = nI 0 from rfl, nI_eq (by omega) (by omega)] at c_5
              refine g_iinc (v := nI (i + 1)) (lv' := [(2, .int (nI (i + 1))), (0, .ref u13), (1, .int (sun (hx % 8)))]) C dX2_pass_73 2 rfl (by exact nI_add _ 1) (by decide) rfl ?_
              refine g_goto (tgt := 18) C dX2_pass_76 (by decide) ?_
              refine g_sub [1, 2, 0] (lv' := [(0, .ref u13), (1, .int (sun (hx % 8))), (2, .int (nI (i + 1)))]) rfl ?_
              exact ih (i + 1) _ (lo_keep hlo hhi (by simp [dry1, i_1le, *])) (fun c hc => hhi c (by omega)) (by omega) (by omega)
            · skip
              rw [show (0 : Int32) = nI 0 from rfl, nI_eq (by omega) (by omega)] at c_5
              refine g_aload_n C dX2_pass_55 rfl 0 rfl ?_
              refine g_get (v := .ref u14) (ci := 2) (Cn := RX2) (T := TX2) (N := 3) C k_X2_pass_a_inX2 (gmT (gmT (gmT (gmT (gmT (gmT (gmT (gmT (gmT (gmT (gmT (gmT (gmT gm0))))))))))))) rfl 1 (by decide) k_X2_pass_a_4 rfl rfl dX2_pass_56 ?_
              refine g_iload_n C dX2_pass_59 rfl 2 rfl ?_
              refine g_iconst (v := 0) C dX2_pass_60 (by decide) ?_
              refine g_aload_n C dX2_pass_61 rfl 0 rfl ?_
              refine g_get (v := .ref u14) (ci := 2) (Cn := RX2) (T := TX2) (N := 3) C k_X2_pass_a_inX2 (gmT (gmT (gmT (gmT (gmT (gmT (gmT (gmT (gmT (gmT (gmT (gmT (gmT gm0))))))))))))) rfl 1 (by decide) k_X2_pass_a_4 rfl rfl dX2_pass_62 ?_
              refine g_iload_n C dX2_pass_65 rfl 2 rfl ?_
              refine g_iald C 0 (gmT (gmT (gmT (gmT (gmT (gmT (gmT (gmT (gmT (gmT (gmT (gmT (gmT (gmT gm0)))))))))))))) ht0 (vp_in_nI (by omega) (by omega)) dX2_pass_66 ?_
              refine g_eqi (x := g (nI i).toNatClampNeg) (y := aw i) (by rw [nI_clamp (by omega)]; exact hhi i (by omega)) ?_
              refine g_iload_n C dX2_pass_67 rfl 1 rfl ?_
              refine g_isub C dX2_pass_68 ?_
              refine g_max C k_X2_pass_a_5 k_X2_pass_a_6 k_X2_pass_a_7 k_X2_pass_a_8 (Nat.le_of_ble_eq_true rfl) (Nat.le_of_ble_eq_true rfl) (Nat.le_of_ble_eq_true rfl) (Nat.le_of_ble_eq_true rfl) dX2_pass_69 ?_
              refine g_iast (ws' := ((u0, .inr (3, [.int th, .int (nI np), .ref u1, .ref u2, .ref u3, .ref u4, .ref u5, .ref u6, .ref u7, .ref u8, .ref u9, .ref u10, .ref u11, .ref u13])) :: (u1, .inl (cI, 100, .inl (fi))) :: (u2, .inl (cI, 100, .inl (le))) :: (u3, .inl (cI, 100, .inl (ac))) :: (u4, .inl (cI, 100, .inl (se))) :: (u5, .inl (cI, 100, .inl (hh))) :: (u6, .inl (cI, 100, .inl (ou))) :: (u7, .inl (cI, 80, .inl (cover))) :: (u8, .inl (cI, 8, .inl (sun))) :: (u9, .inl (cI, 80, .inl (rw))) :: (u10, .inl (cI, 80, .inl (fo))) :: (u11, .inr (2, [.int (nI hr), .ref u12, .ref u0])) :: (u12, .inl (cI, 80, .inl (wet))) :: (u13, .inr (2, [.int (nI hx), .ref u14, .ref u0])) :: (u14, .inl (cI, 80, .inl (upd g (nI i).toNatClampNeg (if 0 < (aw i) - (sun (hx % 8)) then (aw i) - (sun (hx % 8)) else 0)))) :: Z)) C 14 0 rfl ht0 (vp_in_nI (by omega) (by omega)) dX2_pass_72 rfl ?_
              rw [nI_clamp (n := i) (by omega)]
              refine g_iinc (v := nI (i + 1)) (lv' := [(2, .int (nI (i + 1))), (0, .ref u13), (1, .int (sun (hx % 8)))]) C dX2_pass_73 2 rfl (by exact nI_add _ 1) (by decide) rfl ?_
              refine g_goto (tgt := 18) C dX2_pass_76 (by decide) ?_
              refine g_sub [1, 2, 0] (lv' := [(0, .ref u13), (1, .int (sun (hx % 8))), (2, .int (nI (i + 1)))]) rfl ?_
              exact ih (i + 1) _ (lo_put hlo (by simp [dry1, i_1le, *])) (hi_put hhi) (by omega) (by omega)
  refine g_sub [2, 1, 0] (lv' := [(0, .ref u13), (1, .int (sun (hx % 8))), (2, .int 0)]) rfl ?_
  exact lp18_1 81 0 aw (fun c hc => absurd hc (Nat.not_lt_zero c)) (fun c hc => rfl) (by omega) (by omega)
