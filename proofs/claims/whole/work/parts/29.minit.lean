theorem k_X2_init_inX2 : ∀ w ∈ wsX20, w ∈ wsX2_init := by decide +kernel
theorem k_X2_init_1 : Cond.fieldLink RX2 3 "WetMosaicModel$State" "this$0" "LWetMosaicModel;" ∈ wsX2_init := by decide +kernel
theorem k_X2_init_2 : Cond.methodLink RX2 9 Lib.objectInit ∈ wsX2_init := by decide +kernel
theorem k_X2_init_3 : Cond.instanceMethod Lib.objectInit ∈ wsX2_init := by decide +kernel
theorem k_X2_init_4 : Cond.code Lib.objectInit ⟨#[0xb1]⟩ 1 none ∈ wsX2_init := by decide +kernel
theorem k_X2_init_5 : Cond.arrayClass .int ∈ wsX2_init := by decide +kernel
theorem k_X2_init_6 : Cond.fieldLink RX2 15 "WetMosaicModel$State" "wet" "[I" ∈ wsX2_init := by decide +kernel
set_option maxHeartbeats 4000000 in
set_option maxRecDepth 100000 in
theorem c_X2_init (l : Launch) (D : va_G) (tys : List (ClassId × FieldType)) (cI : ClassId) (ht0 : tys[0]? = some (cI, .int)) (Z : va_W) (so u0 : Nat) : gM l yX2_init wsX2_init ({ frames := 1, cells := 1, slots := 80, locals := 12 } : Room) D tys [.ref so, .ref u0] ((so, .inr (2, [.int 0, .null, .null])) :: Z) (fun u w => u = none ∧ ∃ nw, w = ((nw, .inl (cI, 80, .inl (fun _ => 0))) :: (so, .inr (2, [.int 0, .ref nw, .ref u0])) :: Z)) 1 80 := by
  refine gM_of (by decide +kernel) rfl (Nat.le_of_ble_eq_true rfl) ?_
  intro p e s m args below meth c A Q hin C hQ
  refine g_sub [0, 1] (lv' := [(0, .ref so), (1, .ref u0)]) rfl ?_
  refine g_aload_n C dX2_init_0 rfl 0 rfl ?_
  refine g_aload_n C dX2_init_1 rfl 1 rfl ?_
  refine g_putF (ci := 2) (Cn := RX2) (T := TX2) (N := 3) (ty := .object "WetMosaicModel") (ws' := ((so, .inr (2, [.int 0, .null, .ref u0])) :: Z)) C hin k_X2_init_inX2 tyX2 tyX2_ok nmX2 0 rfl rfl 2 (by decide) k_X2_init_1 rfl rfl rfl (by decide +kernel) rfl rfl (Nat.le_of_ble_eq_true rfl) dX2_init_2 rfl ?_
  refine g_aload_n C dX2_init_5 rfl 0 rfl ?_
  refine g_objInit C k_X2_init_2 k_X2_init_3 k_X2_init_4 (Nat.le_of_ble_eq_true rfl) (Nat.le_of_ble_eq_true rfl) dX2_init_6 ?_
  refine g_aload_n C dX2_init_9 rfl 0 rfl ?_
  refine g_bipush (v := 80) C dX2_init_10 (by decide) ?_
  refine g_newa (N0 := 80) C 0 ht0 k_X2_init_5 (by decide) (by decide) (by decide) (Nat.le_of_ble_eq_true rfl) (Nat.le_of_ble_eq_true rfl) dX2_init_12 (fun n12 => ?_)
  refine g_perm (ws' := ((n12, .inl (cI, 80, .inl (fun _ => 0))) :: (so, .inr (2, [.int 0, .null, .ref u0])) :: Z)) (List.perm_append_singleton _ _) ?_
  refine g_more (k2 := 1) (n2 := 80) (Nat.le_of_ble_eq_true rfl) (Nat.le_of_ble_eq_true rfl) ?_
  refine g_putF (ci := 2) (Cn := RX2) (T := TX2) (N := 3) (ty := .array .int) (ws' := ((n12, .inl (cI, 80, .inl (fun _ => 0))) :: (so, .inr (2, [.int 0, .ref n12, .ref u0])) :: Z)) C hin k_X2_init_inX2 tyX2 tyX2_ok nmX2 1 rfl rfl 1 (by decide) k_X2_init_6 rfl rfl rfl (by decide +kernel) rfl rfl (Nat.le_of_ble_eq_true rfl) dX2_init_14 rfl ?_
  refine g_vret C hQ (Nat.le_of_ble_eq_true rfl) (Nat.le_of_ble_eq_true rfl) dX2_init_17 ?_
  exact ⟨rfl, _, rfl⟩

theorem k_X3_init_0 : Cond.methodLink RX3 3 Lib.objectInit ∈ wsX3_init := by decide +kernel
theorem k_X3_init_1 : Cond.instanceMethod Lib.objectInit ∈ wsX3_init := by decide +kernel
theorem k_X3_init_2 : Cond.code Lib.objectInit ⟨#[0xb1]⟩ 1 none ∈ wsX3_init := by decide +kernel
theorem k_X3_init_3 : Cond.arrayClass .int ∈ wsX3_init := by decide +kernel
theorem k_X3_init_inX3 : ∀ w ∈ wsX30, w ∈ wsX3_init := by decide +kernel
theorem k_X3_init_5 : Cond.fieldLink RX3 9 "WetMosaicModel" "first" "[I" ∈ wsX3_init := by decide +kernel
theorem k_X3_init_6 : Cond.fieldLink RX3 13 "WetMosaicModel" "length" "[I" ∈ wsX3_init := by decide +kernel
theorem k_X3_init_7 : Cond.fieldLink RX3 16 "WetMosaicModel" "across" "[I" ∈ wsX3_init := by decide +kernel
theorem k_X3_init_8 : Cond.fieldLink RX3 19 "WetMosaicModel" "seen" "[I" ∈ wsX3_init := by decide +kernel
theorem k_X3_init_9 : Cond.fieldLink RX3 22 "WetMosaicModel" "hidden" "[I" ∈ wsX3_init := by decide +kernel
theorem k_X3_init_10 : Cond.fieldLink RX3 25 "WetMosaicModel" "isOut" "[I" ∈ wsX3_init := by decide +kernel
theorem k_X3_init_11 : Cond.fieldLink RX3 28 "WetMosaicModel" "cover" "[I" ∈ wsX3_init := by decide +kernel
theorem k_X3_init_12 : Cond.fieldLink RX3 31 "WetMosaicModel" "sun" "[I" ∈ wsX3_init := by decide +kernel
theorem k_X3_init_13 : Cond.fieldLink RX3 34 "WetMosaicModel" "row" "[I" ∈ wsX3_init := by decide +kernel
theorem k_X3_init_14 : Cond.fieldLink RX3 37 "WetMosaicModel" "found" "[I" ∈ wsX3_init := by decide +kernel
theorem k_X3_init_inX2 : ∀ w ∈ wsX20, w ∈ wsX3_init := by decide +kernel
theorem k_X3_init_16 : Cond.classLink RX3 40 RX2 ∈ wsX3_init := by decide +kernel
theorem k_X3_init_17 : Cond.instantiable RX2 3 ∈ wsX3_init := by decide +kernel
theorem k_X3_init_18 : Cond.initialized RX2 ∈ wsX3_init := by decide +kernel
theorem k_X3_init_19 : Cond.instanceMethod yX2_init ∈ wsX3_init := by decide +kernel
theorem k_X3_init_20 : Cond.fieldLink RX3 45 "WetMosaicModel" "s" "LWetMosaicModel$State;" ∈ wsX3_init := by decide +kernel
theorem k_X3_init_21 : Cond.fieldLink RX3 49 "WetMosaicModel" "ahead" "LWetMosaicModel$State;" ∈ wsX3_init := by decide +kernel
set_option maxHeartbeats 4000000 in
set_option maxRecDepth 100000 in
theorem c_X3_init (l : Launch) (D : va_G) (tys : List (ClassId × FieldType)) (cI : ClassId) (ht0 : tys[0]? = some (cI, .int)) (Z : va_W) (u0 : Nat) : gM l yX3_init wsX3_init ({ frames := 2, cells := 14, slots := 1014, locals := 33 } : Room) D tys [.ref u0] ((u0, .inr (3, [.int 0, .int 0, .null, .null, .null, .null, .null, .null, .null, .null, .null, .null, .null, .null])) :: Z) (fun u w => u = none ∧ ∃ n7 n15 n23 n31 n39 n47 n55 n63 n71 n79 q85 wq85 q97 wq97, w = ((u0, .inr (3, [.int 0, .int 0, .ref n7, .ref n15, .ref n23, .ref n31, .ref n39, .ref n47, .ref n55, .ref n63, .ref n71, .ref n79, .ref q85, .ref q97])) :: (n7, .inl (cI, 100, .inl (fun _ => 0))) :: (n15, .inl (cI, 100, .inl (fun _ => 0))) :: (n23, .inl (cI, 100, .inl (fun _ => 0))) :: (n31, .inl (cI, 100, .inl (fun _ => 0))) :: (n39, .inl (cI, 100, .inl (fun _ => 0))) :: (n47, .inl (cI, 100, .inl (fun _ => 0))) :: (n55, .inl (cI, 80, .inl (fun _ => -1))) :: (n63, .inl (cI, 8, .inl (fun _ => 1))) :: (n71, .inl (cI, 80, .inl (fun _ => 0))) :: (n79, .inl (cI, 80, .inl (fun _ => 0))) :: (q85, .inr (2, [.int 0, .ref wq85, .ref u0])) :: (wq85, .inl (cI, 80, .inl (fun _ => -1))) :: (q97, .inr (2, [.int 0, .ref wq97, .ref u0])) :: (wq97, .inl (cI, 80, .inl (fun _ => 0))) :: Z)) 14 1014 := by
  refine gM_of (by decide +kernel) rfl (Nat.le_of_ble_eq_true rfl) ?_
  intro p e s m args below meth c A Q hin C hQ
  refine g_sub [0] (lv' := [(0, .ref u0)]) rfl ?_
  refine g_aload_n C dX3_init_0 rfl 0 rfl ?_
  refine g_objInit C k_X3_init_0 k_X3_init_1 k_X3_init_2 (Nat.le_of_ble_eq_true rfl) (Nat.le_of_ble_eq_true rfl) dX3_init_1 ?_
  refine g_aload_n C dX3_init_4 rfl 0 rfl ?_
  refine g_bipush (v := 100) C dX3_init_5 (by decide) ?_
  refine g_newa (N0 := 100) C 0 ht0 k_X3_init_3 (by decide) (by decide) (by decide) (Nat.le_of_ble_eq_true rfl) (Nat.le_of_ble_eq_true rfl) dX3_init_7 (fun n7 => ?_)
  refine g_perm (ws' := ((n7, .inl (cI, 100, .inl (fun _ => 0))) :: (u0, .inr (3, [.int 0, .int 0, .null, .null, .null, .null, .null, .null, .null, .null, .null, .null, .null, .null])) :: Z)) (List.perm_append_singleton _ _) ?_
  refine g_more (k2 := 1) (n2 := 100) (Nat.le_of_ble_eq_true rfl) (Nat.le_of_ble_eq_true rfl) ?_
  refine g_putF (ci := 3) (Cn := RX3) (T := TX3) (N := 14) (ty := .array .int) (ws' := ((n7, .inl (cI, 100, .inl (fun _ => 0))) :: (u0, .inr (3, [.int 0, .int 0, .ref n7, .null, .null, .null, .null, .null, .null, .null, .null, .null, .null, .null])) :: Z)) C hin k_X3_init_inX3 tyX3 tyX3_ok nmX3 1 rfl rfl 2 (by decide) k_X3_init_5 rfl rfl rfl (by decide +kernel) rfl rfl (Nat.le_of_ble_eq_true rfl) dX3_init_9 rfl ?_
  refine g_aload_n C dX3_init_12 rfl 0 rfl ?_
  refine g_bipush (v := 100) C dX3_init_13 (by decide) ?_
  refine g_newa (N0 := 100) C 0 ht0 k_X3_init_3 (by decide) (by decide) (by decide) (Nat.le_of_ble_eq_true rfl) (Nat.le_of_ble_eq_true rfl) dX3_init_15 (fun n15 => ?_)
  refine g_perm (ws' := ((n15, .inl (cI, 100, .inl (fun _ => 0))) :: (n7, .inl (cI, 100, .inl (fun _ => 0))) :: (u0, .inr (3, [.int 0, .int 0, .ref n7, .null, .null, .null, .null, .null, .null, .null, .null, .null, .null, .null])) :: Z)) (List.perm_append_singleton _ _) ?_
  refine g_more (k2 := 2) (n2 := 200) (Nat.le_of_ble_eq_true rfl) (Nat.le_of_ble_eq_true rfl) ?_
  refine g_putF (ci := 3) (Cn := RX3) (T := TX3) (N := 14) (ty := .array .int) (ws' := ((n15, .inl (cI, 100, .inl (fun _ => 0))) :: (n7, .inl (cI, 100, .inl (fun _ => 0))) :: (u0, .inr (3, [.int 0, .int 0, .ref n7, .ref n15, .null, .null, .null, .null, .null, .null, .null, .null, .null, .null])) :: Z)) C hin k_X3_init_inX3 tyX3 tyX3_ok nmX3 2 rfl rfl 3 (by decide) k_X3_init_6 rfl rfl rfl (by decide +kernel) rfl rfl (Nat.le_of_ble_eq_true rfl) dX3_init_17 rfl ?_
  refine g_aload_n C dX3_init_20 rfl 0 rfl ?_
  refine g_bipush (v := 100) C dX3_init_21 (by decide) ?_
  refine g_newa (N0 := 100) C 0 ht0 k_X3_init_3 (by decide) (by decide) (by decide) (Nat.le_of_ble_eq_true rfl) (Nat.le_of_ble_eq_true rfl) dX3_init_23 (fun n23 => ?_)
  refine g_perm (ws' := ((n23, .inl (cI, 100, .inl (fun _ => 0))) :: (n15, .inl (cI, 100, .inl (fun _ => 0))) :: (n7, .inl (cI, 100, .inl (fun _ => 0))) :: (u0, .inr (3, [.int 0, .int 0, .ref n7, .ref n15, .null, .null, .null, .null, .null, .null, .null, .null, .null, .null])) :: Z)) (List.perm_append_singleton _ _) ?_
  refine g_more (k2 := 3) (n2 := 300) (Nat.le_of_ble_eq_true rfl) (Nat.le_of_ble_eq_true rfl) ?_
  refine g_putF (ci := 3) (Cn := RX3) (T := TX3) (N := 14) (ty := .array .int) (ws' := ((n23, .inl (cI, 100, .inl (fun _ => 0))) :: (n15, .inl (cI, 100, .inl (fun _ => 0))) :: (n7, .inl (cI, 100, .inl (fun _ => 0))) :: (u0, .inr (3, [.int 0, .int 0, .ref n7, .ref n15, .ref n23, .null, .null, .null, .null, .null, .null, .null, .null, .null])) :: Z)) C hin k_X3_init_inX3 tyX3 tyX3_ok nmX3 3 rfl rfl 4 (by decide) k_X3_init_7 rfl rfl rfl (by decide +kernel) rfl rfl (Nat.le_of_ble_eq_true rfl) dX3_init_25 rfl ?_
  refine g_aload_n C dX3_init_28 rfl 0 rfl ?_
  refine g_bipush (v := 100) C dX3_init_29 (by decide) ?_
  refine g_newa (N0 := 100) C 0 ht0 k_X3_init_3 (by decide) (by decide) (by decide) (Nat.le_of_ble_eq_true rfl) (Nat.le_of_ble_eq_true rfl) dX3_init_31 (fun n31 => ?_)
  refine g_perm (ws' := ((n31, .inl (cI, 100, .inl (fun _ => 0))) :: (n23, .inl (cI, 100, .inl (fun _ => 0))) :: (n15, .inl (cI, 100, .inl (fun _ => 0))) :: (n7, .inl (cI, 100, .inl (fun _ => 0))) :: (u0, .inr (3, [.int 0, .int 0, .ref n7, .ref n15, .ref n23, .null, .null, .null, .null, .null, .null, .null, .null, .null])) :: Z)) (List.perm_append_singleton _ _) ?_
  refine g_more (k2 := 4) (n2 := 400) (Nat.le_of_ble_eq_true rfl) (Nat.le_of_ble_eq_true rfl) ?_
  refine g_putF (ci := 3) (Cn := RX3) (T := TX3) (N := 14) (ty := .array .int) (ws' := ((n31, .inl (cI, 100, .inl (fun _ => 0))) :: (n23, .inl (cI, 100, .inl (fun _ => 0))) :: (n15, .inl (cI, 100, .inl (fun _ => 0))) :: (n7, .inl (cI, 100, .inl (fun _ => 0))) :: (u0, .inr (3, [.int 0, .int 0, .ref n7, .ref n15, .ref n23, .ref n31, .null, .null, .null, .null, .null, .null, .null, .null])) :: Z)) C hin k_X3_init_inX3 tyX3 tyX3_ok nmX3 4 rfl rfl 5 (by decide) k_X3_init_8 rfl rfl rfl (by decide +kernel) rfl rfl (Nat.le_of_ble_eq_true rfl) dX3_init_33 rfl ?_
  refine g_aload_n C dX3_init_36 rfl 0 rfl ?_
  refine g_bipush (v := 100) C dX3_init_37 (by decide) ?_
  refine g_newa (N0 := 100) C 0 ht0 k_X3_init_3 (by decide) (by decide) (by decide) (Nat.le_of_ble_eq_true rfl) (Nat.le_of_ble_eq_true rfl) dX3_init_39 (fun n39 => ?_)
  refine g_perm (ws' := ((n39, .inl (cI, 100, .inl (fun _ => 0))) :: (n31, .inl (cI, 100, .inl (fun _ => 0))) :: (n23, .inl (cI, 100, .inl (fun _ => 0))) :: (n15, .inl (cI, 100, .inl (fun _ => 0))) :: (n7, .inl (cI, 100, .inl (fun _ => 0))) :: (u0, .inr (3, [.int 0, .int 0, .ref n7, .ref n15, .ref n23, .ref n31, .null, .null, .null, .null, .null, .null, .null, .null])) :: Z)) (List.perm_append_singleton _ _) ?_
  refine g_more (k2 := 5) (n2 := 500) (Nat.le_of_ble_eq_true rfl) (Nat.le_of_ble_eq_true rfl) ?_
  refine g_putF (ci := 3) (Cn := RX3) (T := TX3) (N := 14) (ty := .array .int) (ws' := ((n39, .inl (cI, 100, .inl (fun _ => 0))) :: (n31, .inl (cI, 100, .inl (fun _ => 0))) :: (n23, .inl (cI, 100, .inl (fun _ => 0))) :: (n15, .inl (cI, 100, .inl (fun _ => 0))) :: (n7, .inl (cI, 100, .inl (fun _ => 0))) :: (u0, .inr (3, [.int 0, .int 0, .ref n7, .ref n15, .ref n23, .ref n31, .ref n39, .null, .null, .null, .null, .null, .null, .null])) :: Z)) C hin k_X3_init_inX3 tyX3 tyX3_ok nmX3 5 rfl rfl 6 (by decide) k_X3_init_9 rfl rfl rfl (by decide +kernel) rfl rfl (Nat.le_of_ble_eq_true rfl) dX3_init_41 rfl ?_
  refine g_aload_n C dX3_init_44 rfl 0 rfl ?_
  refine g_bipush (v := 100) C dX3_init_45 (by decide) ?_
  refine g_newa (N0 := 100) C 0 ht0 k_X3_init_3 (by decide) (by decide) (by decide) (Nat.le_of_ble_eq_true rfl) (Nat.le_of_ble_eq_true rfl) dX3_init_47 (fun n47 => ?_)
  refine g_perm (ws' := ((n47, .inl (cI, 100, .inl (fun _ => 0))) :: (n39, .inl (cI, 100, .inl (fun _ => 0))) :: (n31, .inl (cI, 100, .inl (fun _ => 0))) :: (n23, .inl (cI, 100, .inl (fun _ => 0))) :: (n15, .inl (cI, 100, .inl (fun _ => 0))) :: (n7, .inl (cI, 100, .inl (fun _ => 0))) :: (u0, .inr (3, [.int 0, .int 0, .ref n7, .ref n15, .ref n23, .ref n31, .ref n39, .null, .null, .null, .null, .null, .null, .null])) :: Z)) (List.perm_append_singleton _ _) ?_
  refine g_more (k2 := 6) (n2 := 600) (Nat.le_of_ble_eq_true rfl) (Nat.le_of_ble_eq_true rfl) ?_
  refine g_putF (ci := 3) (Cn := RX3) (T := TX3) (N := 14) (ty := .array .int) (ws' := ((n47, .inl (cI, 100, .inl (fun _ => 0))) :: (n39, .inl (cI, 100, .inl (fun _ => 0))) :: (n31, .inl (cI, 100, .inl (fun _ => 0))) :: (n23, .inl (cI, 100, .inl (fun _ => 0))) :: (n15, .inl (cI, 100, .inl (fun _ => 0))) :: (n7, .inl (cI, 100, .inl (fun _ => 0))) :: (u0, .inr (3, [.int 0, .int 0, .ref n7, .ref n15, .ref n23, .ref n31, .ref n39, .ref n47, .null, .null, .null, .null, .null, .null])) :: Z)) C hin k_X3_init_inX3 tyX3 tyX3_ok nmX3 6 rfl rfl 7 (by decide) k_X3_init_10 rfl rfl rfl (by decide +kernel) rfl rfl (Nat.le_of_ble_eq_true rfl) dX3_init_49 rfl ?_
  refine g_aload_n C dX3_init_52 rfl 0 rfl ?_
  refine g_bipush (v := 80) C dX3_init_53 (by decide) ?_
  refine g_newa (N0 := 80) C 0 ht0 k_X3_init_3 (by decide) (by decide) (by decide) (Nat.le_of_ble_eq_true rfl) (Nat.le_of_ble_eq_true rfl) dX3_init_55 (fun n55 => ?_)
  refine g_perm (ws' := ((n55, .inl (cI, 80, .inl (fun _ => 0))) :: (n47, .inl (cI, 100, .inl (fun _ => 0))) :: (n39, .inl (cI, 100, .inl (fun _ => 0))) :: (n31, .inl (cI, 100, .inl (fun _ => 0))) :: (n23, .inl (cI, 100, .inl (fun _ => 0))) :: (n15, .inl (cI, 100, .inl (fun _ => 0))) :: (n7, .inl (cI, 100, .inl (fun _ => 0))) :: (u0, .inr (3, [.int 0, .int 0, .ref n7, .ref n15, .ref n23, .ref n31, .ref n39, .ref n47, .null, .null, .null, .null, .null, .null])) :: Z)) (List.perm_append_singleton _ _) ?_
  refine g_more (k2 := 7) (n2 := 680) (Nat.le_of_ble_eq_true rfl) (Nat.le_of_ble_eq_true rfl) ?_
  refine g_putF (ci := 3) (Cn := RX3) (T := TX3) (N := 14) (ty := .array .int) (ws' := ((n55, .inl (cI, 80, .inl (fun _ => 0))) :: (n47, .inl (cI, 100, .inl (fun _ => 0))) :: (n39, .inl (cI, 100, .inl (fun _ => 0))) :: (n31, .inl (cI, 100, .inl (fun _ => 0))) :: (n23, .inl (cI, 100, .inl (fun _ => 0))) :: (n15, .inl (cI, 100, .inl (fun _ => 0))) :: (n7, .inl (cI, 100, .inl (fun _ => 0))) :: (u0, .inr (3, [.int 0, .int 0, .ref n7, .ref n15, .ref n23, .ref n31, .ref n39, .ref n47, .ref n55, .null, .null, .null, .null, .null])) :: Z)) C hin k_X3_init_inX3 tyX3 tyX3_ok nmX3 7 rfl rfl 8 (by decide) k_X3_init_11 rfl rfl rfl (by decide +kernel) rfl rfl (Nat.le_of_ble_eq_true rfl) dX3_init_57 rfl ?_
  refine g_aload_n C dX3_init_60 rfl 0 rfl ?_
  refine g_bipush (v := 8) C dX3_init_61 (by decide) ?_
  refine g_newa (N0 := 8) C 0 ht0 k_X3_init_3 (by decide) (by decide) (by decide) (Nat.le_of_ble_eq_true rfl) (Nat.le_of_ble_eq_true rfl) dX3_init_63 (fun n63 => ?_)
  refine g_perm (ws' := ((n63, .inl (cI, 8, .inl (fun _ => 0))) :: (n55, .inl (cI, 80, .inl (fun _ => 0))) :: (n47, .inl (cI, 100, .inl (fun _ => 0))) :: (n39, .inl (cI, 100, .inl (fun _ => 0))) :: (n31, .inl (cI, 100, .inl (fun _ => 0))) :: (n23, .inl (cI, 100, .inl (fun _ => 0))) :: (n15, .inl (cI, 100, .inl (fun _ => 0))) :: (n7, .inl (cI, 100, .inl (fun _ => 0))) :: (u0, .inr (3, [.int 0, .int 0, .ref n7, .ref n15, .ref n23, .ref n31, .ref n39, .ref n47, .ref n55, .null, .null, .null, .null, .null])) :: Z)) (List.perm_append_singleton _ _) ?_
  refine g_more (k2 := 8) (n2 := 688) (Nat.le_of_ble_eq_true rfl) (Nat.le_of_ble_eq_true rfl) ?_
  refine g_putF (ci := 3) (Cn := RX3) (T := TX3) (N := 14) (ty := .array .int) (ws' := ((n63, .inl (cI, 8, .inl (fun _ => 0))) :: (n55, .inl (cI, 80, .inl (fun _ => 0))) :: (n47, .inl (cI, 100, .inl (fun _ => 0))) :: (n39, .inl (cI, 100, .inl (fun _ => 0))) :: (n31, .inl (cI, 100, .inl (fun _ => 0))) :: (n23, .inl (cI, 100, .inl (fun _ => 0))) :: (n15, .inl (cI, 100, .inl (fun _ => 0))) :: (n7, .inl (cI, 100, .inl (fun _ => 0))) :: (u0, .inr (3, [.int 0, .int 0, .ref n7, .ref n15, .ref n23, .ref n31, .ref n39, .ref n47, .ref n55, .ref n63, .null, .null, .null, .null])) :: Z)) C hin k_X3_init_inX3 tyX3 tyX3_ok nmX3 8 rfl rfl 9 (by decide) k_X3_init_12 rfl rfl rfl (by decide +kernel) rfl rfl (Nat.le_of_ble_eq_true rfl) dX3_init_65 rfl ?_
  refine g_aload_n C dX3_init_68 rfl 0 rfl ?_
  refine g_bipush (v := 80) C dX3_init_69 (by decide) ?_
  refine g_newa (N0 := 80) C 0 ht0 k_X3_init_3 (by decide) (by decide) (by decide) (Nat.le_of_ble_eq_true rfl) (Nat.le_of_ble_eq_true rfl) dX3_init_71 (fun n71 => ?_)
  refine g_perm (ws' := ((n71, .inl (cI, 80, .inl (fun _ => 0))) :: (n63, .inl (cI, 8, .inl (fun _ => 0))) :: (n55, .inl (cI, 80, .inl (fun _ => 0))) :: (n47, .inl (cI, 100, .inl (fun _ => 0))) :: (n39, .inl (cI, 100, .inl (fun _ => 0))) :: (n31, .inl (cI, 100, .inl (fun _ => 0))) :: (n23, .inl (cI, 100, .inl (fun _ => 0))) :: (n15, .inl (cI, 100, .inl (fun _ => 0))) :: (n7, .inl (cI, 100, .inl (fun _ => 0))) :: (u0, .inr (3, [.int 0, .int 0, .ref n7, .ref n15, .ref n23, .ref n31, .ref n39, .ref n47, .ref n55, .ref n63, .null, .null, .null, .null])) :: Z)) (List.perm_append_singleton _ _) ?_
  refine g_more (k2 := 9) (n2 := 768) (Nat.le_of_ble_eq_true rfl) (Nat.le_of_ble_eq_true rfl) ?_
  refine g_putF (ci := 3) (Cn := RX3) (T := TX3) (N := 14) (ty := .array .int) (ws' := ((n71, .inl (cI, 80, .inl (fun _ => 0))) :: (n63, .inl (cI, 8, .inl (fun _ => 0))) :: (n55, .inl (cI, 80, .inl (fun _ => 0))) :: (n47, .inl (cI, 100, .inl (fun _ => 0))) :: (n39, .inl (cI, 100, .inl (fun _ => 0))) :: (n31, .inl (cI, 100, .inl (fun _ => 0))) :: (n23, .inl (cI, 100, .inl (fun _ => 0))) :: (n15, .inl (cI, 100, .inl (fun _ => 0))) :: (n7, .inl (cI, 100, .inl (fun _ => 0))) :: (u0, .inr (3, [.int 0, .int 0, .ref n7, .ref n15, .ref n23, .ref n31, .ref n39, .ref n47, .ref n55, .ref n63, .ref n71, .null, .null, .null])) :: Z)) C hin k_X3_init_inX3 tyX3 tyX3_ok nmX3 9 rfl rfl 10 (by decide) k_X3_init_13 rfl rfl rfl (by decide +kernel) rfl rfl (Nat.le_of_ble_eq_true rfl) dX3_init_73 rfl ?_
  refine g_aload_n C dX3_init_76 rfl 0 rfl ?_
  refine g_bipush (v := 80) C dX3_init_77 (by decide) ?_
  refine g_newa (N0 := 80) C 0 ht0 k_X3_init_3 (by decide) (by decide) (by decide) (Nat.le_of_ble_eq_true rfl) (Nat.le_of_ble_eq_true rfl) dX3_init_79 (fun n79 => ?_)
  refine g_perm (ws' := ((n79, .inl (cI, 80, .inl (fun _ => 0))) :: (n71, .inl (cI, 80, .inl (fun _ => 0))) :: (n63, .inl (cI, 8, .inl (fun _ => 0))) :: (n55, .inl (cI, 80, .inl (fun _ => 0))) :: (n47, .inl (cI, 100, .inl (fun _ => 0))) :: (n39, .inl (cI, 100, .inl (fun _ => 0))) :: (n31, .inl (cI, 100, .inl (fun _ => 0))) :: (n23, .inl (cI, 100, .inl (fun _ => 0))) :: (n15, .inl (cI, 100, .inl (fun _ => 0))) :: (n7, .inl (cI, 100, .inl (fun _ => 0))) :: (u0, .inr (3, [.int 0, .int 0, .ref n7, .ref n15, .ref n23, .ref n31, .ref n39, .ref n47, .ref n55, .ref n63, .ref n71, .null, .null, .null])) :: Z)) (List.perm_append_singleton _ _) ?_
  refine g_more (k2 := 10) (n2 := 848) (Nat.le_of_ble_eq_true rfl) (Nat.le_of_ble_eq_true rfl) ?_
  refine g_putF (ci := 3) (Cn := RX3) (T := TX3) (N := 14) (ty := .array .int) (ws' := ((n79, .inl (cI, 80, .inl (fun _ => 0))) :: (n71, .inl (cI, 80, .inl (fun _ => 0))) :: (n63, .inl (cI, 8, .inl (fun _ => 0))) :: (n55, .inl (cI, 80, .inl (fun _ => 0))) :: (n47, .inl (cI, 100, .inl (fun _ => 0))) :: (n39, .inl (cI, 100, .inl (fun _ => 0))) :: (n31, .inl (cI, 100, .inl (fun _ => 0))) :: (n23, .inl (cI, 100, .inl (fun _ => 0))) :: (n15, .inl (cI, 100, .inl (fun _ => 0))) :: (n7, .inl (cI, 100, .inl (fun _ => 0))) :: (u0, .inr (3, [.int 0, .int 0, .ref n7, .ref n15, .ref n23, .ref n31, .ref n39, .ref n47, .ref n55, .ref n63, .ref n71, .ref n79, .null, .null])) :: Z)) C hin k_X3_init_inX3 tyX3 tyX3_ok nmX3 10 rfl rfl 11 (by decide) k_X3_init_14 rfl rfl rfl (by decide +kernel) rfl rfl (Nat.le_of_ble_eq_true rfl) dX3_init_81 rfl ?_
  refine g_aload_n C dX3_init_84 rfl 0 rfl ?_
  refine g_new (ci := 2) (Cn := RX2) (T := TX2) (N := 3) (fs := [.int 0, .null, .null]) C k_X3_init_inX2 tyX2 tyX2_ok k_X3_init_16 k_X3_init_17 k_X3_init_18 rfl (fun j hj => by rcases (show j = 0 ∨ j = 1 ∨ j = 2 by omega) with rfl | rfl | rfl <;> rfl) (Nat.le_of_ble_eq_true rfl) (Nat.le_of_ble_eq_true rfl) dX3_init_85 (fun q85 hq85 => ?_)
  refine g_more (k2 := 11) (n2 := 851) (Nat.le_of_ble_eq_true rfl) (Nat.le_of_ble_eq_true rfl) ?_
  refine g_perm (ws' := ((q85, .inr (2, [.int 0, .null, .null])) :: (n79, .inl (cI, 80, .inl (fun _ => 0))) :: (n71, .inl (cI, 80, .inl (fun _ => 0))) :: (n63, .inl (cI, 8, .inl (fun _ => 0))) :: (n55, .inl (cI, 80, .inl (fun _ => 0))) :: (n47, .inl (cI, 100, .inl (fun _ => 0))) :: (n39, .inl (cI, 100, .inl (fun _ => 0))) :: (n31, .inl (cI, 100, .inl (fun _ => 0))) :: (n23, .inl (cI, 100, .inl (fun _ => 0))) :: (n15, .inl (cI, 100, .inl (fun _ => 0))) :: (n7, .inl (cI, 100, .inl (fun _ => 0))) :: (u0, .inr (3, [.int 0, .int 0, .ref n7, .ref n15, .ref n23, .ref n31, .ref n39, .ref n47, .ref n55, .ref n63, .ref n71, .ref n79, .null, .null])) :: Z)) (List.perm_append_singleton _ _) ?_
  refine g_dup C dX3_init_88 rfl ?_
  refine g_aload_n C dX3_init_89 rfl 0 rfl ?_
  refine g_callIN (As := [.ref u0]) (rest := [.ref q85, .ref u0]) C (c_X2_init l D tys cI ht0 ((n79, .inl (cI, 80, .inl (fun _ => 0))) :: (n71, .inl (cI, 80, .inl (fun _ => 0))) :: (n63, .inl (cI, 8, .inl (fun _ => 0))) :: (n55, .inl (cI, 80, .inl (fun _ => 0))) :: (n47, .inl (cI, 100, .inl (fun _ => 0))) :: (n39, .inl (cI, 100, .inl (fun _ => 0))) :: (n31, .inl (cI, 100, .inl (fun _ => 0))) :: (n23, .inl (cI, 100, .inl (fun _ => 0))) :: (n15, .inl (cI, 100, .inl (fun _ => 0))) :: (n7, .inl (cI, 100, .inl (fun _ => 0))) :: (u0, .inr (3, [.int 0, .int 0, .ref n7, .ref n15, .ref n23, .ref n31, .ref n39, .ref n47, .ref n55, .ref n63, .ref n71, .ref n79, .null, .null])) :: Z) q85 u0) ⟨(va_cnB (host := "WetMosaicModel") 1 C.ts gX3_init_X2_init_n42 rfl rfl rfl (C.E.2.2.1 _ (by decide +kernel)) (C.w _ k_X3_init_18) (by decide +kernel) ⟨(Nat.le_of_ble_eq_true rfl), (Nat.le_of_ble_eq_true rfl)⟩), rfl, C.w _ k_X3_init_19⟩ rfl rfl (Nat.le_of_ble_eq_true rfl) dX3_init_90 (Nat.le_of_ble_eq_true rfl) (Nat.le_of_ble_eq_true rfl) (fun v w hq9 => ?_)
  refine g_more (k2 := 12) (n2 := 931) (Nat.le_of_ble_eq_true rfl) (Nat.le_of_ble_eq_true rfl) ?_
  obtain ⟨rfl, wq85, rfl⟩ := hq9
  refine g_putF (ci := 3) (Cn := RX3) (T := TX3) (N := 14) (ty := .object "WetMosaicModel$State") (ws' := ((wq85, .inl (cI, 80, .inl (fun _ => 0))) :: (q85, .inr (2, [.int 0, .ref wq85, .ref u0])) :: (n79, .inl (cI, 80, .inl (fun _ => 0))) :: (n71, .inl (cI, 80, .inl (fun _ => 0))) :: (n63, .inl (cI, 8, .inl (fun _ => 0))) :: (n55, .inl (cI, 80, .inl (fun _ => 0))) :: (n47, .inl (cI, 100, .inl (fun _ => 0))) :: (n39, .inl (cI, 100, .inl (fun _ => 0))) :: (n31, .inl (cI, 100, .inl (fun _ => 0))) :: (n23, .inl (cI, 100, .inl (fun _ => 0))) :: (n15, .inl (cI, 100, .inl (fun _ => 0))) :: (n7, .inl (cI, 100, .inl (fun _ => 0))) :: (u0, .inr (3, [.int 0, .int 0, .ref n7, .ref n15, .ref n23, .ref n31, .ref n39, .ref n47, .ref n55, .ref n63, .ref n71, .ref n79, .ref q85, .null])) :: Z)) C hin k_X3_init_inX3 tyX3 tyX3_ok nmX3 12 rfl rfl 12 (by decide) k_X3_init_20 rfl rfl rfl (by decide +kernel) rfl rfl (Nat.le_of_ble_eq_true rfl) dX3_init_93 rfl ?_
  refine g_aload_n C dX3_init_96 rfl 0 rfl ?_
  refine g_new (ci := 2) (Cn := RX2) (T := TX2) (N := 3) (fs := [.int 0, .null, .null]) C k_X3_init_inX2 tyX2 tyX2_ok k_X3_init_16 k_X3_init_17 k_X3_init_18 rfl (fun j hj => by rcases (show j = 0 ∨ j = 1 ∨ j = 2 by omega) with rfl | rfl | rfl <;> rfl) (Nat.le_of_ble_eq_true rfl) (Nat.le_of_ble_eq_true rfl) dX3_init_97 (fun q97 hq97 => ?_)
  refine g_more (k2 := 13) (n2 := 934) (Nat.le_of_ble_eq_true rfl) (Nat.le_of_ble_eq_true rfl) ?_
  refine g_perm (ws' := ((q97, .inr (2, [.int 0, .null, .null])) :: (wq85, .inl (cI, 80, .inl (fun _ => 0))) :: (q85, .inr (2, [.int 0, .ref wq85, .ref u0])) :: (n79, .inl (cI, 80, .inl (fun _ => 0))) :: (n71, .inl (cI, 80, .inl (fun _ => 0))) :: (n63, .inl (cI, 8, .inl (fun _ => 0))) :: (n55, .inl (cI, 80, .inl (fun _ => 0))) :: (n47, .inl (cI, 100, .inl (fun _ => 0))) :: (n39, .inl (cI, 100, .inl (fun _ => 0))) :: (n31, .inl (cI, 100, .inl (fun _ => 0))) :: (n23, .inl (cI, 100, .inl (fun _ => 0))) :: (n15, .inl (cI, 100, .inl (fun _ => 0))) :: (n7, .inl (cI, 100, .inl (fun _ => 0))) :: (u0, .inr (3, [.int 0, .int 0, .ref n7, .ref n15, .ref n23, .ref n31, .ref n39, .ref n47, .ref n55, .ref n63, .ref n71, .ref n79, .ref q85, .null])) :: Z)) (List.perm_append_singleton _ _) ?_
  refine g_dup C dX3_init_100 rfl ?_
  refine g_aload_n C dX3_init_101 rfl 0 rfl ?_
  refine g_callIN (As := [.ref u0]) (rest := [.ref q97, .ref u0]) C (c_X2_init l D tys cI ht0 ((wq85, .inl (cI, 80, .inl (fun _ => 0))) :: (q85, .inr (2, [.int 0, .ref wq85, .ref u0])) :: (n79, .inl (cI, 80, .inl (fun _ => 0))) :: (n71, .inl (cI, 80, .inl (fun _ => 0))) :: (n63, .inl (cI, 8, .inl (fun _ => 0))) :: (n55, .inl (cI, 80, .inl (fun _ => 0))) :: (n47, .inl (cI, 100, .inl (fun _ => 0))) :: (n39, .inl (cI, 100, .inl (fun _ => 0))) :: (n31, .inl (cI, 100, .inl (fun _ => 0))) :: (n23, .inl (cI, 100, .inl (fun _ => 0))) :: (n15, .inl (cI, 100, .inl (fun _ => 0))) :: (n7, .inl (cI, 100, .inl (fun _ => 0))) :: (u0, .inr (3, [.int 0, .int 0, .ref n7, .ref n15, .ref n23, .ref n31, .ref n39, .ref n47, .ref n55, .ref n63, .ref n71, .ref n79, .ref q85, .null])) :: Z) q97 u0) ⟨(va_cnB (host := "WetMosaicModel") 1 C.ts gX3_init_X2_init_n42 rfl rfl rfl (C.E.2.2.1 _ (by decide +kernel)) (C.w _ k_X3_init_18) (by decide +kernel) ⟨(Nat.le_of_ble_eq_true rfl), (Nat.le_of_ble_eq_true rfl)⟩), rfl, C.w _ k_X3_init_19⟩ rfl rfl (Nat.le_of_ble_eq_true rfl) dX3_init_102 (Nat.le_of_ble_eq_true rfl) (Nat.le_of_ble_eq_true rfl) (fun v w hq9 => ?_)
  refine g_more (k2 := 14) (n2 := 1014) (Nat.le_of_ble_eq_true rfl) (Nat.le_of_ble_eq_true rfl) ?_
  obtain ⟨rfl, wq97, rfl⟩ := hq9
  refine g_putF (ci := 3) (Cn := RX3) (T := TX3) (N := 14) (ty := .object "WetMosaicModel$State") (ws' := ((wq97, .inl (cI, 80, .inl (fun _ => 0))) :: (q97, .inr (2, [.int 0, .ref wq97, .ref u0])) :: (wq85, .inl (cI, 80, .inl (fun _ => 0))) :: (q85, .inr (2, [.int 0, .ref wq85, .ref u0])) :: (n79, .inl (cI, 80, .inl (fun _ => 0))) :: (n71, .inl (cI, 80, .inl (fun _ => 0))) :: (n63, .inl (cI, 8, .inl (fun _ => 0))) :: (n55, .inl (cI, 80, .inl (fun _ => 0))) :: (n47, .inl (cI, 100, .inl (fun _ => 0))) :: (n39, .inl (cI, 100, .inl (fun _ => 0))) :: (n31, .inl (cI, 100, .inl (fun _ => 0))) :: (n23, .inl (cI, 100, .inl (fun _ => 0))) :: (n15, .inl (cI, 100, .inl (fun _ => 0))) :: (n7, .inl (cI, 100, .inl (fun _ => 0))) :: (u0, .inr (3, [.int 0, .int 0, .ref n7, .ref n15, .ref n23, .ref n31, .ref n39, .ref n47, .ref n55, .ref n63, .ref n71, .ref n79, .ref q85, .ref q97])) :: Z)) C hin k_X3_init_inX3 tyX3 tyX3_ok nmX3 14 rfl rfl 13 (by decide) k_X3_init_21 rfl rfl rfl (by decide +kernel) rfl rfl (Nat.le_of_ble_eq_true rfl) dX3_init_105 rfl ?_
  refine g_perm (ws' := ((u0, .inr (3, [.int 0, .int 0, .ref n7, .ref n15, .ref n23, .ref n31, .ref n39, .ref n47, .ref n55, .ref n63, .ref n71, .ref n79, .ref q85, .ref q97])) :: (n7, .inl (cI, 100, .inl (fun _ => 0))) :: (n15, .inl (cI, 100, .inl (fun _ => 0))) :: (n23, .inl (cI, 100, .inl (fun _ => 0))) :: (n31, .inl (cI, 100, .inl (fun _ => 0))) :: (n39, .inl (cI, 100, .inl (fun _ => 0))) :: (n47, .inl (cI, 100, .inl (fun _ => 0))) :: (n55, .inl (cI, 80, .inl (fun _ => 0))) :: (n63, .inl (cI, 8, .inl (fun _ => 0))) :: (n71, .inl (cI, 80, .inl (fun _ => 0))) :: (n79, .inl (cI, 80, .inl (fun _ => 0))) :: (q85, .inr (2, [.int 0, .ref wq85, .ref u0])) :: (wq85, .inl (cI, 80, .inl (fun _ => 0))) :: (q97, .inr (2, [.int 0, .ref wq97, .ref u0])) :: (wq97, .inl (cI, 80, .inl (fun _ => 0))) :: Z)) (List.Perm.append_right Z (List.reverse_perm ([(wq97, .inl (cI, 80, .inl (fun _ => 0))), (q97, .inr (2, [.int 0, .ref wq97, .ref u0])), (wq85, .inl (cI, 80, .inl (fun _ => 0))), (q85, .inr (2, [.int 0, .ref wq85, .ref u0])), (n79, .inl (cI, 80, .inl (fun _ => 0))), (n71, .inl (cI, 80, .inl (fun _ => 0))), (n63, .inl (cI, 8, .inl (fun _ => 0))), (n55, .inl (cI, 80, .inl (fun _ => 0))), (n47, .inl (cI, 100, .inl (fun _ => 0))), (n39, .inl (cI, 100, .inl (fun _ => 0))), (n31, .inl (cI, 100, .inl (fun _ => 0))), (n23, .inl (cI, 100, .inl (fun _ => 0))), (n15, .inl (cI, 100, .inl (fun _ => 0))), (n7, .inl (cI, 100, .inl (fun _ => 0))), (u0, .inr (3, [.int 0, .int 0, .ref n7, .ref n15, .ref n23, .ref n31, .ref n39, .ref n47, .ref n55, .ref n63, .ref n71, .ref n79, .ref q85, .ref q97]))] : va_W)).symm) ?_
  refine g_iconst (v := 0) C dX3_init_108 (by decide) ?_
  refine g_istore_n (lv' := [(1, .int 0), (0, .ref u0)]) C dX3_init_109 rfl (by decide) rfl ?_
  have lp110 : ∀ (n9 : Nat) (i : Nat) (g1 g2 : Nat → Int32) (hg1 : ∀ c, c < i → g1 c = -1) (hg2 : ∀ c, c < i → g2 c = -1) (hi : i ≤ 80) (hn : 81 ≤ i + n9), G p l e ({ frames := 2, cells := 14, slots := 1014, locals := 33 } : Room) s m args below meth c D A s.heap 2 14 1014 Q 110 [(0, .ref u0), (1, .int (nI i))] [] ((u0, .inr (3, [.int 0, .int 0, .ref n7, .ref n15, .ref n23, .ref n31, .ref n39, .ref n47, .ref n55, .ref n63, .ref n71, .ref n79, .ref q85, .ref q97])) :: (n7, .inl (cI, 100, .inl (fun _ => 0))) :: (n15, .inl (cI, 100, .inl (fun _ => 0))) :: (n23, .inl (cI, 100, .inl (fun _ => 0))) :: (n31, .inl (cI, 100, .inl (fun _ => 0))) :: (n39, .inl (cI, 100, .inl (fun _ => 0))) :: (n47, .inl (cI, 100, .inl (fun _ => 0))) :: (n55, .inl (cI, 80, .inl (g1))) :: (n63, .inl (cI, 8, .inl (fun _ => 0))) :: (n71, .inl (cI, 80, .inl (fun _ => 0))) :: (n79, .inl (cI, 80, .inl (fun _ => 0))) :: (q85, .inr (2, [.int 0, .ref wq85, .ref u0])) :: (wq85, .inl (cI, 80, .inl (g2))) :: (q97, .inr (2, [.int 0, .ref wq97, .ref u0])) :: (wq97, .inl (cI, 80, .inl (fun _ => 0))) :: Z) := by
    intro n9
    induction n9 with
    | zero =>
      intro i g1 g2 hg1 hg2 hi hn
      exfalso; omega
    | succ n9 ih =>
      intro i g1 g2 hg1 hg2 hi hn
      refine g_iload_n C dX3_init_110 rfl 1 rfl ?_
      refine g_bipush (v := 80) C dX3_init_111 (by decide) ?_
      refine g_icmp_ge (tgt := 139) C dX3_init_113 (by decide) (fun c_1 => ?_) (fun c_1 => ?_)
      · skip
        rw [show (80 : Int32) = nI 80 from rfl, nI_leI (by omega) (by omega)] at c_1
        refine g_cong (g := fun _ => -1) (ws' := ((u0, .inr (3, [.int 0, .int 0, .ref n7, .ref n15, .ref n23, .ref n31, .ref n39, .ref n47, .ref n55, .ref n63, .ref n71, .ref n79, .ref q85, .ref q97])) :: (n7, .inl (cI, 100, .inl (fun _ => 0))) :: (n15, .inl (cI, 100, .inl (fun _ => 0))) :: (n23, .inl (cI, 100, .inl (fun _ => 0))) :: (n31, .inl (cI, 100, .inl (fun _ => 0))) :: (n39, .inl (cI, 100, .inl (fun _ => 0))) :: (n47, .inl (cI, 100, .inl (fun _ => 0))) :: (n55, .inl (cI, 80, .inl (fun _ => -1))) :: (n63, .inl (cI, 8, .inl (fun _ => 0))) :: (n71, .inl (cI, 80, .inl (fun _ => 0))) :: (n79, .inl (cI, 80, .inl (fun _ => 0))) :: (q85, .inr (2, [.int 0, .ref wq85, .ref u0])) :: (wq85, .inl (cI, 80, .inl (g2))) :: (q97, .inr (2, [.int 0, .ref wq97, .ref u0])) :: (wq97, .inl (cI, 80, .inl (fun _ => 0))) :: Z)) 7 rfl (fun j hj => hg1 j (by omega)) rfl ?_
        refine g_cong (g := fun _ => -1) (ws' := ((u0, .inr (3, [.int 0, .int 0, .ref n7, .ref n15, .ref n23, .ref n31, .ref n39, .ref n47, .ref n55, .ref n63, .ref n71, .ref n79, .ref q85, .ref q97])) :: (n7, .inl (cI, 100, .inl (fun _ => 0))) :: (n15, .inl (cI, 100, .inl (fun _ => 0))) :: (n23, .inl (cI, 100, .inl (fun _ => 0))) :: (n31, .inl (cI, 100, .inl (fun _ => 0))) :: (n39, .inl (cI, 100, .inl (fun _ => 0))) :: (n47, .inl (cI, 100, .inl (fun _ => 0))) :: (n55, .inl (cI, 80, .inl (fun _ => -1))) :: (n63, .inl (cI, 8, .inl (fun _ => 0))) :: (n71, .inl (cI, 80, .inl (fun _ => 0))) :: (n79, .inl (cI, 80, .inl (fun _ => 0))) :: (q85, .inr (2, [.int 0, .ref wq85, .ref u0])) :: (wq85, .inl (cI, 80, .inl (fun _ => -1))) :: (q97, .inr (2, [.int 0, .ref wq97, .ref u0])) :: (wq97, .inl (cI, 80, .inl (fun _ => 0))) :: Z)) 12 rfl (fun j hj => hg2 j (by omega)) rfl ?_
        refine g_iconst (v := 0) C dX3_init_139 (by decide) ?_
        refine g_istore_n (lv' := [(1, .int 0), (0, .ref u0)]) C dX3_init_140 rfl (by decide) rfl ?_
        have lp141 : ∀ (n9 : Nat) (i : Nat) (g3 : Nat → Int32) (hg3 : ∀ c, c < i → g3 c = 1) (hi : i ≤ 8) (hn : 9 ≤ i + n9), G p l e ({ frames := 2, cells := 14, slots := 1014, locals := 33 } : Room) s m args below meth c D A s.heap 2 14 1014 Q 141 [(0, .ref u0), (1, .int (nI i))] [] ((u0, .inr (3, [.int 0, .int 0, .ref n7, .ref n15, .ref n23, .ref n31, .ref n39, .ref n47, .ref n55, .ref n63, .ref n71, .ref n79, .ref q85, .ref q97])) :: (n7, .inl (cI, 100, .inl (fun _ => 0))) :: (n15, .inl (cI, 100, .inl (fun _ => 0))) :: (n23, .inl (cI, 100, .inl (fun _ => 0))) :: (n31, .inl (cI, 100, .inl (fun _ => 0))) :: (n39, .inl (cI, 100, .inl (fun _ => 0))) :: (n47, .inl (cI, 100, .inl (fun _ => 0))) :: (n55, .inl (cI, 80, .inl (fun _ => -1))) :: (n63, .inl (cI, 8, .inl (g3))) :: (n71, .inl (cI, 80, .inl (fun _ => 0))) :: (n79, .inl (cI, 80, .inl (fun _ => 0))) :: (q85, .inr (2, [.int 0, .ref wq85, .ref u0])) :: (wq85, .inl (cI, 80, .inl (fun _ => -1))) :: (q97, .inr (2, [.int 0, .ref wq97, .ref u0])) :: (wq97, .inl (cI, 80, .inl (fun _ => 0))) :: Z) := by
          intro n9
          induction n9 with
          | zero =>
            intro i g3 hg3 hi hn
            exfalso; omega
          | succ n9 ih =>
            intro i g3 hg3 hi hn
            refine g_iload_n C dX3_init_141 rfl 1 rfl ?_
            refine g_bipush (v := 8) C dX3_init_142 (by decide) ?_
            refine g_icmp_ge (tgt := 160) C dX3_init_144 (by decide) (fun c_2 => ?_) (fun c_2 => ?_)
            · skip
              rw [show (8 : Int32) = nI 8 from rfl, nI_leI (by omega) (by omega)] at c_2
              refine g_cong (g := fun _ => 1) (ws' := ((u0, .inr (3, [.int 0, .int 0, .ref n7, .ref n15, .ref n23, .ref n31, .ref n39, .ref n47, .ref n55, .ref n63, .ref n71, .ref n79, .ref q85, .ref q97])) :: (n7, .inl (cI, 100, .inl (fun _ => 0))) :: (n15, .inl (cI, 100, .inl (fun _ => 0))) :: (n23, .inl (cI, 100, .inl (fun _ => 0))) :: (n31, .inl (cI, 100, .inl (fun _ => 0))) :: (n39, .inl (cI, 100, .inl (fun _ => 0))) :: (n47, .inl (cI, 100, .inl (fun _ => 0))) :: (n55, .inl (cI, 80, .inl (fun _ => -1))) :: (n63, .inl (cI, 8, .inl (fun _ => 1))) :: (n71, .inl (cI, 80, .inl (fun _ => 0))) :: (n79, .inl (cI, 80, .inl (fun _ => 0))) :: (q85, .inr (2, [.int 0, .ref wq85, .ref u0])) :: (wq85, .inl (cI, 80, .inl (fun _ => -1))) :: (q97, .inr (2, [.int 0, .ref wq97, .ref u0])) :: (wq97, .inl (cI, 80, .inl (fun _ => 0))) :: Z)) 8 rfl (fun j hj => hg3 j (by omega)) rfl ?_
              refine g_vret C hQ (Nat.le_of_ble_eq_true rfl) (Nat.le_of_ble_eq_true rfl) dX3_init_160 ?_
              exact ⟨rfl, _, _, _, _, _, _, _, _, _, _, _, _, _, _, rfl⟩
            · skip
              rw [show (8 : Int32) = nI 8 from rfl, nI_leI (by omega) (by omega)] at c_2
              refine g_aload_n C dX3_init_147 rfl 0 rfl ?_
              refine g_get (v := .ref n63) (ci := 3) (Cn := RX3) (T := TX3) (N := 14) C k_X3_init_inX3 gm0 rfl 9 (by decide) k_X3_init_12 rfl rfl dX3_init_148 ?_
              refine g_iload_n C dX3_init_151 rfl 1 rfl ?_
              refine g_iconst (v := 1) C dX3_init_152 (by decide) ?_
              refine g_iast (ws' := ((u0, .inr (3, [.int 0, .int 0, .ref n7, .ref n15, .ref n23, .ref n31, .ref n39, .ref n47, .ref n55, .ref n63, .ref n71, .ref n79, .ref q85, .ref q97])) :: (n7, .inl (cI, 100, .inl (fun _ => 0))) :: (n15, .inl (cI, 100, .inl (fun _ => 0))) :: (n23, .inl (cI, 100, .inl (fun _ => 0))) :: (n31, .inl (cI, 100, .inl (fun _ => 0))) :: (n39, .inl (cI, 100, .inl (fun _ => 0))) :: (n47, .inl (cI, 100, .inl (fun _ => 0))) :: (n55, .inl (cI, 80, .inl (fun _ => -1))) :: (n63, .inl (cI, 8, .inl (upd g3 (nI i).toNatClampNeg 1))) :: (n71, .inl (cI, 80, .inl (fun _ => 0))) :: (n79, .inl (cI, 80, .inl (fun _ => 0))) :: (q85, .inr (2, [.int 0, .ref wq85, .ref u0])) :: (wq85, .inl (cI, 80, .inl (fun _ => -1))) :: (q97, .inr (2, [.int 0, .ref wq97, .ref u0])) :: (wq97, .inl (cI, 80, .inl (fun _ => 0))) :: Z)) C 8 0 rfl ht0 (vp_in_nI (by omega) (by omega)) dX3_init_153 rfl ?_
              rw [nI_clamp (n := i) (by omega)]
              refine g_iinc (v := nI (i + 1)) (lv' := [(1, .int (nI (i + 1))), (0, .ref u0)]) C dX3_init_154 1 rfl (by exact nI_add _ 1) (by decide) rfl ?_
              refine g_goto (tgt := 141) C dX3_init_157 (by decide) ?_
              refine g_sub [1, 0] (lv' := [(0, .ref u0), (1, .int (nI (i + 1)))]) rfl ?_
              exact ih (i + 1) _ (upd_k hg3) (by omega) (by omega)
        refine g_sub [1, 0] (lv' := [(0, .ref u0), (1, .int 0)]) rfl ?_
        exact lp141 9 0 _ (fun c hc => absurd hc (Nat.not_lt_zero c)) (by omega) (by omega)
      · skip
        rw [show (80 : Int32) = nI 80 from rfl, nI_leI (by omega) (by omega)] at c_1
        refine g_aload_n C dX3_init_116 rfl 0 rfl ?_
        refine g_get (v := .ref n55) (ci := 3) (Cn := RX3) (T := TX3) (N := 14) C k_X3_init_inX3 gm0 rfl 8 (by decide) k_X3_init_11 rfl rfl dX3_init_117 ?_
        refine g_iload_n C dX3_init_120 rfl 1 rfl ?_
        refine g_iconst (v := (-1)) C dX3_init_121 (by decide) ?_
        refine g_iast (ws' := ((u0, .inr (3, [.int 0, .int 0, .ref n7, .ref n15, .ref n23, .ref n31, .ref n39, .ref n47, .ref n55, .ref n63, .ref n71, .ref n79, .ref q85, .ref q97])) :: (n7, .inl (cI, 100, .inl (fun _ => 0))) :: (n15, .inl (cI, 100, .inl (fun _ => 0))) :: (n23, .inl (cI, 100, .inl (fun _ => 0))) :: (n31, .inl (cI, 100, .inl (fun _ => 0))) :: (n39, .inl (cI, 100, .inl (fun _ => 0))) :: (n47, .inl (cI, 100, .inl (fun _ => 0))) :: (n55, .inl (cI, 80, .inl (upd g1 (nI i).toNatClampNeg (-1)))) :: (n63, .inl (cI, 8, .inl (fun _ => 0))) :: (n71, .inl (cI, 80, .inl (fun _ => 0))) :: (n79, .inl (cI, 80, .inl (fun _ => 0))) :: (q85, .inr (2, [.int 0, .ref wq85, .ref u0])) :: (wq85, .inl (cI, 80, .inl (g2))) :: (q97, .inr (2, [.int 0, .ref wq97, .ref u0])) :: (wq97, .inl (cI, 80, .inl (fun _ => 0))) :: Z)) C 7 0 rfl ht0 (vp_in_nI (by omega) (by omega)) dX3_init_122 rfl ?_
        rw [nI_clamp (n := i) (by omega)]
        refine g_aload_n C dX3_init_123 rfl 0 rfl ?_
        refine g_get (v := .ref q85) (ci := 3) (Cn := RX3) (T := TX3) (N := 14) C k_X3_init_inX3 gm0 rfl 12 (by decide) k_X3_init_20 rfl rfl dX3_init_124 ?_
        refine g_getN (host := "WetMosaicModel") (v := .ref wq85) (ci := 2) (Cn := RX2) (T := TX2) (N := 3) C k_X3_init_inX2 (gmT (gmT (gmT (gmT (gmT (gmT (gmT (gmT (gmT (gmT (gmT gm0))))))))))) rfl 1 (by decide) (by decide +kernel) rfl rfl dX3_init_127 ?_
        refine g_iload_n C dX3_init_130 rfl 1 rfl ?_
        refine g_iconst (v := (-1)) C dX3_init_131 (by decide) ?_
        refine g_iast (ws' := ((u0, .inr (3, [.int 0, .int 0, .ref n7, .ref n15, .ref n23, .ref n31, .ref n39, .ref n47, .ref n55, .ref n63, .ref n71, .ref n79, .ref q85, .ref q97])) :: (n7, .inl (cI, 100, .inl (fun _ => 0))) :: (n15, .inl (cI, 100, .inl (fun _ => 0))) :: (n23, .inl (cI, 100, .inl (fun _ => 0))) :: (n31, .inl (cI, 100, .inl (fun _ => 0))) :: (n39, .inl (cI, 100, .inl (fun _ => 0))) :: (n47, .inl (cI, 100, .inl (fun _ => 0))) :: (n55, .inl (cI, 80, .inl (upd g1 i (-1)))) :: (n63, .inl (cI, 8, .inl (fun _ => 0))) :: (n71, .inl (cI, 80, .inl (fun _ => 0))) :: (n79, .inl (cI, 80, .inl (fun _ => 0))) :: (q85, .inr (2, [.int 0, .ref wq85, .ref u0])) :: (wq85, .inl (cI, 80, .inl (upd g2 (nI i).toNatClampNeg (-1)))) :: (q97, .inr (2, [.int 0, .ref wq97, .ref u0])) :: (wq97, .inl (cI, 80, .inl (fun _ => 0))) :: Z)) C 12 0 rfl ht0 (vp_in_nI (by omega) (by omega)) dX3_init_132 rfl ?_
        rw [nI_clamp (n := i) (by omega)]
        refine g_iinc (v := nI (i + 1)) (lv' := [(1, .int (nI (i + 1))), (0, .ref u0)]) C dX3_init_133 1 rfl (by exact nI_add _ 1) (by decide) rfl ?_
        refine g_goto (tgt := 110) C dX3_init_136 (by decide) ?_
        refine g_sub [1, 0] (lv' := [(0, .ref u0), (1, .int (nI (i + 1)))]) rfl ?_
        exact ih (i + 1) _ _ (upd_k hg1) (upd_k hg2) (by omega) (by omega)
  refine g_sub [1, 0] (lv' := [(0, .ref u0), (1, .int 0)]) rfl ?_
  exact lp110 81 0 _ _ (fun c hc => absurd hc (Nat.not_lt_zero c)) (fun c hc => absurd hc (Nat.not_lt_zero c)) (by omega) (by omega)
