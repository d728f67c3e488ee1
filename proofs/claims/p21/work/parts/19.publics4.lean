theorem k_X0_init_0 : Cond.methodLink RX0 1 Lib.objectInit ∈ wsX0_init := by decide +kernel
theorem k_X0_init_1 : Cond.instanceMethod Lib.objectInit ∈ wsX0_init := by decide +kernel
theorem k_X0_init_2 : Cond.code Lib.objectInit ⟨#[0xb1]⟩ 1 none ∈ wsX0_init := by decide +kernel
theorem k_X0_init_inX0 : ∀ w ∈ wsX00, w ∈ wsX0_init := by decide +kernel
theorem k_X0_init_4 : Cond.fieldLink RX0 7 "WetMosaic$Piece" "x" "I" ∈ wsX0_init := by decide +kernel
theorem k_X0_init_5 : Cond.fieldLink RX0 13 "WetMosaic$Piece" "y" "I" ∈ wsX0_init := by decide +kernel
theorem k_X0_init_6 : Cond.fieldLink RX0 16 "WetMosaic$Piece" "length" "I" ∈ wsX0_init := by decide +kernel
theorem k_X0_init_7 : Cond.fieldLink RX0 19 "WetMosaic$Piece" "across" "Z" ∈ wsX0_init := by decide +kernel
theorem k_X0_init_8 : Cond.fieldLink RX0 23 "WetMosaic$Piece" "front" "I" ∈ wsX0_init := by decide +kernel
theorem k_X0_init_9 : Cond.fieldLink RX0 26 "WetMosaic$Piece" "back" "I" ∈ wsX0_init := by decide +kernel
set_option maxHeartbeats 4000000 in
set_option maxRecDepth 100000 in
theorem c_X0_init (l : Launch) (D : va_G) (tys : List (ClassId × FieldType)) (Z : va_W) (o : Nat) (x y ln f b : Int32) (ac : Bool) : gM l yX0_init wsX0_init ({ frames := 1, cells := 0, slots := 0, locals := 12 } : Room) D tys [.ref o, .int x, .int y, .int ln, .int (gz ac), .int f, .int b] ((o, .inr (0, [.int 0, .int 0, .int 0, .int 0, .int 0, .int 0, .int 0, .int 0])) :: Z) (gIs none ((o, .inr (0, [.int x, .int y, .int ln, .int f, .int b, .int (gz ac), .int 0, .int 0])) :: Z)) 0 0 := by
  refine gM_of (by decide +kernel) rfl (Nat.le_of_ble_eq_true rfl) ?_
  intro p e s m args below meth c A Q hin C hQ
  refine g_sub [0, 1, 2, 3, 4, 5, 6] (lv' := [(0, .ref o), (1, .int x), (2, .int y), (3, .int ln), (4, .int (gz ac)), (5, .int f), (6, .int b)]) rfl ?_
  refine g_aload_n C dX0_init_0 rfl 0 rfl ?_
  refine g_objInit C k_X0_init_0 k_X0_init_1 k_X0_init_2 (Nat.le_of_ble_eq_true rfl) (Nat.le_of_ble_eq_true rfl) dX0_init_1 ?_
  refine g_aload_n C dX0_init_4 rfl 0 rfl ?_
  refine g_iload_n C dX0_init_5 rfl 1 rfl ?_
  refine g_putF (ci := 0) (Cn := RX0) (T := TX0) (N := 8) (ty := .int) (ws' := ((o, .inr (0, [.int x, .int 0, .int 0, .int 0, .int 0, .int 0, .int 0, .int 0])) :: Z)) C hin k_X0_init_inX0 tyX0 tyX0_ok nmX0 0 rfl rfl 0 (by decide) k_X0_init_4 rfl rfl rfl (by decide +kernel) rfl rfl (Nat.le_of_ble_eq_true rfl) dX0_init_6 rfl ?_
  refine g_aload_n C dX0_init_9 rfl 0 rfl ?_
  refine g_iload_n C dX0_init_10 rfl 2 rfl ?_
  refine g_putF (ci := 0) (Cn := RX0) (T := TX0) (N := 8) (ty := .int) (ws' := ((o, .inr (0, [.int x, .int y, .int 0, .int 0, .int 0, .int 0, .int 0, .int 0])) :: Z)) C hin k_X0_init_inX0 tyX0 tyX0_ok nmX0 0 rfl rfl 1 (by decide) k_X0_init_5 rfl rfl rfl (by decide +kernel) rfl rfl (Nat.le_of_ble_eq_true rfl) dX0_init_11 rfl ?_
  refine g_aload_n C dX0_init_14 rfl 0 rfl ?_
  refine g_iload_n C dX0_init_15 rfl 3 rfl ?_
  refine g_putF (ci := 0) (Cn := RX0) (T := TX0) (N := 8) (ty := .int) (ws' := ((o, .inr (0, [.int x, .int y, .int ln, .int 0, .int 0, .int 0, .int 0, .int 0])) :: Z)) C hin k_X0_init_inX0 tyX0 tyX0_ok nmX0 0 rfl rfl 2 (by decide) k_X0_init_6 rfl rfl rfl (by decide +kernel) rfl rfl (Nat.le_of_ble_eq_true rfl) dX0_init_16 rfl ?_
  refine g_aload_n C dX0_init_19 rfl 0 rfl ?_
  refine g_iload C dX0_init_20 4 rfl ?_
  refine g_put (ci := 0) (Cn := RX0) (T := TX0) (N := 8) (ty := .boolean) (ws' := ((o, .inr (0, [.int x, .int y, .int ln, .int 0, .int 0, .int (gz ac), .int 0, .int 0])) :: Z)) C k_X0_init_inX0 tyX0 tyX0_ok nmX0 0 rfl rfl 5 (by decide) k_X0_init_7 rfl rfl (by decide +kernel) (bo1 _) (bo2 _) (Nat.le_of_ble_eq_true rfl) dX0_init_22 rfl ?_
  refine g_aload_n C dX0_init_25 rfl 0 rfl ?_
  refine g_iload C dX0_init_26 5 rfl ?_
  refine g_putF (ci := 0) (Cn := RX0) (T := TX0) (N := 8) (ty := .int) (ws' := ((o, .inr (0, [.int x, .int y, .int ln, .int f, .int 0, .int (gz ac), .int 0, .int 0])) :: Z)) C hin k_X0_init_inX0 tyX0 tyX0_ok nmX0 0 rfl rfl 3 (by decide) k_X0_init_8 rfl rfl rfl (by decide +kernel) rfl rfl (Nat.le_of_ble_eq_true rfl) dX0_init_28 rfl ?_
  refine g_aload_n C dX0_init_31 rfl 0 rfl ?_
  refine g_iload C dX0_init_32 6 rfl ?_
  refine g_putF (ci := 0) (Cn := RX0) (T := TX0) (N := 8) (ty := .int) (ws' := ((o, .inr (0, [.int x, .int y, .int ln, .int f, .int b, .int (gz ac), .int 0, .int 0])) :: Z)) C hin k_X0_init_inX0 tyX0 tyX0_ok nmX0 0 rfl rfl 4 (by decide) k_X0_init_9 rfl rfl rfl (by decide +kernel) rfl rfl (Nat.le_of_ble_eq_true rfl) dX0_init_34 rfl ?_
  refine g_vret C hQ (Nat.le_of_ble_eq_true rfl) (Nat.le_of_ble_eq_true rfl) dX0_init_37 ?_
  exact ⟨rfl, rfl⟩

theorem k_X1_init_0 : Cond.methodLink RX1 1 Lib.objectInit ∈ wsX1_init := by decide +kernel
theorem k_X1_init_1 : Cond.instanceMethod Lib.objectInit ∈ wsX1_init := by decide +kernel
theorem k_X1_init_2 : Cond.code Lib.objectInit ⟨#[0xb1]⟩ 1 none ∈ wsX1_init := by decide +kernel
theorem k_X1_init_3 : Cond.arrayClass .int ∈ wsX1_init := by decide +kernel
theorem k_X1_init_inX1 : ∀ w ∈ wsX10, w ∈ wsX1_init := by decide +kernel
theorem k_X1_init_5 : Cond.fieldLink RX1 9 "WetMosaic" "wet" "[I" ∈ wsX1_init := by decide +kernel
theorem k_X1_init_6 : Cond.fieldLink RX1 13 "WetMosaic" "cover" "[I" ∈ wsX1_init := by decide +kernel
theorem k_X1_init_7 : Cond.fieldLink RX1 16 "WetMosaic" "sun" "[I" ∈ wsX1_init := by decide +kernel
theorem k_X1_init_8 : Cond.classLink RX1 19 RX0 ∈ wsX1_init := by decide +kernel
theorem k_X1_init_9 : Cond.fieldLink RX1 21 "WetMosaic" "pieces" "[LWetMosaic$Piece;" ∈ wsX1_init := by decide +kernel
theorem k_X1_init_10 : Cond.fieldLink RX1 25 "WetMosaic" "foreseen" "[I" ∈ wsX1_init := by decide +kernel
theorem k_X1_init_11 : Cond.fieldLink RX1 28 "WetMosaic" "marks" "[I" ∈ wsX1_init := by decide +kernel
theorem k_X1_init_12 : Cond.fieldLink RX1 31 "WetMosaic" "found" "[I" ∈ wsX1_init := by decide +kernel
set_option maxHeartbeats 4000000 in
set_option maxRecDepth 100000 in
theorem c_X1_init (l : Launch) (D : va_G) (tys : List (ClassId × FieldType)) (cI cP : ClassId) (ht0 : tys[0]? = some (cI, .int)) (ht1 : tys[1]? = some (cP, .object RX0)) (Z : va_W) (h : Nat) : gM l yX1_init wsX1_init ({ frames := 1, cells := 7, slots := 508, locals := 12 } : Room) D tys [.ref h] ((h, .inr (1, [.null, .null, .null, .null, .int 0, .int 0, .null, .null, .null])) :: Z) (fun u w => u = none ∧ ∃ n7 n15 n23 n31 n40 n48 n56, w = ((h, .inr (1, [.ref n7, .ref n15, .ref n23, .ref n31, .int 0, .int 0, .ref n40, .ref n48, .ref n56])) :: (n7, .inl (cI, 80, .inl (fun _ => -1))) :: (n15, .inl (cI, 80, .inl (fun _ => -1))) :: (n23, .inl (cI, 8, .inl (fun _ => 1))) :: (n31, .inl (cP, 100, .inr (.inr (.inr (.inr (fun _ => none)))))) :: (n40, .inl (cI, 80, .inl (fun _ => 0))) :: (n48, .inl (cI, 80, .inl (fun _ => 0))) :: (n56, .inl (cI, 80, .inl (fun _ => 0))) :: Z)) 7 508 := by
  refine gM_of (by decide +kernel) rfl (Nat.le_of_ble_eq_true rfl) ?_
  intro p e s m args below meth c A Q hin C hQ
  refine g_sub [0] (lv' := [(0, .ref h)]) rfl ?_
  refine g_aload_n C dX1_init_0 rfl 0 rfl ?_
  refine g_objInit C k_X1_init_0 k_X1_init_1 k_X1_init_2 (Nat.le_of_ble_eq_true rfl) (Nat.le_of_ble_eq_true rfl) dX1_init_1 ?_
  refine g_aload_n C dX1_init_4 rfl 0 rfl ?_
  refine g_bipush (v := 80) C dX1_init_5 (by decide) ?_
  refine g_newa (N0 := 80) C 0 ht0 k_X1_init_3 (by decide) (by decide) (by decide) (Nat.le_of_ble_eq_true rfl) (Nat.le_of_ble_eq_true rfl) dX1_init_7 (fun n7 => ?_)
  refine g_perm (ws' := ((n7, .inl (cI, 80, .inl (fun _ => 0))) :: (h, .inr (1, [.null, .null, .null, .null, .int 0, .int 0, .null, .null, .null])) :: Z)) (List.perm_append_singleton _ _) ?_
  refine g_more (k2 := 1) (n2 := 80) (Nat.le_of_ble_eq_true rfl) (Nat.le_of_ble_eq_true rfl) ?_
  refine g_putF (ci := 1) (Cn := RX1) (T := TX1) (N := 9) (ty := .array .int) (ws' := ((n7, .inl (cI, 80, .inl (fun _ => 0))) :: (h, .inr (1, [.ref n7, .null, .null, .null, .int 0, .int 0, .null, .null, .null])) :: Z)) C hin k_X1_init_inX1 tyX1 tyX1_ok nmX1 1 rfl rfl 0 (by decide) k_X1_init_5 rfl rfl rfl (by decide +kernel) rfl rfl (Nat.le_of_ble_eq_true rfl) dX1_init_9 rfl ?_
  refine g_aload_n C dX1_init_12 rfl 0 rfl ?_
  refine g_bipush (v := 80) C dX1_init_13 (by decide) ?_
  refine g_newa (N0 := 80) C 0 ht0 k_X1_init_3 (by decide) (by decide) (by decide) (Nat.le_of_ble_eq_true rfl) (Nat.le_of_ble_eq_true rfl) dX1_init_15 (fun n15 => ?_)
  refine g_perm (ws' := ((n15, .inl (cI, 80, .inl (fun _ => 0))) :: (n7, .inl (cI, 80, .inl (fun _ => 0))) :: (h, .inr (1, [.ref n7, .null, .null, .null, .int 0, .int 0, .null, .null, .null])) :: Z)) (List.perm_append_singleton _ _) ?_
  refine g_more (k2 := 2) (n2 := 160) (Nat.le_of_ble_eq_true rfl) (Nat.le_of_ble_eq_true rfl) ?_
  refine g_putF (ci := 1) (Cn := RX1) (T := TX1) (N := 9) (ty := .array .int) (ws' := ((n15, .inl (cI, 80, .inl (fun _ => 0))) :: (n7, .inl (cI, 80, .inl (fun _ => 0))) :: (h, .inr (1, [.ref n7, .ref n15, .null, .null, .int 0, .int 0, .null, .null, .null])) :: Z)) C hin k_X1_init_inX1 tyX1 tyX1_ok nmX1 2 rfl rfl 1 (by decide) k_X1_init_6 rfl rfl rfl (by decide +kernel) rfl rfl (Nat.le_of_ble_eq_true rfl) dX1_init_17 rfl ?_
  refine g_aload_n C dX1_init_20 rfl 0 rfl ?_
  refine g_bipush (v := 8) C dX1_init_21 (by decide) ?_
  refine g_newa (N0 := 8) C 0 ht0 k_X1_init_3 (by decide) (by decide) (by decide) (Nat.le_of_ble_eq_true rfl) (Nat.le_of_ble_eq_true rfl) dX1_init_23 (fun n23 => ?_)
  refine g_perm (ws' := ((n23, .inl (cI, 8, .inl (fun _ => 0))) :: (n15, .inl (cI, 80, .inl (fun _ => 0))) :: (n7, .inl (cI, 80, .inl (fun _ => 0))) :: (h, .inr (1, [.ref n7, .ref n15, .null, .null, .int 0, .int 0, .null, .null, .null])) :: Z)) (List.perm_append_singleton _ _) ?_
  refine g_more (k2 := 3) (n2 := 168) (Nat.le_of_ble_eq_true rfl) (Nat.le_of_ble_eq_true rfl) ?_
  refine g_putF (ci := 1) (Cn := RX1) (T := TX1) (N := 9) (ty := .array .int) (ws' := ((n23, .inl (cI, 8, .inl (fun _ => 0))) :: (n15, .inl (cI, 80, .inl (fun _ => 0))) :: (n7, .inl (cI, 80, .inl (fun _ => 0))) :: (h, .inr (1, [.ref n7, .ref n15, .ref n23, .null, .int 0, .int 0, .null, .null, .null])) :: Z)) C hin k_X1_init_inX1 tyX1 tyX1_ok nmX1 3 rfl rfl 2 (by decide) k_X1_init_7 rfl rfl rfl (by decide +kernel) rfl rfl (Nat.le_of_ble_eq_true rfl) dX1_init_25 rfl ?_
  refine g_aload_n C dX1_init_28 rfl 0 rfl ?_
  refine g_bipush (v := 100) C dX1_init_29 (by decide) ?_
  refine g_newq (N0 := 100) C 1 ht1 k_X1_init_8 (by decide) (by decide) (by decide) (Nat.le_of_ble_eq_true rfl) (Nat.le_of_ble_eq_true rfl) dX1_init_31 (fun n31 => ?_)
  refine g_perm (ws' := ((n31, .inl (cP, 100, .inr (.inr (.inr (.inr (fun _ => none)))))) :: (n23, .inl (cI, 8, .inl (fun _ => 0))) :: (n15, .inl (cI, 80, .inl (fun _ => 0))) :: (n7, .inl (cI, 80, .inl (fun _ => 0))) :: (h, .inr (1, [.ref n7, .ref n15, .ref n23, .null, .int 0, .int 0, .null, .null, .null])) :: Z)) (List.perm_append_singleton _ _) ?_
  refine g_more (k2 := 4) (n2 := 268) (Nat.le_of_ble_eq_true rfl) (Nat.le_of_ble_eq_true rfl) ?_
  refine g_putF (ci := 1) (Cn := RX1) (T := TX1) (N := 9) (ty := .array (.object "WetMosaic$Piece")) (ws' := ((n31, .inl (cP, 100, .inr (.inr (.inr (.inr (fun _ => none)))))) :: (n23, .inl (cI, 8, .inl (fun _ => 0))) :: (n15, .inl (cI, 80, .inl (fun _ => 0))) :: (n7, .inl (cI, 80, .inl (fun _ => 0))) :: (h, .inr (1, [.ref n7, .ref n15, .ref n23, .ref n31, .int 0, .int 0, .null, .null, .null])) :: Z)) C hin k_X1_init_inX1 tyX1 tyX1_ok nmX1 4 rfl rfl 3 (by decide) k_X1_init_9 rfl rfl rfl (by decide +kernel) rfl rfl (Nat.le_of_ble_eq_true rfl) dX1_init_34 rfl ?_
  refine g_aload_n C dX1_init_37 rfl 0 rfl ?_
  refine g_bipush (v := 80) C dX1_init_38 (by decide) ?_
  refine g_newa (N0 := 80) C 0 ht0 k_X1_init_3 (by decide) (by decide) (by decide) (Nat.le_of_ble_eq_true rfl) (Nat.le_of_ble_eq_true rfl) dX1_init_40 (fun n40 => ?_)
  refine g_perm (ws' := ((n40, .inl (cI, 80, .inl (fun _ => 0))) :: (n31, .inl (cP, 100, .inr (.inr (.inr (.inr (fun _ => none)))))) :: (n23, .inl (cI, 8, .inl (fun _ => 0))) :: (n15, .inl (cI, 80, .inl (fun _ => 0))) :: (n7, .inl (cI, 80, .inl (fun _ => 0))) :: (h, .inr (1, [.ref n7, .ref n15, .ref n23, .ref n31, .int 0, .int 0, .null, .null, .null])) :: Z)) (List.perm_append_singleton _ _) ?_
  refine g_more (k2 := 5) (n2 := 348) (Nat.le_of_ble_eq_true rfl) (Nat.le_of_ble_eq_true rfl) ?_
  refine g_putF (ci := 1) (Cn := RX1) (T := TX1) (N := 9) (ty := .array .int) (ws' := ((n40, .inl (cI, 80, .inl (fun _ => 0))) :: (n31, .inl (cP, 100, .inr (.inr (.inr (.inr (fun _ => none)))))) :: (n23, .inl (cI, 8, .inl (fun _ => 0))) :: (n15, .inl (cI, 80, .inl (fun _ => 0))) :: (n7, .inl (cI, 80, .inl (fun _ => 0))) :: (h, .inr (1, [.ref n7, .ref n15, .ref n23, .ref n31, .int 0, .int 0, .ref n40, .null, .null])) :: Z)) C hin k_X1_init_inX1 tyX1 tyX1_ok nmX1 5 rfl rfl 6 (by decide) k_X1_init_10 rfl rfl rfl (by decide +kernel) rfl rfl (Nat.le_of_ble_eq_true rfl) dX1_init_42 rfl ?_
  refine g_aload_n C dX1_init_45 rfl 0 rfl ?_
  refine g_bipush (v := 80) C dX1_init_46 (by decide) ?_
  refine g_newa (N0 := 80) C 0 ht0 k_X1_init_3 (by decide) (by decide) (by decide) (Nat.le_of_ble_eq_true rfl) (Nat.le_of_ble_eq_true rfl) dX1_init_48 (fun n48 => ?_)
  refine g_perm (ws' := ((n48, .inl (cI, 80, .inl (fun _ => 0))) :: (n40, .inl (cI, 80, .inl (fun _ => 0))) :: (n31, .inl (cP, 100, .inr (.inr (.inr (.inr (fun _ => none)))))) :: (n23, .inl (cI, 8, .inl (fun _ => 0))) :: (n15, .inl (cI, 80, .inl (fun _ => 0))) :: (n7, .inl (cI, 80, .inl (fun _ => 0))) :: (h, .inr (1, [.ref n7, .ref n15, .ref n23, .ref n31, .int 0, .int 0, .ref n40, .null, .null])) :: Z)) (List.perm_append_singleton _ _) ?_
  refine g_more (k2 := 6) (n2 := 428) (Nat.le_of_ble_eq_true rfl) (Nat.le_of_ble_eq_true rfl) ?_
  refine g_putF (ci := 1) (Cn := RX1) (T := TX1) (N := 9) (ty := .array .int) (ws' := ((n48, .inl (cI, 80, .inl (fun _ => 0))) :: (n40, .inl (cI, 80, .inl (fun _ => 0))) :: (n31, .inl (cP, 100, .inr (.inr (.inr (.inr (fun _ => none)))))) :: (n23, .inl (cI, 8, .inl (fun _ => 0))) :: (n15, .inl (cI, 80, .inl (fun _ => 0))) :: (n7, .inl (cI, 80, .inl (fun _ => 0))) :: (h, .inr (1, [.ref n7, .ref n15, .ref n23, .ref n31, .int 0, .int 0, .ref n40, .ref n48, .null])) :: Z)) C hin k_X1_init_inX1 tyX1 tyX1_ok nmX1 6 rfl rfl 7 (by decide) k_X1_init_11 rfl rfl rfl (by decide +kernel) rfl rfl (Nat.le_of_ble_eq_true rfl) dX1_init_50 rfl ?_
  refine g_aload_n C dX1_init_53 rfl 0 rfl ?_
  refine g_bipush (v := 80) C dX1_init_54 (by decide) ?_
  refine g_newa (N0 := 80) C 0 ht0 k_X1_init_3 (by decide) (by decide) (by decide) (Nat.le_of_ble_eq_true rfl) (Nat.le_of_ble_eq_true rfl) dX1_init_56 (fun n56 => ?_)
  refine g_perm (ws' := ((n56, .inl (cI, 80, .inl (fun _ => 0))) :: (n48, .inl (cI, 80, .inl (fun _ => 0))) :: (n40, .inl (cI, 80, .inl (fun _ => 0))) :: (n31, .inl (cP, 100, .inr (.inr (.inr (.inr (fun _ => none)))))) :: (n23, .inl (cI, 8, .inl (fun _ => 0))) :: (n15, .inl (cI, 80, .inl (fun _ => 0))) :: (n7, .inl (cI, 80, .inl (fun _ => 0))) :: (h, .inr (1, [.ref n7, .ref n15, .ref n23, .ref n31, .int 0, .int 0, .ref n40, .ref n48, .null])) :: Z)) (List.perm_append_singleton _ _) ?_
  refine g_more (k2 := 7) (n2 := 508) (Nat.le_of_ble_eq_true rfl) (Nat.le_of_ble_eq_true rfl) ?_
  refine g_putF (ci := 1) (Cn := RX1) (T := TX1) (N := 9) (ty := .array .int) (ws' := ((n56, .inl (cI, 80, .inl (fun _ => 0))) :: (n48, .inl (cI, 80, .inl (fun _ => 0))) :: (n40, .inl (cI, 80, .inl (fun _ => 0))) :: (n31, .inl (cP, 100, .inr (.inr (.inr (.inr (fun _ => none)))))) :: (n23, .inl (cI, 8, .inl (fun _ => 0))) :: (n15, .inl (cI, 80, .inl (fun _ => 0))) :: (n7, .inl (cI, 80, .inl (fun _ => 0))) :: (h, .inr (1, [.ref n7, .ref n15, .ref n23, .ref n31, .int 0, .int 0, .ref n40, .ref n48, .ref n56])) :: Z)) C hin k_X1_init_inX1 tyX1 tyX1_ok nmX1 7 rfl rfl 8 (by decide) k_X1_init_12 rfl rfl rfl (by decide +kernel) rfl rfl (Nat.le_of_ble_eq_true rfl) dX1_init_58 rfl ?_
  refine g_perm (ws' := ((h, .inr (1, [.ref n7, .ref n15, .ref n23, .ref n31, .int 0, .int 0, .ref n40, .ref n48, .ref n56])) :: (n7, .inl (cI, 80, .inl (fun _ => 0))) :: (n15, .inl (cI, 80, .inl (fun _ => 0))) :: (n23, .inl (cI, 8, .inl (fun _ => 0))) :: (n31, .inl (cP, 100, .inr (.inr (.inr (.inr (fun _ => none)))))) :: (n40, .inl (cI, 80, .inl (fun _ => 0))) :: (n48, .inl (cI, 80, .inl (fun _ => 0))) :: (n56, .inl (cI, 80, .inl (fun _ => 0))) :: Z)) (List.Perm.append_right Z (List.reverse_perm ([(h, .inr (1, [.ref n7, .ref n15, .ref n23, .ref n31, .int 0, .int 0, .ref n40, .ref n48, .ref n56])), (n7, .inl (cI, 80, .inl (fun _ => 0))), (n15, .inl (cI, 80, .inl (fun _ => 0))), (n23, .inl (cI, 8, .inl (fun _ => 0))), (n31, .inl (cP, 100, .inr (.inr (.inr (.inr (fun _ => none)))))), (n40, .inl (cI, 80, .inl (fun _ => 0))), (n48, .inl (cI, 80, .inl (fun _ => 0))), (n56, .inl (cI, 80, .inl (fun _ => 0)))] : va_W))) ?_
  refine g_iconst (v := 0) C dX1_init_61 (by decide) ?_
  refine g_istore_n (lv' := [(1, .int 0), (0, .ref h)]) C dX1_init_62 rfl (by decide) rfl ?_
  have lp63 : ∀ (n9 : Nat) (i : Nat) (g1 g2 : Nat → Int32) (hg1 : ∀ c, c < i → g1 c = -1) (hg2 : ∀ c, c < i → g2 c = -1) (hi : i ≤ 80) (hn : 81 ≤ i + n9), G p l e ({ frames := 1, cells := 7, slots := 508, locals := 12 } : Room) s m args below meth c D A s.heap 2 7 508 Q 63 [(0, .ref h), (1, .int (nI i))] [] ((h, .inr (1, [.ref n7, .ref n15, .ref n23, .ref n31, .int 0, .int 0, .ref n40, .ref n48, .ref n56])) :: (n7, .inl (cI, 80, .inl (g1))) :: (n15, .inl (cI, 80, .inl (g2))) :: (n23, .inl (cI, 8, .inl (fun _ => 0))) :: (n31, .inl (cP, 100, .inr (.inr (.inr (.inr (fun _ => none)))))) :: (n40, .inl (cI, 80, .inl (fun _ => 0))) :: (n48, .inl (cI, 80, .inl (fun _ => 0))) :: (n56, .inl (cI, 80, .inl (fun _ => 0))) :: Z) := by
    intro n9
    induction n9 with
    | zero =>
      intro i g1 g2 hg1 hg2 hi hn
      exfalso; omega
    | succ n9 ih =>
      intro i g1 g2 hg1 hg2 hi hn
      refine g_iload_n C dX1_init_63 rfl 1 rfl ?_
      refine g_bipush (v := 80) C dX1_init_64 (by decide) ?_
      refine g_icmp_ge (tgt := 89) C dX1_init_66 (by decide) (fun c_1 => ?_) (fun c_1 => ?_)
      · skip
        rw [show (80 : Int32) = nI 80 from rfl, nI_leI (by omega) (by omega)] at c_1
        refine g_cong (g := fun _ => -1) (ws' := ((h, .inr (1, [.ref n7, .ref n15, .ref n23, .ref n31, .int 0, .int 0, .ref n40, .ref n48, .ref n56])) :: (n7, .inl (cI, 80, .inl (fun _ => -1))) :: (n15, .inl (cI, 80, .inl (g2))) :: (n23, .inl (cI, 8, .inl (fun _ => 0))) :: (n31, .inl (cP, 100, .inr (.inr (.inr (.inr (fun _ => none)))))) :: (n40, .inl (cI, 80, .inl (fun _ => 0))) :: (n48, .inl (cI, 80, .inl (fun _ => 0))) :: (n56, .inl (cI, 80, .inl (fun _ => 0))) :: Z)) 1 rfl (fun j hj => hg1 j (by omega)) rfl ?_
        refine g_cong (g := fun _ => -1) (ws' := ((h, .inr (1, [.ref n7, .ref n15, .ref n23, .ref n31, .int 0, .int 0, .ref n40, .ref n48, .ref n56])) :: (n7, .inl (cI, 80, .inl (fun _ => -1))) :: (n15, .inl (cI, 80, .inl (fun _ => -1))) :: (n23, .inl (cI, 8, .inl (fun _ => 0))) :: (n31, .inl (cP, 100, .inr (.inr (.inr (.inr (fun _ => none)))))) :: (n40, .inl (cI, 80, .inl (fun _ => 0))) :: (n48, .inl (cI, 80, .inl (fun _ => 0))) :: (n56, .inl (cI, 80, .inl (fun _ => 0))) :: Z)) 2 rfl (fun j hj => hg2 j (by omega)) rfl ?_
        refine g_iconst (v := 0) C dX1_init_89 (by decide) ?_
        refine g_istore_n (lv' := [(1, .int 0), (0, .ref h)]) C dX1_init_90 rfl (by decide) rfl ?_
        have lp91 : ∀ (n9 : Nat) (i : Nat) (g3 : Nat → Int32) (hg3 : ∀ c, c < i → g3 c = 1) (hi : i ≤ 8) (hn : 9 ≤ i + n9), G p l e ({ frames := 1, cells := 7, slots := 508, locals := 12 } : Room) s m args below meth c D A s.heap 2 7 508 Q 91 [(0, .ref h), (1, .int (nI i))] [] ((h, .inr (1, [.ref n7, .ref n15, .ref n23, .ref n31, .int 0, .int 0, .ref n40, .ref n48, .ref n56])) :: (n7, .inl (cI, 80, .inl (fun _ => -1))) :: (n15, .inl (cI, 80, .inl (fun _ => -1))) :: (n23, .inl (cI, 8, .inl (g3))) :: (n31, .inl (cP, 100, .inr (.inr (.inr (.inr (fun _ => none)))))) :: (n40, .inl (cI, 80, .inl (fun _ => 0))) :: (n48, .inl (cI, 80, .inl (fun _ => 0))) :: (n56, .inl (cI, 80, .inl (fun _ => 0))) :: Z) := by
          intro n9
          induction n9 with
          | zero =>
            intro i g3 hg3 hi hn
            exfalso; omega
          | succ n9 ih =>
            intro i g3 hg3 hi hn
            refine g_iload_n C dX1_init_91 rfl 1 rfl ?_
            refine g_bipush (v := 8) C dX1_init_92 (by decide) ?_
            refine g_icmp_ge (tgt := 110) C dX1_init_94 (by decide) (fun c_2 => ?_) (fun c_2 => ?_)
            · skip
              rw [show (8 : Int32) = nI 8 from rfl, nI_leI (by omega) (by omega)] at c_2
              refine g_cong (g := fun _ => 1) (ws' := ((h, .inr (1, [.ref n7, .ref n15, .ref n23, .ref n31, .int 0, .int 0, .ref n40, .ref n48, .ref n56])) :: (n7, .inl (cI, 80, .inl (fun _ => -1))) :: (n15, .inl (cI, 80, .inl (fun _ => -1))) :: (n23, .inl (cI, 8, .inl (fun _ => 1))) :: (n31, .inl (cP, 100, .inr (.inr (.inr (.inr (fun _ => none)))))) :: (n40, .inl (cI, 80, .inl (fun _ => 0))) :: (n48, .inl (cI, 80, .inl (fun _ => 0))) :: (n56, .inl (cI, 80, .inl (fun _ => 0))) :: Z)) 3 rfl (fun j hj => hg3 j (by omega)) rfl ?_
              refine g_vret C hQ (Nat.le_of_ble_eq_true rfl) (Nat.le_of_ble_eq_true rfl) dX1_init_110 ?_
              exact ⟨rfl, _, _, _, _, _, _, _, rfl⟩
            · skip
              rw [show (8 : Int32) = nI 8 from rfl, nI_leI (by omega) (by omega)] at c_2
              refine g_aload_n C dX1_init_97 rfl 0 rfl ?_
              refine g_get (v := .ref n23) (ci := 1) (Cn := RX1) (T := TX1) (N := 9) C k_X1_init_inX1 gm0 rfl 2 (by decide) k_X1_init_7 rfl rfl dX1_init_98 ?_
              refine g_iload_n C dX1_init_101 rfl 1 rfl ?_
              refine g_iconst (v := 1) C dX1_init_102 (by decide) ?_
              refine g_iast (ws' := ((h, .inr (1, [.ref n7, .ref n15, .ref n23, .ref n31, .int 0, .int 0, .ref n40, .ref n48, .ref n56])) :: (n7, .inl (cI, 80, .inl (fun _ => -1))) :: (n15, .inl (cI, 80, .inl (fun _ => -1))) :: (n23, .inl (cI, 8, .inl (upd g3 (nI i).toNatClampNeg 1))) :: (n31, .inl (cP, 100, .inr (.inr (.inr (.inr (fun _ => none)))))) :: (n40, .inl (cI, 80, .inl (fun _ => 0))) :: (n48, .inl (cI, 80, .inl (fun _ => 0))) :: (n56, .inl (cI, 80, .inl (fun _ => 0))) :: Z)) C 3 0 rfl ht0 (vp_in_nI (by omega) (by omega)) dX1_init_103 rfl ?_
              rw [nI_clamp (n := i) (by omega)]
              refine g_iinc (v := nI (i + 1)) (lv' := [(1, .int (nI (i + 1))), (0, .ref h)]) C dX1_init_104 1 rfl (by exact nI_add _ 1) (by decide) rfl ?_
              refine g_goto (tgt := 91) C dX1_init_107 (by decide) ?_
              refine g_sub [1, 0] (lv' := [(0, .ref h), (1, .int (nI (i + 1)))]) rfl ?_
              exact ih (i + 1) _ (upd_k hg3) (by omega) (by omega)
        refine g_sub [1, 0] (lv' := [(0, .ref h), (1, .int 0)]) rfl ?_
        exact lp91 9 0 _ (fun c hc => absurd hc (Nat.not_lt_zero c)) (by omega) (by omega)
      · skip
        rw [show (80 : Int32) = nI 80 from rfl, nI_leI (by omega) (by omega)] at c_1
        refine g_aload_n C dX1_init_69 rfl 0 rfl ?_
        refine g_get (v := .ref n7) (ci := 1) (Cn := RX1) (T := TX1) (N := 9) C k_X1_init_inX1 gm0 rfl 0 (by decide) k_X1_init_5 rfl rfl dX1_init_70 ?_
        refine g_iload_n C dX1_init_73 rfl 1 rfl ?_
        refine g_iconst (v := (-1)) C dX1_init_74 (by decide) ?_
        refine g_iast (ws' := ((h, .inr (1, [.ref n7, .ref n15, .ref n23, .ref n31, .int 0, .int 0, .ref n40, .ref n48, .ref n56])) :: (n7, .inl (cI, 80, .inl (upd g1 (nI i).toNatClampNeg (-1)))) :: (n15, .inl (cI, 80, .inl (g2))) :: (n23, .inl (cI, 8, .inl (fun _ => 0))) :: (n31, .inl (cP, 100, .inr (.inr (.inr (.inr (fun _ => none)))))) :: (n40, .inl (cI, 80, .inl (fun _ => 0))) :: (n48, .inl (cI, 80, .inl (fun _ => 0))) :: (n56, .inl (cI, 80, .inl (fun _ => 0))) :: Z)) C 1 0 rfl ht0 (vp_in_nI (by omega) (by omega)) dX1_init_75 rfl ?_
        rw [nI_clamp (n := i) (by omega)]
        refine g_aload_n C dX1_init_76 rfl 0 rfl ?_
        refine g_get (v := .ref n15) (ci := 1) (Cn := RX1) (T := TX1) (N := 9) C k_X1_init_inX1 gm0 rfl 1 (by decide) k_X1_init_6 rfl rfl dX1_init_77 ?_
        refine g_iload_n C dX1_init_80 rfl 1 rfl ?_
        refine g_iconst (v := (-1)) C dX1_init_81 (by decide) ?_
        refine g_iast (ws' := ((h, .inr (1, [.ref n7, .ref n15, .ref n23, .ref n31, .int 0, .int 0, .ref n40, .ref n48, .ref n56])) :: (n7, .inl (cI, 80, .inl (upd g1 i (-1)))) :: (n15, .inl (cI, 80, .inl (upd g2 (nI i).toNatClampNeg (-1)))) :: (n23, .inl (cI, 8, .inl (fun _ => 0))) :: (n31, .inl (cP, 100, .inr (.inr (.inr (.inr (fun _ => none)))))) :: (n40, .inl (cI, 80, .inl (fun _ => 0))) :: (n48, .inl (cI, 80, .inl (fun _ => 0))) :: (n56, .inl (cI, 80, .inl (fun _ => 0))) :: Z)) C 2 0 rfl ht0 (vp_in_nI (by omega) (by omega)) dX1_init_82 rfl ?_
        rw [nI_clamp (n := i) (by omega)]
        refine g_iinc (v := nI (i + 1)) (lv' := [(1, .int (nI (i + 1))), (0, .ref h)]) C dX1_init_83 1 rfl (by exact nI_add _ 1) (by decide) rfl ?_
        refine g_goto (tgt := 63) C dX1_init_86 (by decide) ?_
        refine g_sub [1, 0] (lv' := [(0, .ref h), (1, .int (nI (i + 1)))]) rfl ?_
        exact ih (i + 1) _ _ (upd_k hg1) (upd_k hg2) (by omega) (by omega)
  refine g_sub [1, 0] (lv' := [(0, .ref h), (1, .int 0)]) rfl ?_
  exact lp63 81 0 _ _ (fun c hc => absurd hc (Nat.not_lt_zero c)) (fun c hc => absurd hc (Nat.not_lt_zero c)) (by omega) (by omega)

theorem x_X1_press_IA : ∀ w ∈ (vx_atS RX1 46 "java/lang/IllegalArgumentException" ["java/lang/RuntimeException", "java/lang/Exception"]).filter goodWord, w ∈ wsX1_press := by
  intro w h
  simp only [wsX1_press, List.mem_cons, List.mem_append, h, or_true, true_or]
theorem k_X1_press_1 : Cond.classLink RX1 42 "java/lang/IllegalArgumentException" ∈ wsX1_press := by decide +kernel
theorem k_X1_press_2 : Cond.initialized "java/lang/IllegalArgumentException" ∈ wsX1_press := by decide +kernel
theorem k_X1_press_inX1 : ∀ w ∈ wsX10, w ∈ wsX1_press := by decide +kernel
theorem k_X1_press_4 : Cond.fieldLink RX1 74 "WetMosaic" "pressed" "I" ∈ wsX1_press := by decide +kernel
theorem k_X1_press_5 : Cond.fieldLink RX1 21 "WetMosaic" "pieces" "[LWetMosaic$Piece;" ∈ wsX1_press := by decide +kernel
theorem x_X1_press_IS : ∀ w ∈ (vx_atS RX1 86 "java/lang/IllegalStateException" ["java/lang/RuntimeException", "java/lang/Exception"]).filter goodWord, w ∈ wsX1_press := by
  intro w h
  simp only [wsX1_press, List.mem_cons, List.mem_append, h, or_true, true_or]
theorem k_X1_press_7 : Cond.classLink RX1 82 "java/lang/IllegalStateException" ∈ wsX1_press := by decide +kernel
theorem k_X1_press_8 : Cond.initialized "java/lang/IllegalStateException" ∈ wsX1_press := by decide +kernel
theorem k_X1_press_inX0 : ∀ w ∈ wsX00, w ∈ wsX1_press := by decide +kernel
theorem k_X1_press_10 : Cond.classLink RX1 19 RX0 ∈ wsX1_press := by decide +kernel
theorem k_X1_press_11 : Cond.instantiable RX0 8 ∈ wsX1_press := by decide +kernel
theorem k_X1_press_12 : Cond.initialized RX0 ∈ wsX1_press := by decide +kernel
theorem k_X1_press_13 : Cond.methodLink RX1 87 yX0_init ∈ wsX1_press := by decide +kernel
theorem k_X1_press_14 : Cond.instanceMethod yX0_init ∈ wsX1_press := by decide +kernel
set_option maxHeartbeats 4000000 in
set_option maxRecDepth 100000 in
theorem c_X1_press (l : Launch) (hl9 : l.stackTraces = false) (D : va_G) (tys : List (ClassId × FieldType)) (cI cP : ClassId) (ht0 : tys[0]? = some (cI, .int)) (ht1 : tys[1]? = some (cP, .object RX0)) (h a1 a2 a3 a4 a5 a6 a7 np hr : Nat) (wet cover sun fs mk fd : Nat → Int32) (pcs : Nat → Option Nat) (pa : Nat → Nat) (P : Nat → Pd) (Y : va_W) (hnp : np ≤ 100) (hpc : ∀ k, k < np → pcs k = some (pa k)) (hg : Pok np P) (x y ln9 f b : Int32) (ac : Bool) : gMx l yX1_press wsX1_press ({ frames := 7, cells := 2, slots := 14, locals := 121 } : Room) D tys [.ref h, .int x, .int y, .int ln9, .int (gz ac), .int f, .int b] ((h, .inr (1, [.ref a1, .ref a2, .ref a3, .ref a4, .int (nI np), .int (nI hr), .ref a5, .ref a6, .ref a7])) :: (a1, .inl (cI, 80, .inl (wet))) :: (a2, .inl (cI, 80, .inl (cover))) :: (a3, .inl (cI, 8, .inl (sun))) :: (a4, .inl (cP, 100, .inr (.inr (.inr (.inr (pcs)))))) :: (a5, .inl (cI, 80, .inl (fs))) :: (a6, .inl (cI, 80, .inl (mk))) :: (a7, .inl (cI, 80, .inl (fd))) :: (plist pa P np ++ Y)) (fun u w => cdPr np wet cover x y ln9 ac f b = 0 ∧ u = some (.int (nI np)) ∧ ∃ q, w = ((h, .inr (1, [.ref a1, .ref a2, .ref a3, .ref a4, .int (nI (np + 1)), .int (nI hr), .ref a5, .ref a6, .ref a7])) :: (a1, .inl (cI, 80, .inl (wet))) :: (a2, .inl (cI, 80, .inl (setL cover (pcl (vn x, vn y, vn ln9, f, b, ac, false, false)) (nI np) (vn ln9)))) :: (a3, .inl (cI, 8, .inl (sun))) :: (a4, .inl (cP, 100, .inr (.inr (.inr (.inr (va_up pcs np (some q))))))) :: (a5, .inl (cI, 80, .inl (fs))) :: (a6, .inl (cI, 80, .inl (mk))) :: (a7, .inl (cI, 80, .inl (fd))) :: (plist (va_up pa np q) (pup P np (vn x, vn y, vn ln9, f, b, ac, false, false)) (np + 1) ++ Y))) (fun E => cdE (cdPr np wet cover x y ln9 ac f b) nmOAS E) 2 14 := by
  refine gMx_of2 (by decide +kernel) rfl (Nat.le_of_ble_eq_true rfl) ?_
  intro p e s m args below meth c A Q C hT hQ hQX
  refine g_sub [0, 1, 2, 3, 4, 5, 6] (lv' := [(0, .ref h), (1, .int x), (2, .int y), (3, .int ln9), (4, .int (gz ac)), (5, .int f), (6, .int b)]) rfl ?_
  refine g_iload_n C dX1_press_0 rfl 1 rfl ?_
  refine g_iload_n C dX1_press_1 rfl 2 rfl ?_
  refine g_callSx (As := [.int x, .int y]) (rest := []) C hQX hT (c_X1_refuseOutside l hl9 D tys ((h, .inr (1, [.ref a1, .ref a2, .ref a3, .ref a4, .int (nI np), .int (nI hr), .ref a5, .ref a6, .ref a7])) :: (a1, .inl (cI, 80, .inl (wet))) :: (a2, .inl (cI, 80, .inl (cover))) :: (a3, .inl (cI, 8, .inl (sun))) :: (a4, .inl (cP, 100, .inr (.inr (.inr (.inr (pcs)))))) :: (a5, .inl (cI, 80, .inl (fs))) :: (a6, .inl (cI, 80, .inl (mk))) :: (a7, .inl (cI, 80, .inl (fd))) :: (plist pa P np ++ Y)) x y) (va_cwS 2 C.ts gX1_press_X1_refuseOutside rfl rfl rfl (by decide +kernel) ⟨(Nat.le_of_ble_eq_true rfl), (Nat.le_of_ble_eq_true rfl)⟩) rfl rfl (Nat.le_of_ble_eq_true rfl) dX1_press_2 (Nat.le_of_ble_eq_true rfl) (Nat.le_of_ble_eq_true rfl) (Nat.le_of_ble_eq_true rfl) (Nat.le_of_ble_eq_true rfl) (fun E h => ⟨by simp [cdPr, h.1], by rw [h.2]; simp [cdPr, h.1]⟩) (g_isYV (W1 := ((h, .inr (1, [.ref a1, .ref a2, .ref a3, .ref a4, .int (nI np), .int (nI hr), .ref a5, .ref a6, .ref a7])) :: (a1, .inl (cI, 80, .inl (wet))) :: (a2, .inl (cI, 80, .inl (cover))) :: (a3, .inl (cI, 8, .inl (sun))) :: (a4, .inl (cP, 100, .inr (.inr (.inr (.inr (pcs)))))) :: (a5, .inl (cI, 80, .inl (fs))) :: (a6, .inl (cI, 80, .inl (mk))) :: (a7, .inl (cI, 80, .inl (fd))) :: (plist pa P np ++ Y))) (fun how => ?_))
  refine g_more (k2 := 1) (n2 := 6) (Nat.le_of_ble_eq_true rfl) (Nat.le_of_ble_eq_true rfl) ?_
  have how2 : inR 0 9 x = true ∧ inR 0 7 y = true := by simpa [onW] using how
  obtain ⟨x9, hx9, rfl⟩ := inR_nI (n := 9) rfl how2.1
  have hclx9 : vn (nI x9) = x9 := nI_clamp (by omega)
  obtain ⟨y9, hy9, rfl⟩ := inR_nI (n := 7) rfl how2.2
  have hcly9 : vn (nI y9) = y9 := nI_clamp (by omega)
  refine g_iload_n C dX1_press_5 rfl 3 rfl ?_
  refine g_iconst (v := 1) C dX1_press_6 (by decide) ?_
  refine g_iconst (v := 3) C dX1_press_7 (by decide) ?_
  refine g_callS (As := [.int ln9, .int 1, .int 3]) (rest := []) C (c_X1_within l D tys ((h, .inr (1, [.ref a1, .ref a2, .ref a3, .ref a4, .int (nI np), .int (nI hr), .ref a5, .ref a6, .ref a7])) :: (a1, .inl (cI, 80, .inl (wet))) :: (a2, .inl (cI, 80, .inl (cover))) :: (a3, .inl (cI, 8, .inl (sun))) :: (a4, .inl (cP, 100, .inr (.inr (.inr (.inr (pcs)))))) :: (a5, .inl (cI, 80, .inl (fs))) :: (a6, .inl (cI, 80, .inl (mk))) :: (a7, .inl (cI, 80, .inl (fd))) :: (plist pa P np ++ Y)) ln9 1 3) (va_cwS 3 C.ts gX1_press_X1_within rfl rfl rfl (by decide +kernel) ⟨(Nat.le_of_ble_eq_true rfl), (Nat.le_of_ble_eq_true rfl)⟩) rfl rfl (Nat.le_of_ble_eq_true rfl) dX1_press_8 (Nat.le_of_ble_eq_true rfl) (Nat.le_of_ble_eq_true rfl) (g_is (x := .int (gz (inR 1 3 ln9))) (W1 := ((h, .inr (1, [.ref a1, .ref a2, .ref a3, .ref a4, .int (nI np), .int (nI hr), .ref a5, .ref a6, .ref a7])) :: (a1, .inl (cI, 80, .inl (wet))) :: (a2, .inl (cI, 80, .inl (cover))) :: (a3, .inl (cI, 8, .inl (sun))) :: (a4, .inl (cP, 100, .inr (.inr (.inr (.inr (pcs)))))) :: (a5, .inl (cI, 80, .inl (fs))) :: (a6, .inl (cI, 80, .inl (mk))) :: (a7, .inl (cI, 80, .inl (fd))) :: (plist pa P np ++ Y))) ?_)
  refine g_if_eq (tgt := 30) C dX1_press_11 (by decide) (fun c_1 => ?_) (fun c_1 => ?_)
  · skip
    replace c_1 := gz0.mp c_1
    refine g_throwS (own := RX1) (cls := "java/lang/IllegalArgumentException") (text := "no such length or colour") (names := tNs) (ik := 42) (is := 72) (ic := 46) C hQX hT hl9 (by decide) (by decide) k_X1_press_1 k_X1_press_2 (by decide +kernel) bad_IA x_X1_press_IA ot_IA dX1_press_30 dX1_press_33 dX1_press_34 dX1_press_36 dX1_press_39 (Nat.le_of_ble_eq_true rfl) (Nat.le_of_ble_eq_true rfl) (Nat.le_of_ble_eq_true rfl) (Nat.le_of_ble_eq_true rfl) (Nat.le_of_ble_eq_true rfl) (Nat.le_of_ble_eq_true rfl) ?_
    exact ⟨by simp [cdPr, *], by simp [cdPr, *]⟩
  · skip
    replace c_1 := gzn.mp c_1
    refine g_iload C dX1_press_14 5 rfl ?_
    refine g_callS (As := [.int f]) (rest := []) C (c_X1_isColour l D tys ((h, .inr (1, [.ref a1, .ref a2, .ref a3, .ref a4, .int (nI np), .int (nI hr), .ref a5, .ref a6, .ref a7])) :: (a1, .inl (cI, 80, .inl (wet))) :: (a2, .inl (cI, 80, .inl (cover))) :: (a3, .inl (cI, 8, .inl (sun))) :: (a4, .inl (cP, 100, .inr (.inr (.inr (.inr (pcs)))))) :: (a5, .inl (cI, 80, .inl (fs))) :: (a6, .inl (cI, 80, .inl (mk))) :: (a7, .inl (cI, 80, .inl (fd))) :: (plist pa P np ++ Y)) f) (va_cwS 1 C.ts gX1_press_X1_isColour rfl rfl rfl (by decide +kernel) ⟨(Nat.le_of_ble_eq_true rfl), (Nat.le_of_ble_eq_true rfl)⟩) rfl rfl (Nat.le_of_ble_eq_true rfl) dX1_press_16 (Nat.le_of_ble_eq_true rfl) (Nat.le_of_ble_eq_true rfl) (g_is (x := .int (gz (inR 0 6 f))) (W1 := ((h, .inr (1, [.ref a1, .ref a2, .ref a3, .ref a4, .int (nI np), .int (nI hr), .ref a5, .ref a6, .ref a7])) :: (a1, .inl (cI, 80, .inl (wet))) :: (a2, .inl (cI, 80, .inl (cover))) :: (a3, .inl (cI, 8, .inl (sun))) :: (a4, .inl (cP, 100, .inr (.inr (.inr (.inr (pcs)))))) :: (a5, .inl (cI, 80, .inl (fs))) :: (a6, .inl (cI, 80, .inl (mk))) :: (a7, .inl (cI, 80, .inl (fd))) :: (plist pa P np ++ Y))) ?_)
    refine g_if_eq (tgt := 30) C dX1_press_19 (by decide) (fun c_2 => ?_) (fun c_2 => ?_)
    · skip
      replace c_2 := gz0.mp c_2
      refine g_throwS (own := RX1) (cls := "java/lang/IllegalArgumentException") (text := "no such length or colour") (names := tNs) (ik := 42) (is := 72) (ic := 46) C hQX hT hl9 (by decide) (by decide) k_X1_press_1 k_X1_press_2 (by decide +kernel) bad_IA x_X1_press_IA ot_IA dX1_press_30 dX1_press_33 dX1_press_34 dX1_press_36 dX1_press_39 (Nat.le_of_ble_eq_true rfl) (Nat.le_of_ble_eq_true rfl) (Nat.le_of_ble_eq_true rfl) (Nat.le_of_ble_eq_true rfl) (Nat.le_of_ble_eq_true rfl) (Nat.le_of_ble_eq_true rfl) ?_
      exact ⟨by simp [cdPr, *], by simp [cdPr, *]⟩
    · skip
      replace c_2 := gzn.mp c_2
      refine g_iload C dX1_press_22 6 rfl ?_
      refine g_callS (As := [.int b]) (rest := []) C (c_X1_isColour l D tys ((h, .inr (1, [.ref a1, .ref a2, .ref a3, .ref a4, .int (nI np), .int (nI hr), .ref a5, .ref a6, .ref a7])) :: (a1, .inl (cI, 80, .inl (wet))) :: (a2, .inl (cI, 80, .inl (cover))) :: (a3, .inl (cI, 8, .inl (sun))) :: (a4, .inl (cP, 100, .inr (.inr (.inr (.inr (pcs)))))) :: (a5, .inl (cI, 80, .inl (fs))) :: (a6, .inl (cI, 80, .inl (mk))) :: (a7, .inl (cI, 80, .inl (fd))) :: (plist pa P np ++ Y)) b) (va_cwS 1 C.ts gX1_press_X1_isColour rfl rfl rfl (by decide +kernel) ⟨(Nat.le_of_ble_eq_true rfl), (Nat.le_of_ble_eq_true rfl)⟩) rfl rfl (Nat.le_of_ble_eq_true rfl) dX1_press_24 (Nat.le_of_ble_eq_true rfl) (Nat.le_of_ble_eq_true rfl) (g_is (x := .int (gz (inR 0 6 b))) (W1 := ((h, .inr (1, [.ref a1, .ref a2, .ref a3, .ref a4, .int (nI np), .int (nI hr), .ref a5, .ref a6, .ref a7])) :: (a1, .inl (cI, 80, .inl (wet))) :: (a2, .inl (cI, 80, .inl (cover))) :: (a3, .inl (cI, 8, .inl (sun))) :: (a4, .inl (cP, 100, .inr (.inr (.inr (.inr (pcs)))))) :: (a5, .inl (cI, 80, .inl (fs))) :: (a6, .inl (cI, 80, .inl (mk))) :: (a7, .inl (cI, 80, .inl (fd))) :: (plist pa P np ++ Y))) ?_)
      refine g_if_ne (tgt := 40) C dX1_press_27 (by decide) (fun c_3 => ?_) (fun c_3 => ?_)
      · skip
        replace c_3 := gzn.mp c_3
        obtain ⟨n, hn1, hn2, rfl⟩ := inR1_of (N := 3) rfl (by decide) c_1
        have hcln : vn (nI n) = n := nI_clamp (by omega)
        refine g_aload_n C dX1_press_40 rfl 0 rfl ?_
        refine g_get (v := .int (nI np)) (ci := 1) (Cn := RX1) (T := TX1) (N := 9) C k_X1_press_inX1 gm0 rfl 4 (by decide) k_X1_press_4 rfl rfl dX1_press_41 ?_
        refine g_istore (lv' := [(7, .int (nI np)), (0, .ref h), (1, .int (nI x9)), (2, .int (nI y9)), (3, .int (nI n)), (4, .int (gz ac)), (5, .int f), (6, .int b)]) C dX1_press_44 (by decide) rfl ?_
        refine g_iload C dX1_press_46 0 rfl ?_
        refine g_iconst (v := 0) C dX1_press_48 (by decide) ?_
        refine g_aload_n C dX1_press_49 rfl 1 rfl ?_
        refine g_get (v := .ref a4) (ci := 1) (Cn := RX1) (T := TX1) (N := 9) C k_X1_press_inX1 gm0 rfl 3 (by decide) k_X1_press_5 rfl rfl dX1_press_50 ?_
        refine g_alen (v := 100) C 1 (gmT (gmT (gmT (gmT gm0)))) ht1 rfl dX1_press_53 ?_
        refine g_iconst (v := 1) C dX1_press_54 (by decide) ?_
        refine g_isub C dX1_press_55 ?_
        refine g_eqi (x := 100 - 1) (y := 99) (by decide) ?_
        refine g_callS (As := [.int (nI np), .int 0, .int 99]) (rest := []) C (c_X1_within l D tys ((h, .inr (1, [.ref a1, .ref a2, .ref a3, .ref a4, .int (nI np), .int (nI hr), .ref a5, .ref a6, .ref a7])) :: (a1, .inl (cI, 80, .inl (wet))) :: (a2, .inl (cI, 80, .inl (cover))) :: (a3, .inl (cI, 8, .inl (sun))) :: (a4, .inl (cP, 100, .inr (.inr (.inr (.inr (pcs)))))) :: (a5, .inl (cI, 80, .inl (fs))) :: (a6, .inl (cI, 80, .inl (mk))) :: (a7, .inl (cI, 80, .inl (fd))) :: (plist pa P np ++ Y)) (nI np) 0 99) (va_cwS 3 C.ts gX1_press_X1_within rfl rfl rfl (by decide +kernel) ⟨(Nat.le_of_ble_eq_true rfl), (Nat.le_of_ble_eq_true rfl)⟩) rfl rfl (Nat.le_of_ble_eq_true rfl) dX1_press_56 (Nat.le_of_ble_eq_true rfl) (Nat.le_of_ble_eq_true rfl) (g_is (x := .int (gz (inR 0 99 (nI np)))) (W1 := ((h, .inr (1, [.ref a1, .ref a2, .ref a3, .ref a4, .int (nI np), .int (nI hr), .ref a5, .ref a6, .ref a7])) :: (a1, .inl (cI, 80, .inl (wet))) :: (a2, .inl (cI, 80, .inl (cover))) :: (a3, .inl (cI, 8, .inl (sun))) :: (a4, .inl (cP, 100, .inr (.inr (.inr (.inr (pcs)))))) :: (a5, .inl (cI, 80, .inl (fs))) :: (a6, .inl (cI, 80, .inl (mk))) :: (a7, .inl (cI, 80, .inl (fd))) :: (plist pa P np ++ Y))) ?_)
        refine g_if_eq (tgt := 75) C dX1_press_59 (by decide) (fun c_4 => ?_) (fun c_4 => ?_)
        · skip
          replace c_4 := gz0.mp c_4
          refine g_throwS (own := RX1) (cls := "java/lang/IllegalStateException") (text := "no piece can be pressed there") (names := tNs) (ik := 82) (is := 84) (ic := 86) C hQX hT hl9 (by decide) (by decide) k_X1_press_7 k_X1_press_8 (by decide +kernel) bad_IS x_X1_press_IS ot_IS dX1_press_75 dX1_press_78 dX1_press_79 dX1_press_81 dX1_press_84 (Nat.le_of_ble_eq_true rfl) (Nat.le_of_ble_eq_true rfl) (Nat.le_of_ble_eq_true rfl) (Nat.le_of_ble_eq_true rfl) (Nat.le_of_ble_eq_true rfl) (Nat.le_of_ble_eq_true rfl) ?_
          exact ⟨by simp [cdPr, *], by simp [cdPr, *]⟩
        · skip
          replace c_4 := gzn.mp c_4
          have hn99 := inR99 hnp c_4
          refine g_aload_n C dX1_press_62 rfl 1 rfl ?_
          refine g_iload_n C dX1_press_63 rfl 2 rfl ?_
          refine g_iload_n C dX1_press_64 rfl 3 rfl ?_
          refine g_iload_n C dX1_press_65 rfl 4 rfl ?_
          refine g_iload C dX1_press_66 5 rfl ?_
          refine g_iconst (v := (-1)) C dX1_press_68 (by decide) ?_
          refine g_callV (ci := 1) (Cn := RX1) (As := [.int (nI x9), .int (nI y9), .int (nI n), .int (gz ac), .int ((-1))]) (rest := []) C gm0 rfl rfl (c_X1_hasRoom l D tys cI ht0 ((h, .inr (1, [.ref a1, .ref a2, .ref a3, .ref a4, .int (nI np), .int (nI hr), .ref a5, .ref a6, .ref a7])) :: (a1, .inl (cI, 80, .inl (wet))) :: (a2, .inl (cI, 80, .inl (cover))) :: (a3, .inl (cI, 8, .inl (sun))) :: (a4, .inl (cP, 100, .inr (.inr (.inr (.inr (pcs)))))) :: (a5, .inl (cI, 80, .inl (fs))) :: (a6, .inl (cI, 80, .inl (mk))) :: (a7, .inl (cI, 80, .inl (fd))) :: (plist pa P np ++ Y)) h a1 a2 a3 a4 a5 a6 a7 np hr wet cover x9 y9 n ac (-1) (by omega) (by omega) (by omega) gm0 (gmT gm0) (gmT (gmT gm0))) (cwV 5 C.ts gX1_press_X1_hasRoom rfl rfl rfl (by decide +kernel) ⟨(Nat.le_of_ble_eq_true rfl), (Nat.le_of_ble_eq_true rfl)⟩) rfl rfl (Nat.le_of_ble_eq_true rfl) dX1_press_69 (Nat.le_of_ble_eq_true rfl) (Nat.le_of_ble_eq_true rfl) (g_is (x := .int (gz (hrm wet cover x9 y9 n ac (-1)))) (W1 := ((h, .inr (1, [.ref a1, .ref a2, .ref a3, .ref a4, .int (nI np), .int (nI hr), .ref a5, .ref a6, .ref a7])) :: (a1, .inl (cI, 80, .inl (wet))) :: (a2, .inl (cI, 80, .inl (cover))) :: (a3, .inl (cI, 8, .inl (sun))) :: (a4, .inl (cP, 100, .inr (.inr (.inr (.inr (pcs)))))) :: (a5, .inl (cI, 80, .inl (fs))) :: (a6, .inl (cI, 80, .inl (mk))) :: (a7, .inl (cI, 80, .inl (fd))) :: (plist pa P np ++ Y))) ?_)
          refine g_if_ne (tgt := 85) C dX1_press_72 (by decide) (fun c_5 => ?_) (fun c_5 => ?_)
          · skip
            replace c_5 := gzn.mp c_5
            have hrm9 := c_5
            refine g_new (ci := 0) (Cn := RX0) (T := TX0) (N := 8) (fs := [.int 0, .int 0, .int 0, .int 0, .int 0, .int 0, .int 0, .int 0]) C k_X1_press_inX0 tyX0 tyX0_ok k_X1_press_10 k_X1_press_11 k_X1_press_12 rfl (fun j hj => by rcases (show j = 0 ∨ j = 1 ∨ j = 2 ∨ j = 3 ∨ j = 4 ∨ j = 5 ∨ j = 6 ∨ j = 7 by omega) with rfl | rfl | rfl | rfl | rfl | rfl | rfl | rfl <;> rfl) (Nat.le_of_ble_eq_true rfl) (Nat.le_of_ble_eq_true rfl) dX1_press_85 (fun q85 hq85 => ?_)
            refine g_more (k2 := 2) (n2 := 14) (Nat.le_of_ble_eq_true rfl) (Nat.le_of_ble_eq_true rfl) ?_
            refine g_perm (ws' := ((q85, .inr (0, [.int 0, .int 0, .int 0, .int 0, .int 0, .int 0, .int 0, .int 0])) :: (h, .inr (1, [.ref a1, .ref a2, .ref a3, .ref a4, .int (nI np), .int (nI hr), .ref a5, .ref a6, .ref a7])) :: (a1, .inl (cI, 80, .inl (wet))) :: (a2, .inl (cI, 80, .inl (cover))) :: (a3, .inl (cI, 8, .inl (sun))) :: (a4, .inl (cP, 100, .inr (.inr (.inr (.inr (pcs)))))) :: (a5, .inl (cI, 80, .inl (fs))) :: (a6, .inl (cI, 80, .inl (mk))) :: (a7, .inl (cI, 80, .inl (fd))) :: (plist pa P np ++ Y))) (List.perm_append_singleton _ _) ?_
            refine g_dup C dX1_press_88 rfl ?_
            refine g_iload_n C dX1_press_89 rfl 2 rfl ?_
            refine g_iload_n C dX1_press_90 rfl 3 rfl ?_
            refine g_iload_n C dX1_press_91 rfl 4 rfl ?_
            refine g_iload C dX1_press_92 5 rfl ?_
            refine g_iload C dX1_press_94 6 rfl ?_
            refine g_iload C dX1_press_96 7 rfl ?_
            refine g_callI (As := [.int (nI x9), .int (nI y9), .int (nI n), .int (gz ac), .int f, .int b]) (rest := [.ref q85]) C (c_X0_init l D tys ((h, .inr (1, [.ref a1, .ref a2, .ref a3, .ref a4, .int (nI np), .int (nI hr), .ref a5, .ref a6, .ref a7])) :: (a1, .inl (cI, 80, .inl (wet))) :: (a2, .inl (cI, 80, .inl (cover))) :: (a3, .inl (cI, 8, .inl (sun))) :: (a4, .inl (cP, 100, .inr (.inr (.inr (.inr (pcs)))))) :: (a5, .inl (cI, 80, .inl (fs))) :: (a6, .inl (cI, 80, .inl (mk))) :: (a7, .inl (cI, 80, .inl (fd))) :: (plist pa P np ++ Y)) q85 (nI x9) (nI y9) (nI n) f b ac) (cwI 6 C.ts gX1_press_X0_init rfl rfl rfl (C.w _ k_X1_press_12) (C.w _ k_X1_press_13) (C.w _ k_X1_press_14) rfl (by decide +kernel) ⟨(Nat.le_of_ble_eq_true rfl), (Nat.le_of_ble_eq_true rfl)⟩) rfl rfl (Nat.le_of_ble_eq_true rfl) dX1_press_98 (Nat.le_of_ble_eq_true rfl) (Nat.le_of_ble_eq_true rfl) (g_isV (W1 := ((q85, .inr (0, [.int (nI x9), .int (nI y9), .int (nI n), .int f, .int b, .int (gz ac), .int 0, .int 0])) :: (h, .inr (1, [.ref a1, .ref a2, .ref a3, .ref a4, .int (nI np), .int (nI hr), .ref a5, .ref a6, .ref a7])) :: (a1, .inl (cI, 80, .inl (wet))) :: (a2, .inl (cI, 80, .inl (cover))) :: (a3, .inl (cI, 8, .inl (sun))) :: (a4, .inl (cP, 100, .inr (.inr (.inr (.inr (pcs)))))) :: (a5, .inl (cI, 80, .inl (fs))) :: (a6, .inl (cI, 80, .inl (mk))) :: (a7, .inl (cI, 80, .inl (fd))) :: (plist pa P np ++ Y))) ?_)
            refine g_astore (lv' := [(8, .ref q85), (7, .int (nI np)), (0, .ref h), (1, .int (nI x9)), (2, .int (nI y9)), (3, .int (nI n)), (4, .int (gz ac)), (5, .int f), (6, .int b)]) C dX1_press_101 (by decide) rfl ?_
            refine g_aload_n C dX1_press_103 rfl 2 rfl ?_
            refine g_get (v := .ref a4) (ci := 1) (Cn := RX1) (T := TX1) (N := 9) C k_X1_press_inX1 (gmT gm0) rfl 3 (by decide) k_X1_press_5 rfl rfl dX1_press_104 ?_
            refine g_iload C dX1_press_107 1 rfl ?_
            refine g_aload C dX1_press_109 0 rfl ?_
            refine g_aast (r := (RX0, TX0, 8)) (ws' := ((q85, .inr (0, [.int (nI x9), .int (nI y9), .int (nI n), .int f, .int b, .int (gz ac), .int 0, .int 0])) :: (h, .inr (1, [.ref a1, .ref a2, .ref a3, .ref a4, .int (nI np), .int (nI hr), .ref a5, .ref a6, .ref a7])) :: (a1, .inl (cI, 80, .inl (wet))) :: (a2, .inl (cI, 80, .inl (cover))) :: (a3, .inl (cI, 8, .inl (sun))) :: (a4, .inl (cP, 100, .inr (.inr (.inr (.inr (va_up pcs (nI np).toNatClampNeg (some q85))))))) :: (a5, .inl (cI, 80, .inl (fs))) :: (a6, .inl (cI, 80, .inl (mk))) :: (a7, .inl (cI, 80, .inl (fd))) :: (plist pa P np ++ Y))) C 5 1 0 0 rfl ht1 rfl rfl (vp_in_nI (by omega) (by omega)) dX1_press_111 rfl ?_
            rw [nI_clamp (n := np) (by omega)]
            refine g_aload_n C dX1_press_112 rfl 2 rfl ?_
            refine g_iload C dX1_press_113 1 rfl ?_
            refine g_iconst (v := 1) C dX1_press_115 (by decide) ?_
            refine g_iadd C dX1_press_116 ?_
            refine g_eqi (x := (nI np) + 1) (y := nI (np + 1)) (nI_add _ 1) ?_
            refine g_put (ci := 1) (Cn := RX1) (T := TX1) (N := 9) (ty := .int) (ws' := ((q85, .inr (0, [.int (nI x9), .int (nI y9), .int (nI n), .int f, .int b, .int (gz ac), .int 0, .int 0])) :: (h, .inr (1, [.ref a1, .ref a2, .ref a3, .ref a4, .int (nI (np + 1)), .int (nI hr), .ref a5, .ref a6, .ref a7])) :: (a1, .inl (cI, 80, .inl (wet))) :: (a2, .inl (cI, 80, .inl (cover))) :: (a3, .inl (cI, 8, .inl (sun))) :: (a4, .inl (cP, 100, .inr (.inr (.inr (.inr (va_up pcs np (some q85))))))) :: (a5, .inl (cI, 80, .inl (fs))) :: (a6, .inl (cI, 80, .inl (mk))) :: (a7, .inl (cI, 80, .inl (fd))) :: (plist pa P np ++ Y))) C k_X1_press_inX1 tyX1 tyX1_ok nmX1 1 rfl rfl 4 (by decide) k_X1_press_4 rfl rfl (by decide +kernel) rfl rfl (Nat.le_of_ble_eq_true rfl) dX1_press_117 rfl ?_
            refine g_perm (ws' := ((h, .inr (1, [.ref a1, .ref a2, .ref a3, .ref a4, .int (nI (np + 1)), .int (nI hr), .ref a5, .ref a6, .ref a7])) :: (a1, .inl (cI, 80, .inl (wet))) :: (a2, .inl (cI, 80, .inl (cover))) :: (a3, .inl (cI, 8, .inl (sun))) :: (a4, .inl (cP, 100, .inr (.inr (.inr (.inr (va_up pcs np (some q85))))))) :: (a5, .inl (cI, 80, .inl (fs))) :: (a6, .inl (cI, 80, .inl (mk))) :: (a7, .inl (cI, 80, .inl (fd))) :: (plist (va_up pa np q85) (pup P np (x9, y9, n, f, b, ac, false, false)) (np + 1) ++ Y))) (plist_push (p := (x9, y9, n, f, b, ac, false, false))) ?_
            refine g_aload_n C dX1_press_120 rfl 2 rfl ?_
            refine g_aload C dX1_press_121 0 rfl ?_
            refine g_iload C dX1_press_123 1 rfl ?_
            refine g_callV (ci := 1) (Cn := RX1) (As := [.ref q85, .int (nI np)]) (rest := []) C gm0 rfl rfl (c_X1_setCover l D tys cI cP ht0 h a1 a2 a3 a4 a5 a6 a7 (np + 1) hr wet cover sun fs mk fd (va_up pcs np (some q85)) ((plist (va_up pa np q85) (pup P np (x9, y9, n, f, b, ac, false, false)) (np + 1) ++ Y)) q85 (x9, y9, n, f, b, ac, false, false) (nI np) (by show n ≤ 3; omega) (hrm_cel (own := -1) (wet := wet) (cover := cover) (by omega) (by omega) (by omega) hrm9) (plist_last (p := (x9, y9, n, f, b, ac, false, false)))) (cwV 2 C.ts gX1_press_X1_setCover rfl rfl rfl (by decide +kernel) ⟨(Nat.le_of_ble_eq_true rfl), (Nat.le_of_ble_eq_true rfl)⟩) rfl rfl (Nat.le_of_ble_eq_true rfl) dX1_press_125 (Nat.le_of_ble_eq_true rfl) (Nat.le_of_ble_eq_true rfl) (g_isV (W1 := ((h, .inr (1, [.ref a1, .ref a2, .ref a3, .ref a4, .int (nI (np + 1)), .int (nI hr), .ref a5, .ref a6, .ref a7])) :: (a1, .inl (cI, 80, .inl (wet))) :: (a2, .inl (cI, 80, .inl (setL cover (pcl (x9, y9, n, f, b, ac, false, false)) (nI np) n))) :: (a3, .inl (cI, 8, .inl (sun))) :: (a4, .inl (cP, 100, .inr (.inr (.inr (.inr (va_up pcs np (some q85))))))) :: (a5, .inl (cI, 80, .inl (fs))) :: (a6, .inl (cI, 80, .inl (mk))) :: (a7, .inl (cI, 80, .inl (fd))) :: (plist (va_up pa np q85) (pup P np (x9, y9, n, f, b, ac, false, false)) (np + 1) ++ Y))) ?_)
            refine g_iload C dX1_press_128 1 rfl ?_
            refine g_iret C hQ (Nat.le_of_ble_eq_true rfl) (Nat.le_of_ble_eq_true rfl) dX1_press_130 ?_
            refine ⟨by simp [cdPr, *], rfl, ?_⟩
            simp only [hclx9, hcly9, hcln]
            exact ⟨_, rfl⟩
          · skip
            replace c_5 := gz0.mp c_5
            refine g_throwS (own := RX1) (cls := "java/lang/IllegalStateException") (text := "no piece can be pressed there") (names := tNs) (ik := 82) (is := 84) (ic := 86) C hQX hT hl9 (by decide) (by decide) k_X1_press_7 k_X1_press_8 (by decide +kernel) bad_IS x_X1_press_IS ot_IS dX1_press_75 dX1_press_78 dX1_press_79 dX1_press_81 dX1_press_84 (Nat.le_of_ble_eq_true rfl) (Nat.le_of_ble_eq_true rfl) (Nat.le_of_ble_eq_true rfl) (Nat.le_of_ble_eq_true rfl) (Nat.le_of_ble_eq_true rfl) (Nat.le_of_ble_eq_true rfl) ?_
            exact ⟨by simp [cdPr, *], by simp [cdPr, *]⟩
      · skip
        replace c_3 := gz0.mp c_3
        refine g_throwS (own := RX1) (cls := "java/lang/IllegalArgumentException") (text := "no such length or colour") (names := tNs) (ik := 42) (is := 72) (ic := 46) C hQX hT hl9 (by decide) (by decide) k_X1_press_1 k_X1_press_2 (by decide +kernel) bad_IA x_X1_press_IA ot_IA dX1_press_30 dX1_press_33 dX1_press_34 dX1_press_36 dX1_press_39 (Nat.le_of_ble_eq_true rfl) (Nat.le_of_ble_eq_true rfl) (Nat.le_of_ble_eq_true rfl) (Nat.le_of_ble_eq_true rfl) (Nat.le_of_ble_eq_true rfl) (Nat.le_of_ble_eq_true rfl) ?_
        exact ⟨by simp [cdPr, *], by simp [cdPr, *]⟩

theorem k_X1_digest_0 : Cond.constantLong RX1 202 967 ∈ wsX1_digest := by decide +kernel
theorem k_X1_digest_inX1 : ∀ w ∈ wsX10, w ∈ wsX1_digest := by decide +kernel
theorem k_X1_digest_2 : Cond.fieldLink RX1 74 "WetMosaic" "pressed" "I" ∈ wsX1_digest := by decide +kernel
theorem k_X1_digest_3 : Cond.constantLong RX1 204 31 ∈ wsX1_digest := by decide +kernel
theorem k_X1_digest_4 : Cond.fieldLink RX1 16 "WetMosaic" "sun" "[I" ∈ wsX1_digest := by decide +kernel
set_option maxHeartbeats 4000000 in
set_option maxRecDepth 100000 in
theorem c_X1_digest (l : Launch) (D : va_G) (tys : List (ClassId × FieldType)) (cI cP : ClassId) (ht0 : tys[0]? = some (cI, .int)) (ht1 : tys[1]? = some (cP, .object RX0)) (h a1 a2 a3 a4 a5 a6 a7 np hr : Nat) (wet cover sun fs mk fd : Nat → Int32) (pcs : Nat → Option Nat) (pa : Nat → Nat) (P : Nat → Pd) (Y : va_W) (hnp : np ≤ 100) (hpc : ∀ k, k < np → pcs k = some (pa k)) (hg : Pok np P) : gM l yX1_digest wsX1_digest ({ frames := 6, cells := 0, slots := 0, locals := 137 } : Room) D tys [.ref h] ((h, .inr (1, [.ref a1, .ref a2, .ref a3, .ref a4, .int (nI np), .int (nI hr), .ref a5, .ref a6, .ref a7])) :: (a1, .inl (cI, 80, .inl (wet))) :: (a2, .inl (cI, 80, .inl (cover))) :: (a3, .inl (cI, 8, .inl (sun))) :: (a4, .inl (cP, 100, .inr (.inr (.inr (.inr (pcs)))))) :: (a5, .inl (cI, 80, .inl (fs))) :: (a6, .inl (cI, 80, .inl (mk))) :: (a7, .inl (cI, 80, .inl (fd))) :: (plist pa P np ++ Y)) (fun u w => u = some (.long (dgT np hr P wet cover sun fd)) ∧ ∃ mk2 fd2, w = ((h, .inr (1, [.ref a1, .ref a2, .ref a3, .ref a4, .int (nI np), .int (nI hr), .ref a5, .ref a6, .ref a7])) :: (a1, .inl (cI, 80, .inl (wet))) :: (a2, .inl (cI, 80, .inl (cover))) :: (a3, .inl (cI, 8, .inl (sun))) :: (a4, .inl (cP, 100, .inr (.inr (.inr (.inr (pcs)))))) :: (a5, .inl (cI, 80, .inl (fs))) :: (a6, .inl (cI, 80, .inl (mk2))) :: (a7, .inl (cI, 80, .inl (fd2))) :: (plist pa P np ++ Y))) 0 0 := by
  refine gM_of (by decide +kernel) rfl (Nat.le_of_ble_eq_true rfl) ?_
  intro p e s m args below meth c A Q hin C hQ
  refine g_sub [0] (lv' := [(0, .ref h)]) rfl ?_
  have hp := Pin_of (Y := Y) (P := P) hpc
  refine g_ldc2 (v := 967) C dX1_digest_0 k_X1_digest_0 ?_
  refine g_lstore_n (lv' := [(1, .long 967), (0, .ref h)]) C dX1_digest_3 rfl (by decide) rfl ?_
  refine g_iconst (v := 0) C dX1_digest_4 (by decide) ?_
  refine g_istore_n (lv' := [(3, .int 0), (1, .long 967), (0, .ref h)]) C dX1_digest_5 rfl (by decide) rfl ?_
  have lp6 : ∀ (n9 : Nat) (i : Nat) (d : Int64) (mk2 fd2 : Nat → Int32) (hd : d = dgN (dg1 np hr P wet cover fd) i 967) (hfd : i ≤ 7 → fd = fd2) (hi : i ≤ 8) (hn : 9 ≤ i + n9), G p l e ({ frames := 6, cells := 0, slots := 0, locals := 137 } : Room) s m args below meth c D A s.heap 6 0 0 Q 6 [(0, .ref h), (1, .long d), (3, .int (nI i))] [] ((h, .inr (1, [.ref a1, .ref a2, .ref a3, .ref a4, .int (nI np), .int (nI hr), .ref a5, .ref a6, .ref a7])) :: (a1, .inl (cI, 80, .inl (wet))) :: (a2, .inl (cI, 80, .inl (cover))) :: (a3, .inl (cI, 8, .inl (sun))) :: (a4, .inl (cP, 100, .inr (.inr (.inr (.inr (pcs)))))) :: (a5, .inl (cI, 80, .inl (fs))) :: (a6, .inl (cI, 80, .inl (mk2))) :: (a7, .inl (cI, 80, .inl (fd2))) :: (plist pa P np ++ Y)) := by
    intro n9
    induction n9 with
    | zero =>
      intro i d mk2 fd2 hd hfd hi hn
      exfalso; omega
    | succ n9 ih =>
      intro i d mk2 fd2 hd hfd hi hn
      refine g_iload_n C dX1_digest_6 rfl 2 rfl ?_
      refine g_bipush (v := 8) C dX1_digest_7 (by decide) ?_
      refine g_icmp_ge (tgt := 31) C dX1_digest_9 (by decide) (fun c_1 => ?_) (fun c_1 => ?_)
      · skip
        rw [show (8 : Int32) = nI 8 from rfl, nI_leI (by omega) (by omega)] at c_1
        refine g_iconst (v := 0) C dX1_digest_31 (by decide) ?_
        refine g_istore_n (lv' := [(3, .int 0), (0, .ref h), (1, .long d)]) C dX1_digest_32 rfl (by decide) rfl ?_
        have lp33 : ∀ (n9 : Nat) (z : Nat) (d2 : Int64) (hd2 : d2 = dgN (dg2 np P wet cover) (3 * z) (dgN (dg1 np hr P wet cover fd) 8 967)) (hi2 : z ≤ 80) (hn2 : 81 ≤ z + n9), G p l e ({ frames := 6, cells := 0, slots := 0, locals := 137 } : Room) s m args below meth c D A s.heap 6 0 0 Q 33 [(0, .ref h), (1, .long d2), (3, .int (nI z))] [] ((h, .inr (1, [.ref a1, .ref a2, .ref a3, .ref a4, .int (nI np), .int (nI hr), .ref a5, .ref a6, .ref a7])) :: (a1, .inl (cI, 80, .inl (wet))) :: (a2, .inl (cI, 80, .inl (cover))) :: (a3, .inl (cI, 8, .inl (sun))) :: (a4, .inl (cP, 100, .inr (.inr (.inr (.inr (pcs)))))) :: (a5, .inl (cI, 80, .inl (fs))) :: (a6, .inl (cI, 80, .inl (mk2))) :: (a7, .inl (cI, 80, .inl (fd2))) :: (plist pa P np ++ Y)) := by
          intro n9
          induction n9 with
          | zero =>
            intro z d2 hd2 hi2 hn2
            exfalso; omega
          | succ n9 ih2 =>
            intro z d2 hd2 hi2 hn2
            refine g_iload_n C dX1_digest_33 rfl 2 rfl ?_
            refine g_bipush (v := 80) C dX1_digest_34 (by decide) ?_
            refine g_icmp_ge (tgt := 75) C dX1_digest_36 (by decide) (fun c_2 => ?_) (fun c_2 => ?_)
            · skip
              rw [show (80 : Int32) = nI 80 from rfl, nI_leI (by omega) (by omega)] at c_2
              refine g_iconst (v := 0) C dX1_digest_75 (by decide) ?_
              refine g_istore_n (lv' := [(3, .int 0), (0, .ref h), (1, .long d2)]) C dX1_digest_76 rfl (by decide) rfl ?_
              have lp77 : ∀ (n9 : Nat) (i : Nat) (d : Int64) (hd : d = dgN (dg3 P wet) (8 * i) (dgN (dg2 np P wet cover) 240 (dgN (dg1 np hr P wet cover fd) 8 967))) (hi : i ≤ np) (hn : np + 1 ≤ i + n9), G p l e ({ frames := 6, cells := 0, slots := 0, locals := 137 } : Room) s m args below meth c D A s.heap 6 0 0 Q 77 [(0, .ref h), (1, .long d), (3, .int (nI i))] [] ((h, .inr (1, [.ref a1, .ref a2, .ref a3, .ref a4, .int (nI np), .int (nI hr), .ref a5, .ref a6, .ref a7])) :: (a1, .inl (cI, 80, .inl (wet))) :: (a2, .inl (cI, 80, .inl (cover))) :: (a3, .inl (cI, 8, .inl (sun))) :: (a4, .inl (cP, 100, .inr (.inr (.inr (.inr (pcs)))))) :: (a5, .inl (cI, 80, .inl (fs))) :: (a6, .inl (cI, 80, .inl (mk2))) :: (a7, .inl (cI, 80, .inl (fd2))) :: (plist pa P np ++ Y)) := by
                intro n9
                induction n9 with
                | zero =>
                  intro i d hd hi hn
                  exfalso; omega
                | succ n9 ih4 =>
                  intro i d hd hi hn
                  refine g_iload_n C dX1_digest_77 rfl 2 rfl ?_
                  refine g_aload_n C dX1_digest_78 rfl 0 rfl ?_
                  refine g_get (v := .int (nI np)) (ci := 1) (Cn := RX1) (T := TX1) (N := 9) C k_X1_digest_inX1 gm0 rfl 4 (by decide) k_X1_digest_2 rfl rfl dX1_digest_79 ?_
                  refine g_icmp_ge (tgt := 135) C dX1_digest_82 (by decide) (fun c_3 => ?_) (fun c_3 => ?_)
                  · skip
                    rw [nI_leI (by omega) (by omega)] at c_3
                    refine g_iconst (v := 0) C dX1_digest_135 (by decide) ?_
                    refine g_istore_n (lv' := [(3, .int 0), (0, .ref h), (1, .long d)]) C dX1_digest_136 rfl (by decide) rfl ?_
                    have lp137 : ∀ (n9 : Nat) (i : Nat) (d : Int64) (hd : d = dgN sun i (dgN (dg3 P wet) (8 * np) (dgN (dg2 np P wet cover) 240 (dgN (dg1 np hr P wet cover fd) 8 967)))) (hi : i ≤ 8) (hn : 9 ≤ i + n9), G p l e ({ frames := 6, cells := 0, slots := 0, locals := 137 } : Room) s m args below meth c D A s.heap 6 0 0 Q 137 [(0, .ref h), (1, .long d), (3, .int (nI i))] [] ((h, .inr (1, [.ref a1, .ref a2, .ref a3, .ref a4, .int (nI np), .int (nI hr), .ref a5, .ref a6, .ref a7])) :: (a1, .inl (cI, 80, .inl (wet))) :: (a2, .inl (cI, 80, .inl (cover))) :: (a3, .inl (cI, 8, .inl (sun))) :: (a4, .inl (cP, 100, .inr (.inr (.inr (.inr (pcs)))))) :: (a5, .inl (cI, 80, .inl (fs))) :: (a6, .inl (cI, 80, .inl (mk2))) :: (a7, .inl (cI, 80, .inl (fd2))) :: (plist pa P np ++ Y)) := by
                      intro n9
                      induction n9 with
                      | zero =>
                        intro i d hd hi hn
                        exfalso; omega
                      | succ n9 ih6 =>
                        intro i d hd hi hn
                        refine g_iload_n C dX1_digest_137 rfl 2 rfl ?_
                        refine g_bipush (v := 8) C dX1_digest_138 (by decide) ?_
                        refine g_icmp_ge (tgt := 163) C dX1_digest_140 (by decide) (fun c_4 => ?_) (fun c_4 => ?_)
                        · skip
                          rw [show (8 : Int32) = nI 8 from rfl, nI_leI (by omega) (by omega)] at c_4
                          refine g_lload_n C dX1_digest_163 rfl 1 rfl ?_
                          refine g_lret C hQ (Nat.le_of_ble_eq_true rfl) (Nat.le_of_ble_eq_true rfl) dX1_digest_164 ?_
                          have e : i = 8 := by omega
                          subst e
                          exact ⟨by rw [hd, dgT], _, _, rfl⟩
                        · skip
                          rw [show (8 : Int32) = nI 8 from rfl, nI_leI (by omega) (by omega)] at c_4
                          refine g_lload_n C dX1_digest_143 rfl 1 rfl ?_
                          refine g_ldc2 (v := 31) C dX1_digest_144 k_X1_digest_3 ?_
                          refine g_lmul C dX1_digest_147 ?_
                          refine g_aload_n C dX1_digest_148 rfl 0 rfl ?_
                          refine g_get (v := .ref a3) (ci := 1) (Cn := RX1) (T := TX1) (N := 9) C k_X1_digest_inX1 gm0 rfl 2 (by decide) k_X1_digest_4 rfl rfl dX1_digest_149 ?_
                          refine g_iload_n C dX1_digest_152 rfl 2 rfl ?_
                          refine g_iald C 0 (gmT (gmT (gmT gm0))) ht0 (vp_in_nI (by omega) (by omega)) dX1_digest_153 ?_
                          refine g_eqi (x := sun (nI i).toNatClampNeg) (y := sun i) (by rw [nI_clamp (by omega)]) ?_
                          refine g_i2l C dX1_digest_154 ?_
                          refine g_ladd C dX1_digest_155 ?_
                          refine g_lstore_n (lv' := [(1, .long ((d * 31) + ((sun i).toInt64))), (0, .ref h), (3, .int (nI i))]) C dX1_digest_156 rfl (by decide) rfl ?_
                          refine g_iinc (v := nI (i + 1)) (lv' := [(3, .int (nI (i + 1))), (1, .long ((d * 31) + ((sun i).toInt64))), (0, .ref h)]) C dX1_digest_157 2 rfl (by exact nI_add _ 1) (by decide) rfl ?_
                          refine g_goto (tgt := 137) C dX1_digest_160 (by decide) ?_
                          refine g_sub [2, 1, 0] (lv' := [(0, .ref h), (1, .long ((d * 31) + ((sun i).toInt64))), (3, .int (nI (i + 1)))]) rfl ?_
                          exact ih6 (i + 1) _ (by rw [dgN_1, hd]) (by omega) (by omega)
                    refine g_sub [1, 2, 0] (lv' := [(0, .ref h), (1, .long d), (3, .int 0)]) rfl ?_
                    have e : i = np := by omega
                    subst e
                    exact lp137 9 0 d (by rw [hd]; exact (dgN_0 _ _).symm) (by omega) (by omega)
                  · skip
                    rw [nI_leI (by omega) (by omega)] at c_3
                    refine g_aload_n C dX1_digest_85 rfl 0 rfl ?_
                    refine g_iload_n C dX1_digest_86 rfl 2 rfl ?_
                    refine g_callV (ci := 1) (Cn := RX1) (As := [.int (nI i)]) (rest := []) C gm0 rfl rfl (c_X1_find l D tys cP ht1 ((h, .inr (1, [.ref a1, .ref a2, .ref a3, .ref a4, .int (nI np), .int (nI hr), .ref a5, .ref a6, .ref a7])) :: (a1, .inl (cI, 80, .inl (wet))) :: (a2, .inl (cI, 80, .inl (cover))) :: (a3, .inl (cI, 8, .inl (sun))) :: (a4, .inl (cP, 100, .inr (.inr (.inr (.inr (pcs)))))) :: (a5, .inl (cI, 80, .inl (fs))) :: (a6, .inl (cI, 80, .inl (mk2))) :: (a7, .inl (cI, 80, .inl (fd2))) :: (plist pa P np ++ Y)) h a1 a2 a3 a4 a5 a6 a7 np hr pcs (nI i) hnp gm0 (gmT (gmT (gmT (gmT gm0))))) (cwV 1 C.ts gX1_digest_X1_find rfl rfl rfl (by decide +kernel) ⟨(Nat.le_of_ble_eq_true rfl), (Nat.le_of_ble_eq_true rfl)⟩) rfl rfl (Nat.le_of_ble_eq_true rfl) dX1_digest_87 (Nat.le_of_ble_eq_true rfl) (Nat.le_of_ble_eq_true rfl) (g_is (x := va_rf (fnd np pcs (nI i))) (W1 := ((h, .inr (1, [.ref a1, .ref a2, .ref a3, .ref a4, .int (nI np), .int (nI hr), .ref a5, .ref a6, .ref a7])) :: (a1, .inl (cI, 80, .inl (wet))) :: (a2, .inl (cI, 80, .inl (cover))) :: (a3, .inl (cI, 8, .inl (sun))) :: (a4, .inl (cP, 100, .inr (.inr (.inr (.inr (pcs)))))) :: (a5, .inl (cI, 80, .inl (fs))) :: (a6, .inl (cI, 80, .inl (mk2))) :: (a7, .inl (cI, 80, .inl (fd2))) :: (plist pa P np ++ Y))) ?_)
                    refine g_eqv (x := va_rf (fnd np pcs (nI i))) (y := .ref (pa i)) (fnd_nI (by omega) hnp (hp i (by omega)).1) ?_
                    refine g_astore (lv' := [(4, .ref (pa i)), (0, .ref h), (1, .long d), (3, .int (nI i))]) C dX1_digest_90 (by decide) rfl ?_
                    refine g_iconst (v := 0) C dX1_digest_92 (by decide) ?_
                    refine g_istore (lv' := [(5, .int 0), (4, .ref (pa i)), (0, .ref h), (1, .long d), (3, .int (nI i))]) C dX1_digest_93 (by decide) rfl ?_
                    have lp95 : ∀ (n9 : Nat) (w : Nat) (d5 : Int64) (hd5 : d5 = dgN (dg3 P wet) (8 * i + w) (dgN (dg2 np P wet cover) 240 (dgN (dg1 np hr P wet cover fd) 8 967))) (hi5 : w ≤ 8) (hn5 : 9 ≤ w + n9), G p l e ({ frames := 6, cells := 0, slots := 0, locals := 137 } : Room) s m args below meth c D A s.heap 6 0 0 Q 95 [(0, .ref h), (1, .long d5), (3, .int (nI i)), (4, .ref (pa i)), (5, .int (nI w))] [] ((h, .inr (1, [.ref a1, .ref a2, .ref a3, .ref a4, .int (nI np), .int (nI hr), .ref a5, .ref a6, .ref a7])) :: (a1, .inl (cI, 80, .inl (wet))) :: (a2, .inl (cI, 80, .inl (cover))) :: (a3, .inl (cI, 8, .inl (sun))) :: (a4, .inl (cP, 100, .inr (.inr (.inr (.inr (pcs)))))) :: (a5, .inl (cI, 80, .inl (fs))) :: (a6, .inl (cI, 80, .inl (mk2))) :: (a7, .inl (cI, 80, .inl (fd2))) :: (plist pa P np ++ Y)) := by
                      intro n9
                      induction n9 with
                      | zero =>
                        intro w d5 hd5 hi5 hn5
                        exfalso; omega
                      | succ n9 ih5 =>
                        intro w d5 hd5 hi5 hn5
                        refine g_aload C dX1_digest_95 3 rfl ?_
                        refine g_ifnull C dX1_digest_97 ?_
                        refine g_iload C dX1_digest_100 4 rfl ?_
                        refine g_bipush (v := 8) C dX1_digest_102 (by decide) ?_
                        refine g_icmp_ge (tgt := 129) C dX1_digest_104 (by decide) (fun c_5 => ?_) (fun c_5 => ?_)
                        · skip
                          rw [show (8 : Int32) = nI 8 from rfl, nI_leI (by omega) (by omega)] at c_5
                          refine g_iinc (v := nI (i + 1)) (lv' := [(3, .int (nI (i + 1))), (0, .ref h), (1, .long d5), (4, .ref (pa i)), (5, .int (nI w))]) C dX1_digest_129 2 rfl (by exact nI_add _ 1) (by decide) rfl ?_
                          refine g_goto (tgt := 77) C dX1_digest_132 (by decide) ?_
                          refine g_sub [1, 2, 0] (lv' := [(0, .ref h), (1, .long d5), (3, .int (nI (i + 1)))]) rfl ?_
                          have e : w = 8 := by omega
                          subst e
                          exact ih4 (i + 1) _ (by rw [hd5, Nat.mul_succ]) (by omega) (by omega)
                        · skip
                          rw [show (8 : Int32) = nI 8 from rfl, nI_leI (by omega) (by omega)] at c_5
                          refine g_lload_n C dX1_digest_107 rfl 1 rfl ?_
                          refine g_ldc2 (v := 31) C dX1_digest_108 k_X1_digest_3 ?_
                          refine g_lmul C dX1_digest_111 ?_
                          refine g_aload_n C dX1_digest_112 rfl 0 rfl ?_
                          refine g_aload C dX1_digest_113 3 rfl ?_
                          refine g_iload C dX1_digest_115 4 rfl ?_
                          refine g_callV (ci := 1) (Cn := RX1) (As := [.ref (pa i), .int (nI w)]) (rest := [.long (d5 * 31)]) C gm0 rfl rfl (c_X1_pieceFact l D tys cI ht0 ((h, .inr (1, [.ref a1, .ref a2, .ref a3, .ref a4, .int (nI np), .int (nI hr), .ref a5, .ref a6, .ref a7])) :: (a1, .inl (cI, 80, .inl (wet))) :: (a2, .inl (cI, 80, .inl (cover))) :: (a3, .inl (cI, 8, .inl (sun))) :: (a4, .inl (cP, 100, .inr (.inr (.inr (.inr (pcs)))))) :: (a5, .inl (cI, 80, .inl (fs))) :: (a6, .inl (cI, 80, .inl (mk2))) :: (a7, .inl (cI, 80, .inl (fd2))) :: (plist pa P np ++ Y)) h a1 a2 a3 a4 a5 a6 a7 np hr wet (pa i) (P i) w (by omega) (hg i (by omega)) gm0 (gmT gm0) (gmT (gmT (gmT (gmT (gmT (gmT (gmT (gmT (hp i (by omega)).2))))))))) (cwV 2 C.ts gX1_digest_X1_pieceFact rfl rfl rfl (by decide +kernel) ⟨(Nat.le_of_ble_eq_true rfl), (Nat.le_of_ble_eq_true rfl)⟩) rfl rfl (Nat.le_of_ble_eq_true rfl) dX1_digest_117 (Nat.le_of_ble_eq_true rfl) (Nat.le_of_ble_eq_true rfl) (g_is (x := .int (pfact (P i) wet w)) (W1 := ((h, .inr (1, [.ref a1, .ref a2, .ref a3, .ref a4, .int (nI np), .int (nI hr), .ref a5, .ref a6, .ref a7])) :: (a1, .inl (cI, 80, .inl (wet))) :: (a2, .inl (cI, 80, .inl (cover))) :: (a3, .inl (cI, 8, .inl (sun))) :: (a4, .inl (cP, 100, .inr (.inr (.inr (.inr (pcs)))))) :: (a5, .inl (cI, 80, .inl (fs))) :: (a6, .inl (cI, 80, .inl (mk2))) :: (a7, .inl (cI, 80, .inl (fd2))) :: (plist pa P np ++ Y))) ?_)
                          refine g_i2l C dX1_digest_120 ?_
                          refine g_ladd C dX1_digest_121 ?_
                          refine g_lstore_n (lv' := [(1, .long ((d5 * 31) + ((pfact (P i) wet w).toInt64))), (0, .ref h), (3, .int (nI i)), (4, .ref (pa i)), (5, .int (nI w))]) C dX1_digest_122 rfl (by decide) rfl ?_
                          refine g_iinc (v := nI (w + 1)) (lv' := [(5, .int (nI (w + 1))), (1, .long ((d5 * 31) + ((pfact (P i) wet w).toInt64))), (0, .ref h), (3, .int (nI i)), (4, .ref (pa i))]) C dX1_digest_123 4 rfl (by exact nI_add _ 1) (by decide) rfl ?_
                          refine g_goto (tgt := 95) C dX1_digest_126 (by decide) ?_
                          refine g_sub [2, 1, 3, 4, 0] (lv' := [(0, .ref h), (1, .long ((d5 * 31) + ((pfact (P i) wet w).toInt64))), (3, .int (nI i)), (4, .ref (pa i)), (5, .int (nI (w + 1)))]) rfl ?_
                          exact ih5 (w + 1) _ (by rw [show 8 * i + (w + 1) = (8 * i + w) + 1 from rfl, dgN_1, hd5, dg3, show (8 * i + w) / 8 = i by omega, show (8 * i + w) % 8 = w by omega]) (by omega) (by omega)
                    refine g_sub [2, 3, 4, 1, 0] (lv' := [(0, .ref h), (1, .long d), (3, .int (nI i)), (4, .ref (pa i)), (5, .int 0)]) rfl ?_
                    exact lp95 9 0 _ hd (by omega) (by omega)
              refine g_sub [1, 2, 0] (lv' := [(0, .ref h), (1, .long d2), (3, .int 0)]) rfl ?_
              have e : z = 80 := by omega
              subst e
              exact lp77 (np + 1) 0 d2 (by rw [hd2, show 3 * 80 = 240 from rfl, Nat.mul_zero]; exact (dgN_0 _ _).symm) (by omega) (by omega)
            · skip
              rw [show (80 : Int32) = nI 80 from rfl, nI_leI (by omega) (by omega)] at c_2
              refine g_iconst (v := 0) C dX1_digest_39 (by decide) ?_
              refine g_istore (lv' := [(4, .int 0), (0, .ref h), (1, .long d2), (3, .int (nI z))]) C dX1_digest_40 (by decide) rfl ?_
              have lp42 : ∀ (n9 : Nat) (w : Nat) (d3 : Int64) (hd3 : d3 = dgN (dg2 np P wet cover) (3 * z + w) (dgN (dg1 np hr P wet cover fd) 8 967)) (hi3 : w ≤ 3) (hn3 : 4 ≤ w + n9), G p l e ({ frames := 6, cells := 0, slots := 0, locals := 137 } : Room) s m args below meth c D A s.heap 6 0 0 Q 42 [(0, .ref h), (1, .long d3), (3, .int (nI z)), (4, .int (nI w))] [] ((h, .inr (1, [.ref a1, .ref a2, .ref a3, .ref a4, .int (nI np), .int (nI hr), .ref a5, .ref a6, .ref a7])) :: (a1, .inl (cI, 80, .inl (wet))) :: (a2, .inl (cI, 80, .inl (cover))) :: (a3, .inl (cI, 8, .inl (sun))) :: (a4, .inl (cP, 100, .inr (.inr (.inr (.inr (pcs)))))) :: (a5, .inl (cI, 80, .inl (fs))) :: (a6, .inl (cI, 80, .inl (mk2))) :: (a7, .inl (cI, 80, .inl (fd2))) :: (plist pa P np ++ Y)) := by
                intro n9
                induction n9 with
                | zero =>
                  intro w d3 hd3 hi3 hn3
                  exfalso; omega
                | succ n9 ih3 =>
                  intro w d3 hd3 hi3 hn3
                  refine g_iload C dX1_digest_42 3 rfl ?_
                  refine g_iconst (v := 3) C dX1_digest_44 (by decide) ?_
                  refine g_icmp_ge (tgt := 69) C dX1_digest_45 (by decide) (fun c_6 => ?_) (fun c_6 => ?_)
                  · skip
                    rw [show (3 : Int32) = nI 3 from rfl, nI_leI (by omega) (by omega)] at c_6
                    refine g_iinc (v := nI (z + 1)) (lv' := [(3, .int (nI (z + 1))), (0, .ref h), (1, .long d3), (4, .int (nI w))]) C dX1_digest_69 2 rfl (by exact nI_add _ 1) (by decide) rfl ?_
                    refine g_goto (tgt := 33) C dX1_digest_72 (by decide) ?_
                    refine g_sub [1, 2, 0] (lv' := [(0, .ref h), (1, .long d3), (3, .int (nI (z + 1)))]) rfl ?_
                    have e : w = 3 := by omega
                    subst e
                    exact ih2 (z + 1) _ (by rw [hd3, Nat.mul_succ]) (by omega) (by omega)
                  · skip
                    rw [show (3 : Int32) = nI 3 from rfl, nI_leI (by omega) (by omega)] at c_6
                    refine g_lload_n C dX1_digest_48 rfl 1 rfl ?_
                    refine g_ldc2 (v := 31) C dX1_digest_49 k_X1_digest_3 ?_
                    refine g_lmul C dX1_digest_52 ?_
                    refine g_aload_n C dX1_digest_53 rfl 0 rfl ?_
                    refine g_iload_n C dX1_digest_54 rfl 2 rfl ?_
                    refine g_iload C dX1_digest_55 3 rfl ?_
                    refine g_callV (ci := 1) (Cn := RX1) (As := [.int (nI z), .int (nI w)]) (rest := [.long (d3 * 31)]) C gm0 rfl rfl (c_X1_cellFact l D tys cI ht0 cP ht1 ((h, .inr (1, [.ref a1, .ref a2, .ref a3, .ref a4, .int (nI np), .int (nI hr), .ref a5, .ref a6, .ref a7])) :: (a1, .inl (cI, 80, .inl (wet))) :: (a2, .inl (cI, 80, .inl (cover))) :: (a3, .inl (cI, 8, .inl (sun))) :: (a4, .inl (cP, 100, .inr (.inr (.inr (.inr (pcs)))))) :: (a5, .inl (cI, 80, .inl (fs))) :: (a6, .inl (cI, 80, .inl (mk2))) :: (a7, .inl (cI, 80, .inl (fd2))) :: (plist pa P np ++ Y)) h a1 a2 a3 a4 a5 a6 a7 np hr wet cover pcs pa P z w (by omega) (by omega) hnp (fun k9 hk9 => ⟨(hp k9 hk9).1, gmT (gmT (gmT (gmT (gmT (gmT (gmT (gmT (hp k9 hk9).2)))))))⟩) gm0 (gmT gm0) (gmT (gmT gm0)) (gmT (gmT (gmT (gmT gm0))))) (cwV 2 C.ts gX1_digest_X1_cellFact rfl rfl rfl (by decide +kernel) ⟨(Nat.le_of_ble_eq_true rfl), (Nat.le_of_ble_eq_true rfl)⟩) rfl rfl (Nat.le_of_ble_eq_true rfl) dX1_digest_57 (Nat.le_of_ble_eq_true rfl) (Nat.le_of_ble_eq_true rfl) (g_is (x := .int (cfact np P wet cover z w)) (W1 := ((h, .inr (1, [.ref a1, .ref a2, .ref a3, .ref a4, .int (nI np), .int (nI hr), .ref a5, .ref a6, .ref a7])) :: (a1, .inl (cI, 80, .inl (wet))) :: (a2, .inl (cI, 80, .inl (cover))) :: (a3, .inl (cI, 8, .inl (sun))) :: (a4, .inl (cP, 100, .inr (.inr (.inr (.inr (pcs)))))) :: (a5, .inl (cI, 80, .inl (fs))) :: (a6, .inl (cI, 80, .inl (mk2))) :: (a7, .inl (cI, 80, .inl (fd2))) :: (plist pa P np ++ Y))) ?_)
                    refine g_i2l C dX1_digest_60 ?_
                    refine g_ladd C dX1_digest_61 ?_
                    refine g_lstore_n (lv' := [(1, .long ((d3 * 31) + ((cfact np P wet cover z w).toInt64))), (0, .ref h), (3, .int (nI z)), (4, .int (nI w))]) C dX1_digest_62 rfl (by decide) rfl ?_
                    refine g_iinc (v := nI (w + 1)) (lv' := [(4, .int (nI (w + 1))), (1, .long ((d3 * 31) + ((cfact np P wet cover z w).toInt64))), (0, .ref h), (3, .int (nI z))]) C dX1_digest_63 3 rfl (by exact nI_add _ 1) (by decide) rfl ?_
                    refine g_goto (tgt := 42) C dX1_digest_66 (by decide) ?_
                    refine g_sub [2, 1, 3, 0] (lv' := [(0, .ref h), (1, .long ((d3 * 31) + ((cfact np P wet cover z w).toInt64))), (3, .int (nI z)), (4, .int (nI (w + 1)))]) rfl ?_
                    exact ih3 (w + 1) _ (by rw [show 3 * z + (w + 1) = (3 * z + w) + 1 from rfl, dgN_1, hd3, dg2, show (3 * z + w) / 3 = z by omega, show (3 * z + w) % 3 = w by omega]) (by omega) (by omega)
              refine g_sub [1, 2, 3, 0] (lv' := [(0, .ref h), (1, .long d2), (3, .int (nI z)), (4, .int 0)]) rfl ?_
              exact lp42 4 0 _ hd2 (by omega) (by omega)
        refine g_sub [1, 2, 0] (lv' := [(0, .ref h), (1, .long d), (3, .int 0)]) rfl ?_
        have e : i = 8 := by omega
        subst e
        exact lp33 81 0 d (by rw [hd, Nat.mul_zero]; exact (dgN_0 _ _).symm) (by omega) (by omega)
      · skip
        rw [show (8 : Int32) = nI 8 from rfl, nI_leI (by omega) (by omega)] at c_1
        have e9 := hfd (by omega)
        subst e9
        refine g_lload_n C dX1_digest_12 rfl 1 rfl ?_
        refine g_ldc2 (v := 31) C dX1_digest_13 k_X1_digest_3 ?_
        refine g_lmul C dX1_digest_16 ?_
        refine g_aload_n C dX1_digest_17 rfl 0 rfl ?_
        refine g_iload_n C dX1_digest_18 rfl 2 rfl ?_
        refine g_callV (ci := 1) (Cn := RX1) (As := [.int (nI i)]) (rest := [.long (d * 31)]) C gm0 rfl rfl (c_X1_countFact l D tys cI cP ht0 ht1 h a1 a2 a3 a4 a5 a6 a7 np hr wet cover sun fs mk2 fd pcs pa P Y hnp hpc hg i (by omega)) (cwV 1 C.ts gX1_digest_X1_countFact rfl rfl rfl (by decide +kernel) ⟨(Nat.le_of_ble_eq_true rfl), (Nat.le_of_ble_eq_true rfl)⟩) rfl rfl (Nat.le_of_ble_eq_true rfl) dX1_digest_19 (Nat.le_of_ble_eq_true rfl) (Nat.le_of_ble_eq_true rfl) (g_is (x := .int (dg1 np hr P wet cover fd i)) (W1 := ((h, .inr (1, [.ref a1, .ref a2, .ref a3, .ref a4, .int (nI np), .int (nI hr), .ref a5, .ref a6, .ref a7])) :: (a1, .inl (cI, 80, .inl (wet))) :: (a2, .inl (cI, 80, .inl (cover))) :: (a3, .inl (cI, 8, .inl (sun))) :: (a4, .inl (cP, 100, .inr (.inr (.inr (.inr (pcs)))))) :: (a5, .inl (cI, 80, .inl (fs))) :: (a6, .inl (cI, 80, .inl ((cntW cover mk2 fd i).1))) :: (a7, .inl (cI, 80, .inl ((cntW cover mk2 fd i).2))) :: (plist pa P np ++ Y))) ?_)
        refine g_i2l C dX1_digest_22 ?_
        refine g_ladd C dX1_digest_23 ?_
        refine g_lstore_n (lv' := [(1, .long ((d * 31) + ((dg1 np hr P wet cover fd i).toInt64))), (0, .ref h), (3, .int (nI i))]) C dX1_digest_24 rfl (by decide) rfl ?_
        refine g_iinc (v := nI (i + 1)) (lv' := [(3, .int (nI (i + 1))), (1, .long ((d * 31) + ((dg1 np hr P wet cover fd i).toInt64))), (0, .ref h)]) C dX1_digest_25 2 rfl (by exact nI_add _ 1) (by decide) rfl ?_
        refine g_goto (tgt := 6) C dX1_digest_28 (by decide) ?_
        refine g_sub [2, 1, 0] (lv' := [(0, .ref h), (1, .long ((d * 31) + ((dg1 np hr P wet cover fd i).toInt64))), (3, .int (nI (i + 1)))]) rfl ?_
        exact ih (i + 1) _ _ _ (by rw [dgN_1, hd]) (fun h7 => by rw [cntW, if_neg (by omega)]) (by omega) (by omega)
  refine g_sub [2, 1, 0] (lv' := [(0, .ref h), (1, .long 967), (3, .int 0)]) rfl ?_
  exact lp6 9 0 _ _ _ rfl (fun _ => rfl) (by omega) (by omega)
