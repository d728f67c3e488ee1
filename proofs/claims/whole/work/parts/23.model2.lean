set_option maxHeartbeats 4000000 in
set_option maxRecDepth 100000 in
theorem c_X3_fits (l : Launch) (D : va_G) (tys : List (ClassId × FieldType)) (cI : ClassId) (ht0 : tys[0]? = some (cI, .int)) (W : va_W) (u0 u1 u2 u3 u4 u5 u6 u7 u8 u9 u10 u11 u12 u13 u14 np : Nat) (th : Int32) (fi le ac se hh ou : Nat → Int32) (P : Nat → Pd) (cover : Nat → Int32) (c9 k9 : Nat) (a b : Int32) (hc9 : c9 < 80) (hk : k9 ≤ 3) (hnp : np ≤ 100) (hR : Mrel np P fi le ac se hh ou) (hcv : CovOk np cover) (hm : (u0, .inr (3, [.int th, .int (nI np), .ref u1, .ref u2, .ref u3, .ref u4, .ref u5, .ref u6, .ref u7, .ref u8, .ref u9, .ref u10, .ref u11, .ref u13])) ∈ W) (h_se : (u4, .inl (cI, 100, .inl (se))) ∈ W) (h_cover : (u7, .inl (cI, 80, .inl (cover))) ∈ W) : gM l yX3_fits wsX3_fits ({ frames := 1, cells := 0, slots := 0, locals := 21 } : Room) D tys [.ref u0, .int (nI c9), .int (nI k9), .int a, .int b] W (gIs (some (.int (gz (fitB np P cover (c9 % 10) (c9 / 10) k9 a b)))) W) 0 0 := by
  refine gM_of (by decide +kernel) rfl (Nat.le_of_ble_eq_true rfl) ?_
  intro p e s m args below meth c A Q hin C hQ
  refine g_sub [0, 1, 2, 3, 4] (lv' := [(0, .ref u0), (1, .int (nI c9)), (2, .int (nI k9)), (3, .int a), (4, .int b)]) rfl ?_
  have e9 : 10 * (c9 / 10) + c9 % 10 = c9 := by omega
  rcases (show k9 = 0 ∨ k9 = 1 ∨ k9 = 2 ∨ k9 = 3 by omega) with rfl | rfl | rfl | rfl
  · skip
    refine g_iload_n C dX3_fits_0 rfl 1 rfl ?_
    refine g_bipush (v := 10) C dX3_fits_1 (by decide) ?_
    refine g_irem C dX3_fits_3 (by decide) ?_
    refine g_eqi (x := (nI c9) - (nI c9) / 10 * 10) (y := nI (c9 % 10)) (remI c9 10 (by omega) (by omega) (by omega) rfl) ?_
    refine g_istore (lv' := [(5, .int (nI (c9 % 10))), (0, .ref u0), (1, .int (nI c9)), (2, .int (nI 0)), (3, .int a), (4, .int b)]) C dX3_fits_4 (by decide) rfl ?_
    refine g_iload_n C dX3_fits_6 rfl 2 rfl ?_
    refine g_bipush (v := 10) C dX3_fits_7 (by decide) ?_
    refine g_idiv C dX3_fits_9 (by decide) ?_
    refine g_eqi (x := (nI c9) / 10) (y := nI (c9 / 10)) (divI c9 10 (by omega) (by omega) (by omega) rfl) ?_
    refine g_istore (lv' := [(6, .int (nI (c9 / 10))), (5, .int (nI (c9 % 10))), (0, .ref u0), (1, .int (nI c9)), (2, .int (nI 0)), (3, .int a), (4, .int b)]) C dX3_fits_10 (by decide) rfl ?_
    refine g_iload_n C dX3_fits_12 rfl 4 rfl ?_
    refine g_iconst (v := 3) C dX3_fits_13 (by decide) ?_
    refine g_icmp_ne (tgt := 46) C dX3_fits_14 (by decide) (fun c_1 => ?_) (fun c_1 => by exfalso; revert c_1; decide)
    refine g_iload_n C dX3_fits_46 rfl 4 rfl ?_
    refine g_if_eq (tgt := 75) C dX3_fits_47 (by decide) (fun c_2 => ?_) (fun c_2 => by exfalso; revert c_2; decide)
    refine g_iconst (v := 1) C dX3_fits_75 (by decide) ?_
    refine g_goto (tgt := 80) C dX3_fits_76 (by decide) ?_
    refine g_istore (lv' := [(7, .int 1), (6, .int (nI (c9 / 10))), (5, .int (nI (c9 % 10))), (0, .ref u0), (1, .int (nI c9)), (2, .int (nI 0)), (3, .int a), (4, .int b)]) C dX3_fits_80 (by decide) rfl ?_
    refine g_aload_n C dX3_fits_82 rfl 3 rfl ?_
    refine g_iload_n C dX3_fits_83 rfl 4 rfl ?_
    refine g_callV (ci := 3) (Cn := RX3) (As := [.int (nI c9)]) (rest := []) C hm rfl rfl (c_X3_shown l D tys cI ht0 W u0 u1 u2 u3 u4 u5 u6 u7 u8 u9 u10 u11 u12 u13 u14 np th fi le ac se hh ou P cover c9 (by omega) hnp hR hcv hm h_se h_cover) (cwV 1 C.ts gX3_fits_X3_shown rfl rfl rfl (by decide +kernel) ⟨(Nat.le_of_ble_eq_true rfl), (Nat.le_of_ble_eq_true rfl)⟩) rfl rfl (Nat.le_of_ble_eq_true rfl) dX3_fits_84 (Nat.le_of_ble_eq_true rfl) (Nat.le_of_ble_eq_true rfl) (g_is (x := .int (colv np P cover c9)) (W1 := W) ?_)
    refine g_iload C dX3_fits_87 0 rfl ?_
    refine g_if_eq (tgt := 96) C dX3_fits_89 (by decide) (fun c_3 => by exfalso; revert c_3; decide) (fun c_3 => ?_)
    refine g_iload_n C dX3_fits_92 rfl 6 rfl ?_
    refine g_goto (tgt := 98) C dX3_fits_93 (by decide) ?_
    refine g_icmp_ne (tgt := 105) C dX3_fits_98 (by decide) (fun c_4 => ?_) (fun c_4 => ?_)
    · skip
      refine g_iconst (v := 0) C dX3_fits_105 (by decide) ?_
      refine g_zret C (by first | exact Or.inl rfl | exact Or.inr rfl | exact gz01 _) hQ (Nat.le_of_ble_eq_true rfl) (Nat.le_of_ble_eq_true rfl) dX3_fits_106 ?_
      first | exact ⟨gz_e0 (by simp [fitB, *]), rfl⟩ | exact ⟨gz_e1 (by simp [fitB, *]), rfl⟩
    · skip
      refine g_iconst (v := 1) C dX3_fits_101 (by decide) ?_
      refine g_goto (tgt := 106) C dX3_fits_102 (by decide) ?_
      refine g_zret C (by first | exact Or.inl rfl | exact Or.inr rfl | exact gz01 _) hQ (Nat.le_of_ble_eq_true rfl) (Nat.le_of_ble_eq_true rfl) dX3_fits_106 ?_
      first | exact ⟨gz_e0 (by simp [fitB, *]), rfl⟩ | exact ⟨gz_e1 (by simp [fitB, *]), rfl⟩
  · skip
    refine g_iload_n C dX3_fits_0 rfl 1 rfl ?_
    refine g_bipush (v := 10) C dX3_fits_1 (by decide) ?_
    refine g_irem C dX3_fits_3 (by decide) ?_
    refine g_eqi (x := (nI c9) - (nI c9) / 10 * 10) (y := nI (c9 % 10)) (remI c9 10 (by omega) (by omega) (by omega) rfl) ?_
    refine g_istore (lv' := [(5, .int (nI (c9 % 10))), (0, .ref u0), (1, .int (nI c9)), (2, .int (nI 1)), (3, .int a), (4, .int b)]) C dX3_fits_4 (by decide) rfl ?_
    refine g_iload_n C dX3_fits_6 rfl 2 rfl ?_
    refine g_bipush (v := 10) C dX3_fits_7 (by decide) ?_
    refine g_idiv C dX3_fits_9 (by decide) ?_
    refine g_eqi (x := (nI c9) / 10) (y := nI (c9 / 10)) (divI c9 10 (by omega) (by omega) (by omega) rfl) ?_
    refine g_istore (lv' := [(6, .int (nI (c9 / 10))), (5, .int (nI (c9 % 10))), (0, .ref u0), (1, .int (nI c9)), (2, .int (nI 1)), (3, .int a), (4, .int b)]) C dX3_fits_10 (by decide) rfl ?_
    refine g_iload_n C dX3_fits_12 rfl 4 rfl ?_
    refine g_iconst (v := 3) C dX3_fits_13 (by decide) ?_
    refine g_icmp_ne (tgt := 46) C dX3_fits_14 (by decide) (fun c_5 => ?_) (fun c_5 => by exfalso; revert c_5; decide)
    refine g_iload_n C dX3_fits_46 rfl 4 rfl ?_
    refine g_if_eq (tgt := 75) C dX3_fits_47 (by decide) (fun c_6 => by exfalso; revert c_6; decide) (fun c_6 => ?_)
    refine g_iload_n C dX3_fits_50 rfl 4 rfl ?_
    refine g_iconst (v := 1) C dX3_fits_51 (by decide) ?_
    refine g_icmp_ne (tgt := 65) C dX3_fits_52 (by decide) (fun c_7 => by exfalso; revert c_7; decide) (fun c_7 => ?_)
    refine g_iload C dX3_fits_55 0 rfl ?_
    refine g_iconst (v := 2) C dX3_fits_57 (by decide) ?_
    refine g_irem C dX3_fits_58 (by decide) ?_
    refine g_eqi (x := (nI (c9 / 10)) - (nI (c9 / 10)) / 2 * 2) (y := nI (c9 / 10 % 2)) (remI (c9 / 10) 2 (by omega) (by omega) (by omega) rfl) ?_
    refine g_if_ne (tgt := 79) C dX3_fits_59 (by decide) (fun c_8 => ?_) (fun c_8 => ?_)
    · skip
      rw [show (0 : Int32) = nI 0 from rfl, nI_eq (by omega) (by omega)] at c_8
      refine g_iconst (v := 0) C dX3_fits_79 (by decide) ?_
      refine g_istore (lv' := [(7, .int 0), (6, .int (nI (c9 / 10))), (5, .int (nI (c9 % 10))), (0, .ref u0), (1, .int (nI c9)), (2, .int (nI 1)), (3, .int a), (4, .int b)]) C dX3_fits_80 (by decide) rfl ?_
      refine g_aload_n C dX3_fits_82 rfl 3 rfl ?_
      refine g_iload_n C dX3_fits_83 rfl 4 rfl ?_
      refine g_callV (ci := 3) (Cn := RX3) (As := [.int (nI c9)]) (rest := []) C hm rfl rfl (c_X3_shown l D tys cI ht0 W u0 u1 u2 u3 u4 u5 u6 u7 u8 u9 u10 u11 u12 u13 u14 np th fi le ac se hh ou P cover c9 (by omega) hnp hR hcv hm h_se h_cover) (cwV 1 C.ts gX3_fits_X3_shown rfl rfl rfl (by decide +kernel) ⟨(Nat.le_of_ble_eq_true rfl), (Nat.le_of_ble_eq_true rfl)⟩) rfl rfl (Nat.le_of_ble_eq_true rfl) dX3_fits_84 (Nat.le_of_ble_eq_true rfl) (Nat.le_of_ble_eq_true rfl) (g_is (x := .int (colv np P cover c9)) (W1 := W) ?_)
      refine g_iload C dX3_fits_87 0 rfl ?_
      refine g_if_eq (tgt := 96) C dX3_fits_89 (by decide) (fun c_9 => ?_) (fun c_9 => by exfalso; revert c_9; decide)
      refine g_iload C dX3_fits_96 7 rfl ?_
      refine g_icmp_ne (tgt := 105) C dX3_fits_98 (by decide) (fun c_10 => ?_) (fun c_10 => ?_)
      · skip
        refine g_iconst (v := 0) C dX3_fits_105 (by decide) ?_
        refine g_zret C (by first | exact Or.inl rfl | exact Or.inr rfl | exact gz01 _) hQ (Nat.le_of_ble_eq_true rfl) (Nat.le_of_ble_eq_true rfl) dX3_fits_106 ?_
        first | exact ⟨gz_e0 (by simp [fitB, *]), rfl⟩ | exact ⟨gz_e1 (by simp [fitB, *]), rfl⟩
      · skip
        refine g_iconst (v := 1) C dX3_fits_101 (by decide) ?_
        refine g_goto (tgt := 106) C dX3_fits_102 (by decide) ?_
        refine g_zret C (by first | exact Or.inl rfl | exact Or.inr rfl | exact gz01 _) hQ (Nat.le_of_ble_eq_true rfl) (Nat.le_of_ble_eq_true rfl) dX3_fits_106 ?_
        first | exact ⟨gz_e0 (by simp [fitB, *]), rfl⟩ | exact ⟨gz_e1 (by simp [fitB, *]), rfl⟩
    · skip
      rw [show (0 : Int32) = nI 0 from rfl, nI_eq (by omega) (by omega)] at c_8
      refine g_goto (tgt := 75) C dX3_fits_62 (by decide) ?_
      refine g_iconst (v := 1) C dX3_fits_75 (by decide) ?_
      refine g_goto (tgt := 80) C dX3_fits_76 (by decide) ?_
      refine g_istore (lv' := [(7, .int 1), (6, .int (nI (c9 / 10))), (5, .int (nI (c9 % 10))), (0, .ref u0), (1, .int (nI c9)), (2, .int (nI 1)), (3, .int a), (4, .int b)]) C dX3_fits_80 (by decide) rfl ?_
      refine g_aload_n C dX3_fits_82 rfl 3 rfl ?_
      refine g_iload_n C dX3_fits_83 rfl 4 rfl ?_
      refine g_callV (ci := 3) (Cn := RX3) (As := [.int (nI c9)]) (rest := []) C hm rfl rfl (c_X3_shown l D tys cI ht0 W u0 u1 u2 u3 u4 u5 u6 u7 u8 u9 u10 u11 u12 u13 u14 np th fi le ac se hh ou P cover c9 (by omega) hnp hR hcv hm h_se h_cover) (cwV 1 C.ts gX3_fits_X3_shown rfl rfl rfl (by decide +kernel) ⟨(Nat.le_of_ble_eq_true rfl), (Nat.le_of_ble_eq_true rfl)⟩) rfl rfl (Nat.le_of_ble_eq_true rfl) dX3_fits_84 (Nat.le_of_ble_eq_true rfl) (Nat.le_of_ble_eq_true rfl) (g_is (x := .int (colv np P cover c9)) (W1 := W) ?_)
      refine g_iload C dX3_fits_87 0 rfl ?_
      refine g_if_eq (tgt := 96) C dX3_fits_89 (by decide) (fun c_11 => by exfalso; revert c_11; decide) (fun c_11 => ?_)
      refine g_iload_n C dX3_fits_92 rfl 6 rfl ?_
      refine g_goto (tgt := 98) C dX3_fits_93 (by decide) ?_
      refine g_icmp_ne (tgt := 105) C dX3_fits_98 (by decide) (fun c_12 => ?_) (fun c_12 => ?_)
      · skip
        refine g_iconst (v := 0) C dX3_fits_105 (by decide) ?_
        refine g_zret C (by first | exact Or.inl rfl | exact Or.inr rfl | exact gz01 _) hQ (Nat.le_of_ble_eq_true rfl) (Nat.le_of_ble_eq_true rfl) dX3_fits_106 ?_
        first | exact ⟨gz_e0 (by simp [fitB, *]), rfl⟩ | exact ⟨gz_e1 (by simp [fitB, *]), rfl⟩
      · skip
        refine g_iconst (v := 1) C dX3_fits_101 (by decide) ?_
        refine g_goto (tgt := 106) C dX3_fits_102 (by decide) ?_
        refine g_zret C (by first | exact Or.inl rfl | exact Or.inr rfl | exact gz01 _) hQ (Nat.le_of_ble_eq_true rfl) (Nat.le_of_ble_eq_true rfl) dX3_fits_106 ?_
        first | exact ⟨gz_e0 (by simp [fitB, *]), rfl⟩ | exact ⟨gz_e1 (by simp [fitB, *]), rfl⟩
  · skip
    refine g_iload_n C dX3_fits_0 rfl 1 rfl ?_
    refine g_bipush (v := 10) C dX3_fits_1 (by decide) ?_
    refine g_irem C dX3_fits_3 (by decide) ?_
    refine g_eqi (x := (nI c9) - (nI c9) / 10 * 10) (y := nI (c9 % 10)) (remI c9 10 (by omega) (by omega) (by omega) rfl) ?_
    refine g_istore (lv' := [(5, .int (nI (c9 % 10))), (0, .ref u0), (1, .int (nI c9)), (2, .int (nI 2)), (3, .int a), (4, .int b)]) C dX3_fits_4 (by decide) rfl ?_
    refine g_iload_n C dX3_fits_6 rfl 2 rfl ?_
    refine g_bipush (v := 10) C dX3_fits_7 (by decide) ?_
    refine g_idiv C dX3_fits_9 (by decide) ?_
    refine g_eqi (x := (nI c9) / 10) (y := nI (c9 / 10)) (divI c9 10 (by omega) (by omega) (by omega) rfl) ?_
    refine g_istore (lv' := [(6, .int (nI (c9 / 10))), (5, .int (nI (c9 % 10))), (0, .ref u0), (1, .int (nI c9)), (2, .int (nI 2)), (3, .int a), (4, .int b)]) C dX3_fits_10 (by decide) rfl ?_
    refine g_iload_n C dX3_fits_12 rfl 4 rfl ?_
    refine g_iconst (v := 3) C dX3_fits_13 (by decide) ?_
    refine g_icmp_ne (tgt := 46) C dX3_fits_14 (by decide) (fun c_13 => ?_) (fun c_13 => by exfalso; revert c_13; decide)
    refine g_iload_n C dX3_fits_46 rfl 4 rfl ?_
    refine g_if_eq (tgt := 75) C dX3_fits_47 (by decide) (fun c_14 => by exfalso; revert c_14; decide) (fun c_14 => ?_)
    refine g_iload_n C dX3_fits_50 rfl 4 rfl ?_
    refine g_iconst (v := 1) C dX3_fits_51 (by decide) ?_
    refine g_icmp_ne (tgt := 65) C dX3_fits_52 (by decide) (fun c_15 => ?_) (fun c_15 => by exfalso; revert c_15; decide)
    refine g_iload C dX3_fits_65 1 rfl ?_
    refine g_iload C dX3_fits_67 0 rfl ?_
    refine g_iadd C dX3_fits_69 ?_
    refine g_eqi (x := (nI (c9 % 10)) + (nI (c9 / 10))) (y := nI ((c9 % 10) + (c9 / 10))) (nI_add _ _) ?_
    refine g_iconst (v := 2) C dX3_fits_70 (by decide) ?_
    refine g_irem C dX3_fits_71 (by decide) ?_
    refine g_eqi (x := (nI ((c9 % 10) + (c9 / 10))) - (nI ((c9 % 10) + (c9 / 10))) / 2 * 2) (y := nI ((c9 % 10 + c9 / 10) % 2)) (remI (c9 % 10 + c9 / 10) 2 (by omega) (by omega) (by omega) rfl) ?_
    refine g_if_ne (tgt := 79) C dX3_fits_72 (by decide) (fun c_16 => ?_) (fun c_16 => ?_)
    · skip
      rw [show (0 : Int32) = nI 0 from rfl, nI_eq (by omega) (by omega)] at c_16
      refine g_iconst (v := 0) C dX3_fits_79 (by decide) ?_
      refine g_istore (lv' := [(7, .int 0), (6, .int (nI (c9 / 10))), (5, .int (nI (c9 % 10))), (0, .ref u0), (1, .int (nI c9)), (2, .int (nI 2)), (3, .int a), (4, .int b)]) C dX3_fits_80 (by decide) rfl ?_
      refine g_aload_n C dX3_fits_82 rfl 3 rfl ?_
      refine g_iload_n C dX3_fits_83 rfl 4 rfl ?_
      refine g_callV (ci := 3) (Cn := RX3) (As := [.int (nI c9)]) (rest := []) C hm rfl rfl (c_X3_shown l D tys cI ht0 W u0 u1 u2 u3 u4 u5 u6 u7 u8 u9 u10 u11 u12 u13 u14 np th fi le ac se hh ou P cover c9 (by omega) hnp hR hcv hm h_se h_cover) (cwV 1 C.ts gX3_fits_X3_shown rfl rfl rfl (by decide +kernel) ⟨(Nat.le_of_ble_eq_true rfl), (Nat.le_of_ble_eq_true rfl)⟩) rfl rfl (Nat.le_of_ble_eq_true rfl) dX3_fits_84 (Nat.le_of_ble_eq_true rfl) (Nat.le_of_ble_eq_true rfl) (g_is (x := .int (colv np P cover c9)) (W1 := W) ?_)
      refine g_iload C dX3_fits_87 0 rfl ?_
      refine g_if_eq (tgt := 96) C dX3_fits_89 (by decide) (fun c_17 => ?_) (fun c_17 => by exfalso; revert c_17; decide)
      refine g_iload C dX3_fits_96 7 rfl ?_
      refine g_icmp_ne (tgt := 105) C dX3_fits_98 (by decide) (fun c_18 => ?_) (fun c_18 => ?_)
      · skip
        refine g_iconst (v := 0) C dX3_fits_105 (by decide) ?_
        refine g_zret C (by first | exact Or.inl rfl | exact Or.inr rfl | exact gz01 _) hQ (Nat.le_of_ble_eq_true rfl) (Nat.le_of_ble_eq_true rfl) dX3_fits_106 ?_
        first | exact ⟨gz_e0 (by simp [fitB, *]), rfl⟩ | exact ⟨gz_e1 (by simp [fitB, *]), rfl⟩
      · skip
        refine g_iconst (v := 1) C dX3_fits_101 (by decide) ?_
        refine g_goto (tgt := 106) C dX3_fits_102 (by decide) ?_
        refine g_zret C (by first | exact Or.inl rfl | exact Or.inr rfl | exact gz01 _) hQ (Nat.le_of_ble_eq_true rfl) (Nat.le_of_ble_eq_true rfl) dX3_fits_106 ?_
        first | exact ⟨gz_e0 (by simp [fitB, *]), rfl⟩ | exact ⟨gz_e1 (by simp [fitB, *]), rfl⟩
    · skip
      rw [show (0 : Int32) = nI 0 from rfl, nI_eq (by omega) (by omega)] at c_16
      refine g_iconst (v := 1) C dX3_fits_75 (by decide) ?_
      refine g_goto (tgt := 80) C dX3_fits_76 (by decide) ?_
      refine g_istore (lv' := [(7, .int 1), (6, .int (nI (c9 / 10))), (5, .int (nI (c9 % 10))), (0, .ref u0), (1, .int (nI c9)), (2, .int (nI 2)), (3, .int a), (4, .int b)]) C dX3_fits_80 (by decide) rfl ?_
      refine g_aload_n C dX3_fits_82 rfl 3 rfl ?_
      refine g_iload_n C dX3_fits_83 rfl 4 rfl ?_
      refine g_callV (ci := 3) (Cn := RX3) (As := [.int (nI c9)]) (rest := []) C hm rfl rfl (c_X3_shown l D tys cI ht0 W u0 u1 u2 u3 u4 u5 u6 u7 u8 u9 u10 u11 u12 u13 u14 np th fi le ac se hh ou P cover c9 (by omega) hnp hR hcv hm h_se h_cover) (cwV 1 C.ts gX3_fits_X3_shown rfl rfl rfl (by decide +kernel) ⟨(Nat.le_of_ble_eq_true rfl), (Nat.le_of_ble_eq_true rfl)⟩) rfl rfl (Nat.le_of_ble_eq_true rfl) dX3_fits_84 (Nat.le_of_ble_eq_true rfl) (Nat.le_of_ble_eq_true rfl) (g_is (x := .int (colv np P cover c9)) (W1 := W) ?_)
      refine g_iload C dX3_fits_87 0 rfl ?_
      refine g_if_eq (tgt := 96) C dX3_fits_89 (by decide) (fun c_19 => by exfalso; revert c_19; decide) (fun c_19 => ?_)
      refine g_iload_n C dX3_fits_92 rfl 6 rfl ?_
      refine g_goto (tgt := 98) C dX3_fits_93 (by decide) ?_
      refine g_icmp_ne (tgt := 105) C dX3_fits_98 (by decide) (fun c_20 => ?_) (fun c_20 => ?_)
      · skip
        refine g_iconst (v := 0) C dX3_fits_105 (by decide) ?_
        refine g_zret C (by first | exact Or.inl rfl | exact Or.inr rfl | exact gz01 _) hQ (Nat.le_of_ble_eq_true rfl) (Nat.le_of_ble_eq_true rfl) dX3_fits_106 ?_
        first | exact ⟨gz_e0 (by simp [fitB, *]), rfl⟩ | exact ⟨gz_e1 (by simp [fitB, *]), rfl⟩
      · skip
        refine g_iconst (v := 1) C dX3_fits_101 (by decide) ?_
        refine g_goto (tgt := 106) C dX3_fits_102 (by decide) ?_
        refine g_zret C (by first | exact Or.inl rfl | exact Or.inr rfl | exact gz01 _) hQ (Nat.le_of_ble_eq_true rfl) (Nat.le_of_ble_eq_true rfl) dX3_fits_106 ?_
        first | exact ⟨gz_e0 (by simp [fitB, *]), rfl⟩ | exact ⟨gz_e1 (by simp [fitB, *]), rfl⟩
  · skip
    refine g_iload_n C dX3_fits_0 rfl 1 rfl ?_
    refine g_bipush (v := 10) C dX3_fits_1 (by decide) ?_
    refine g_irem C dX3_fits_3 (by decide) ?_
    refine g_eqi (x := (nI c9) - (nI c9) / 10 * 10) (y := nI (c9 % 10)) (remI c9 10 (by omega) (by omega) (by omega) rfl) ?_
    refine g_istore (lv' := [(5, .int (nI (c9 % 10))), (0, .ref u0), (1, .int (nI c9)), (2, .int (nI 3)), (3, .int a), (4, .int b)]) C dX3_fits_4 (by decide) rfl ?_
    refine g_iload_n C dX3_fits_6 rfl 2 rfl ?_
    refine g_bipush (v := 10) C dX3_fits_7 (by decide) ?_
    refine g_idiv C dX3_fits_9 (by decide) ?_
    refine g_eqi (x := (nI c9) / 10) (y := nI (c9 / 10)) (divI c9 10 (by omega) (by omega) (by omega) rfl) ?_
    refine g_istore (lv' := [(6, .int (nI (c9 / 10))), (5, .int (nI (c9 % 10))), (0, .ref u0), (1, .int (nI c9)), (2, .int (nI 3)), (3, .int a), (4, .int b)]) C dX3_fits_10 (by decide) rfl ?_
    refine g_iload_n C dX3_fits_12 rfl 4 rfl ?_
    refine g_iconst (v := 3) C dX3_fits_13 (by decide) ?_
    refine g_icmp_ne (tgt := 46) C dX3_fits_14 (by decide) (fun c_21 => by exfalso; revert c_21; decide) (fun c_21 => ?_)
    refine g_aload_n C dX3_fits_17 rfl 2 rfl ?_
    refine g_iload_n C dX3_fits_18 rfl 3 rfl ?_
    refine g_callV (ci := 3) (Cn := RX3) (As := [.int (nI c9)]) (rest := []) C hm rfl rfl (c_X3_shown l D tys cI ht0 W u0 u1 u2 u3 u4 u5 u6 u7 u8 u9 u10 u11 u12 u13 u14 np th fi le ac se hh ou P cover c9 (by omega) hnp hR hcv hm h_se h_cover) (cwV 1 C.ts gX3_fits_X3_shown rfl rfl rfl (by decide +kernel) ⟨(Nat.le_of_ble_eq_true rfl), (Nat.le_of_ble_eq_true rfl)⟩) rfl rfl (Nat.le_of_ble_eq_true rfl) dX3_fits_19 (Nat.le_of_ble_eq_true rfl) (Nat.le_of_ble_eq_true rfl) (g_is (x := .int (colv np P cover c9)) (W1 := W) ?_)
    refine g_aload_n C dX3_fits_22 rfl 2 rfl ?_
    refine g_iload_n C dX3_fits_23 rfl 3 rfl ?_
    refine g_bipush (v := 10) C dX3_fits_24 (by decide) ?_
    refine g_iadd C dX3_fits_26 ?_
    refine g_eqi (x := (nI c9) + 10) (y := nI (c9 + 10)) (nI_add _ 10) ?_
    refine g_iconst (v := 1) C dX3_fits_27 (by decide) ?_
    refine g_isub C dX3_fits_28 ?_
    refine g_eqi (x := (nI (c9 + 10)) - 1) (y := nI (c9 + 9)) ((sub1N (c9 + 10) (by omega)).trans (by rw [show c9 + 10 - 1 = c9 + 9 by omega])) ?_
    refine g_iconst (v := 2) C dX3_fits_29 (by decide) ?_
    refine g_iload C dX3_fits_30 1 rfl ?_
    refine g_imul C dX3_fits_32 ?_
    refine g_eqi (x := 2 * (nI (c9 % 10))) (y := nI (2 * (c9 % 10))) (mul2N _) ?_
    refine g_isub C dX3_fits_33 ?_
    refine g_eqi (x := (nI (c9 + 9)) - (nI (2 * (c9 % 10)))) (y := nI (10 * (c9 / 10) + (9 - c9 % 10))) ((pk_sub (by omega)).trans (by rw [show c9 + 9 - 2 * (c9 % 10) = 10 * (c9 / 10) + (9 - c9 % 10) by omega])) ?_
    refine g_callV (ci := 3) (Cn := RX3) (As := [.int (nI (10 * (c9 / 10) + (9 - c9 % 10)))]) (rest := [.int (colv np P cover c9)]) C hm rfl rfl (c_X3_shown l D tys cI ht0 W u0 u1 u2 u3 u4 u5 u6 u7 u8 u9 u10 u11 u12 u13 u14 np th fi le ac se hh ou P cover ((10 * (c9 / 10) + (9 - c9 % 10))) (by omega) hnp hR hcv hm h_se h_cover) (cwV 1 C.ts gX3_fits_X3_shown rfl rfl rfl (by decide +kernel) ⟨(Nat.le_of_ble_eq_true rfl), (Nat.le_of_ble_eq_true rfl)⟩) rfl rfl (Nat.le_of_ble_eq_true rfl) dX3_fits_34 (Nat.le_of_ble_eq_true rfl) (Nat.le_of_ble_eq_true rfl) (g_is (x := .int (colv np P cover ((10 * (c9 / 10) + (9 - c9 % 10))))) (W1 := W) ?_)
    refine g_icmp_ne (tgt := 44) C dX3_fits_37 (by decide) (fun c_22 => ?_) (fun c_22 => ?_)
    · skip
      refine g_iconst (v := 0) C dX3_fits_44 (by decide) ?_
      refine g_zret C (by first | exact Or.inl rfl | exact Or.inr rfl | exact gz01 _) hQ (Nat.le_of_ble_eq_true rfl) (Nat.le_of_ble_eq_true rfl) dX3_fits_45 ?_
      first | exact ⟨gz_e0 (by simp [fitB, *]), rfl⟩ | exact ⟨gz_e1 (by simp [fitB, *]), rfl⟩
    · skip
      refine g_iconst (v := 1) C dX3_fits_40 (by decide) ?_
      refine g_goto (tgt := 45) C dX3_fits_41 (by decide) ?_
      refine g_zret C (by first | exact Or.inl rfl | exact Or.inr rfl | exact gz01 _) hQ (Nat.le_of_ble_eq_true rfl) (Nat.le_of_ble_eq_true rfl) dX3_fits_45 ?_
      first | exact ⟨gz_e0 (by simp [fitB, *]), rfl⟩ | exact ⟨gz_e1 (by simp [fitB, *]), rfl⟩

set_option maxHeartbeats 4000000 in
set_option maxRecDepth 100000 in
theorem c_X3_offBy (l : Launch) (D : va_G) (tys : List (ClassId × FieldType)) (cI : ClassId) (ht0 : tys[0]? = some (cI, .int)) (W : va_W) (u0 u1 u2 u3 u4 u5 u6 u7 u8 u9 u10 u11 u12 u13 u14 np : Nat) (th : Int32) (fi le ac se hh ou : Nat → Int32) (P : Nat → Pd) (cover : Nat → Int32) (k9 : Nat) (a b : Int32) (hk : k9 ≤ 3) (hnp : np ≤ 100) (hR : Mrel np P fi le ac se hh ou) (hcv : CovOk np cover) (hm : (u0, .inr (3, [.int th, .int (nI np), .ref u1, .ref u2, .ref u3, .ref u4, .ref u5, .ref u6, .ref u7, .ref u8, .ref u9, .ref u10, .ref u11, .ref u13])) ∈ W) (h_se : (u4, .inl (cI, 100, .inl (se))) ∈ W) (h_cover : (u7, .inl (cI, 80, .inl (cover))) ∈ W) : gM l yX3_offBy wsX3_offBy ({ frames := 2, cells := 0, slots := 0, locals := 48 } : Room) D tys [.ref u0, .int (nI k9), .int a, .int b] W (gIs (some (.int (nI (cnt (offB np P cover k9 a b) 80)))) W) 0 0 := by
  refine gM_of (by decide +kernel) rfl (Nat.le_of_ble_eq_true rfl) ?_
  intro p e s m args below meth c A Q hin C hQ
  refine g_sub [0, 1, 2, 3] (lv' := [(0, .ref u0), (1, .int (nI k9)), (2, .int a), (3, .int b)]) rfl ?_
  refine g_iconst (v := 0) C dX3_offBy_0 (by decide) ?_
  refine g_istore (lv' := [(4, .int 0), (0, .ref u0), (1, .int (nI k9)), (2, .int a), (3, .int b)]) C dX3_offBy_1 (by decide) rfl ?_
  refine g_iconst (v := 0) C dX3_offBy_3 (by decide) ?_
  refine g_istore (lv' := [(5, .int 0), (4, .int 0), (0, .ref u0), (1, .int (nI k9)), (2, .int a), (3, .int b)]) C dX3_offBy_4 (by decide) rfl ?_
  have lp6 : ∀ (n9 : Nat) (i q : Nat) (hq : q = cnt (offB np P cover k9 a b) i) (hi : i ≤ 80) (hn : 81 ≤ i + n9), G p l e ({ frames := 2, cells := 0, slots := 0, locals := 48 } : Room) s m args below meth c D A s.heap 6 0 0 Q 6 [(0, .ref u0), (1, .int (nI k9)), (2, .int a), (3, .int b), (4, .int (nI q)), (5, .int (nI i))] [] W := by
    intro n9
    induction n9 with
    | zero =>
      intro i q hq hi hn
      exfalso; omega
    | succ n9 ih =>
      intro i q hq hi hn
      refine g_iload C dX3_offBy_6 5 rfl ?_
      refine g_bipush (v := 80) C dX3_offBy_8 (by decide) ?_
      refine g_icmp_ge (tgt := 41) C dX3_offBy_10 (by decide) (fun c_1 => ?_) (fun c_1 => ?_)
      · skip
        rw [show (80 : Int32) = nI 80 from rfl, nI_leI (by omega) (by omega)] at c_1
        refine g_iload C dX3_offBy_41 4 rfl ?_
        refine g_iret C hQ (Nat.le_of_ble_eq_true rfl) (Nat.le_of_ble_eq_true rfl) dX3_offBy_43 ?_
        exact ⟨by rw [hq, show i = 80 by omega], rfl⟩
      · skip
        rw [show (80 : Int32) = nI 80 from rfl, nI_leI (by omega) (by omega)] at c_1
        refine g_iload C dX3_offBy_13 4 rfl ?_
        refine g_aload_n C dX3_offBy_15 rfl 0 rfl ?_
        refine g_iload C dX3_offBy_16 5 rfl ?_
        refine g_iload_n C dX3_offBy_18 rfl 1 rfl ?_
        refine g_iload_n C dX3_offBy_19 rfl 2 rfl ?_
        refine g_iload_n C dX3_offBy_20 rfl 3 rfl ?_
        refine g_callV (ci := 3) (Cn := RX3) (As := [.int (nI i), .int (nI k9), .int a, .int b]) (rest := [.int (nI q)]) C hm rfl rfl (c_X3_fits l D tys cI ht0 W u0 u1 u2 u3 u4 u5 u6 u7 u8 u9 u10 u11 u12 u13 u14 np th fi le ac se hh ou P cover i k9 a b (by omega) (by omega) hnp hR hcv hm h_se h_cover) (cwV 4 C.ts gX3_offBy_X3_fits rfl rfl rfl (by decide +kernel) ⟨(Nat.le_of_ble_eq_true rfl), (Nat.le_of_ble_eq_true rfl)⟩) rfl rfl (Nat.le_of_ble_eq_true rfl) dX3_offBy_21 (Nat.le_of_ble_eq_true rfl) (Nat.le_of_ble_eq_true rfl) (g_is (x := .int (gz (fitB np P cover (i % 10) (i / 10) k9 a b))) (W1 := W) ?_)
        refine g_if_eq (tgt := 31) C dX3_offBy_24 (by decide) (fun c_2 => ?_) (fun c_2 => ?_)
        · skip
          replace c_2 := gz0.mp c_2
          refine g_iconst (v := 1) C dX3_offBy_31 (by decide) ?_
          refine g_iadd C dX3_offBy_32 ?_
          refine g_eqi (x := (nI q) + 1) (y := nI (q + 1)) (nI_add _ 1) ?_
          refine g_istore (lv' := [(4, .int (nI (q + 1))), (0, .ref u0), (1, .int (nI k9)), (2, .int a), (3, .int b), (5, .int (nI i))]) C dX3_offBy_33 (by decide) rfl ?_
          refine g_iinc (v := nI (i + 1)) (lv' := [(5, .int (nI (i + 1))), (4, .int (nI (q + 1))), (0, .ref u0), (1, .int (nI k9)), (2, .int a), (3, .int b)]) C dX3_offBy_35 5 rfl (by exact nI_add _ 1) (by decide) rfl ?_
          refine g_goto (tgt := 6) C dX3_offBy_38 (by decide) ?_
          refine g_sub [2, 3, 4, 5, 1, 0] (lv' := [(0, .ref u0), (1, .int (nI k9)), (2, .int a), (3, .int b), (4, .int (nI (q + 1))), (5, .int (nI (i + 1)))]) rfl ?_
          exact ih (i + 1) _ (by rw [hq]; first | exact (cnt_f (by simp [offB, *])).symm | exact (cnt_t (by simp [offB, *])).symm) (by omega) (by omega)
        · skip
          replace c_2 := gzn.mp c_2
          refine g_iconst (v := 0) C dX3_offBy_27 (by decide) ?_
          refine g_goto (tgt := 32) C dX3_offBy_28 (by decide) ?_
          refine g_iadd C dX3_offBy_32 ?_
          refine g_eqi (x := (nI q) + 0) (y := nI (q + 0)) (nI_add _ 0) ?_
          refine g_istore (lv' := [(4, .int (nI (q + 0))), (0, .ref u0), (1, .int (nI k9)), (2, .int a), (3, .int b), (5, .int (nI i))]) C dX3_offBy_33 (by decide) rfl ?_
          refine g_iinc (v := nI (i + 1)) (lv' := [(5, .int (nI (i + 1))), (4, .int (nI (q + 0))), (0, .ref u0), (1, .int (nI k9)), (2, .int a), (3, .int b)]) C dX3_offBy_35 5 rfl (by exact nI_add _ 1) (by decide) rfl ?_
          refine g_goto (tgt := 6) C dX3_offBy_38 (by decide) ?_
          refine g_sub [2, 3, 4, 5, 1, 0] (lv' := [(0, .ref u0), (1, .int (nI k9)), (2, .int a), (3, .int b), (4, .int (nI (q + 0))), (5, .int (nI (i + 1)))]) rfl ?_
          exact ih (i + 1) _ (by rw [hq]; first | exact (cnt_f (by simp [offB, *])).symm | exact (cnt_t (by simp [offB, *])).symm) (by omega) (by omega)
  refine g_sub [2, 3, 4, 5, 1, 0] (lv' := [(0, .ref u0), (1, .int (nI k9)), (2, .int a), (3, .int b), (4, .int 0), (5, .int 0)]) rfl ?_
  exact lp6 81 0 0 rfl (by omega) (by omega)

theorem k_X3_canLie_inX3 : ∀ w ∈ wsX30, w ∈ wsX3_canLie := by decide +kernel
theorem k_X3_canLie_1 : Cond.fieldLink RX3 45 "WetMosaicModel" "s" "LWetMosaicModel$State;" ∈ wsX3_canLie := by decide +kernel
theorem k_X3_canLie_inX2 : ∀ w ∈ wsX20, w ∈ wsX3_canLie := by decide +kernel
theorem k_X3_canLie_3 : Cond.fieldLink RX3 28 "WetMosaicModel" "cover" "[I" ∈ wsX3_canLie := by decide +kernel
set_option maxHeartbeats 4000000 in
set_option maxRecDepth 100000 in
theorem c_X3_canLie (l : Launch) (D : va_G) (tys : List (ClassId × FieldType)) (cI : ClassId) (ht0 : tys[0]? = some (cI, .int)) (W : va_W) (u0 u1 u2 u3 u4 u5 u6 u7 u8 u9 u10 u11 u12 u13 u14 np : Nat) (th : Int32) (hr : Nat) (wet cover : Nat → Int32) (x y ln : Nat) (ac : Bool) (own : Int32) (hx : x ≤ 9) (hy : y ≤ 7) (h1 : 1 ≤ ln) (h3 : ln ≤ 3) (hm : (u0, .inr (3, [.int th, .int (nI np), .ref u1, .ref u2, .ref u3, .ref u4, .ref u5, .ref u6, .ref u7, .ref u8, .ref u9, .ref u10, .ref u11, .ref u13])) ∈ W) (hs1 : (u11, .inr (2, [.int (nI hr), .ref u12, .ref u0])) ∈ W) (hs2 : (u12, .inl (cI, 80, .inl (wet))) ∈ W) (h_cover : (u7, .inl (cI, 80, .inl (cover))) ∈ W) : gM l yX3_canLie wsX3_canLie ({ frames := 0, cells := 0, slots := 0, locals := 0 } : Room) D tys [.ref u0, .int (nI (10 * y + x)), .int (nI ln), .int (gz ac), .int own] W (gIs (some (.int (gz (lieB wet cover x y ln ac own)))) W) 0 0 := by
  refine gM_of (by decide +kernel) rfl (Nat.le_of_ble_eq_true rfl) ?_
  intro p e s m args below meth c A Q hin C hQ
  refine g_sub [0, 1, 2, 3, 4] (lv' := [(0, .ref u0), (1, .int (nI (10 * y + x))), (2, .int (nI ln)), (3, .int (gz ac)), (4, .int own)]) rfl ?_
  cases ac with
  | false =>
    refine g_iload_n C dX3_canLie_0 rfl 3 rfl ?_
    refine g_if_eq (tgt := 18) C dX3_canLie_1 (by decide) (fun c_1 => ?_) (fun c_1 => by exfalso; revert c_1; decide)
    refine g_iload_n C dX3_canLie_18 rfl 1 rfl ?_
    refine g_bipush (v := 10) C dX3_canLie_19 (by decide) ?_
    refine g_idiv C dX3_canLie_21 (by decide) ?_
    refine g_eqi (x := (nI (10 * y + x)) / 10) (y := nI y) ((divI _ 10 (by omega) (by omega) (by omega) rfl).trans (by rw [show (10 * y + x) / 10 = y by omega])) ?_
    refine g_iload_n C dX3_canLie_22 rfl 2 rfl ?_
    refine g_iadd C dX3_canLie_23 ?_
    refine g_eqi (x := (nI y) + (nI ln)) (y := nI (y + ln)) (nI_add _ _) ?_
    refine g_bipush (v := 8) C dX3_canLie_24 (by decide) ?_
    refine g_icmp_le (tgt := 31) C dX3_canLie_26 (by decide) (fun c_2 => ?_) (fun c_2 => ?_)
    · skip
      rw [show (8 : Int32) = nI 8 from rfl, nI_leI (by omega) (by omega)] at c_2
      have hc : ∀ j, j < ln → cel x y false j < 80 := by
        intro j hj
        simp only [cel, Bool.false_eq_true, if_false]
        omega
      refine g_iload_n C dX3_canLie_31 rfl 3 rfl ?_
      refine g_if_eq (tgt := 39) C dX3_canLie_32 (by decide) (fun c_3 => ?_) (fun c_3 => by exfalso; revert c_3; decide)
      refine g_bipush (v := 10) C dX3_canLie_39 (by decide) ?_
      refine g_istore (lv' := [(5, .int 10), (0, .ref u0), (1, .int (nI (10 * y + x))), (2, .int (nI ln)), (3, .int (gz false)), (4, .int own)]) C dX3_canLie_41 (by decide) rfl ?_
      refine g_iconst (v := 0) C dX3_canLie_43 (by decide) ?_
      refine g_istore (lv' := [(6, .int 0), (5, .int 10), (0, .ref u0), (1, .int (nI (10 * y + x))), (2, .int (nI ln)), (3, .int (gz false)), (4, .int own)]) C dX3_canLie_44 (by decide) rfl ?_
      have lp46 : ∀ (n9 : Nat) (j : Nat) (hj : allB (fun j => frm wet cover own (cel x y false j)) j = true) (hi : j ≤ ln) (hn : ln + 1 ≤ j + n9), G p l e ({ frames := 0, cells := 0, slots := 0, locals := 0 } : Room) s m args below meth c D A s.heap 8 0 0 Q 46 [(0, .ref u0), (1, .int (nI (10 * y + x))), (2, .int (nI ln)), (3, .int (gz false)), (4, .int own), (5, .int 10), (6, .int (nI j))] [] W := by
        intro n9
        induction n9 with
        | zero =>
          intro j hj hi hn
          exfalso; omega
        | succ n9 ih =>
          intro j hj hi hn
          refine g_iload C dX3_canLie_46 6 rfl ?_
          refine g_iload_n C dX3_canLie_48 rfl 2 rfl ?_
          refine g_icmp_ge (tgt := 106) C dX3_canLie_49 (by decide) (fun c_4 => ?_) (fun c_4 => ?_)
          · skip
            rw [nI_leI (by omega) (by omega)] at c_4
            refine g_iconst (v := 1) C dX3_canLie_106 (by decide) ?_
            refine g_zret C (by first | exact Or.inl rfl | exact Or.inr rfl | exact gz01 _) hQ (Nat.le_of_ble_eq_true rfl) (Nat.le_of_ble_eq_true rfl) dX3_canLie_107 ?_
            exact ⟨gz_e1 (by rw [lieB, decide_eq_true (by simp only [if_true, Bool.false_eq_true, if_false]; omega), Bool.true_and, show ln = j by omega]; exact hj), rfl⟩
          · skip
            rw [nI_leI (by omega) (by omega)] at c_4
            refine g_iload_n C dX3_canLie_52 rfl 1 rfl ?_
            refine g_iload C dX3_canLie_53 6 rfl ?_
            refine g_iload C dX3_canLie_55 5 rfl ?_
            refine g_imul C dX3_canLie_57 ?_
            refine g_iadd C dX3_canLie_58 ?_
            refine g_eqi (x := (nI (10 * y + x)) + ((nI j) * 10)) (y := nI (cel x y false j)) (celB) ?_
            refine g_istore (lv' := [(7, .int (nI (cel x y false j))), (0, .ref u0), (1, .int (nI (10 * y + x))), (2, .int (nI ln)), (3, .int (gz false)), (4, .int own), (5, .int 10), (6, .int (nI j))]) C dX3_canLie_59 (by decide) rfl ?_
            refine g_aload_n C dX3_canLie_61 rfl 1 rfl ?_
            refine g_get (v := .ref u11) (ci := 3) (Cn := RX3) (T := TX3) (N := 14) C k_X3_canLie_inX3 hm rfl 12 (by decide) k_X3_canLie_1 rfl rfl dX3_canLie_62 ?_
            refine g_getN (host := "WetMosaicModel") (v := .ref u12) (ci := 2) (Cn := RX2) (T := TX2) (N := 3) C k_X3_canLie_inX2 hs1 rfl 1 (by decide) (by decide +kernel) rfl rfl dX3_canLie_65 ?_
            refine g_iload C dX3_canLie_68 0 rfl ?_
            refine g_iald C 0 hs2 ht0 (vp_in_nI (hc j (by omega)) (by omega)) dX3_canLie_70 ?_
            refine g_eqi (x := wet (nI (cel x y false j)).toNatClampNeg) (y := wet (cel x y false j)) (by rw [nI_clamp (Nat.lt_trans (hc j (by omega)) (by decide))]) ?_
            refine g_iconst (v := 1) C dX3_canLie_71 (by decide) ?_
            refine g_icmp_lt (tgt := 98) C dX3_canLie_72 (by decide) (fun c_5 => ?_) (fun c_5 => ?_)
            · skip
              refine g_iconst (v := 0) C dX3_canLie_98 (by decide) ?_
              refine g_zret C (by first | exact Or.inl rfl | exact Or.inr rfl | exact gz01 _) hQ (Nat.le_of_ble_eq_true rfl) (Nat.le_of_ble_eq_true rfl) dX3_canLie_99 ?_
              exact ⟨gz_e0 (by rw [lieB, allB_false (show j < ln by omega) (by simp [frm, *, dec_lt, dec_nlt]), Bool.and_false]), rfl⟩
            · skip
              refine g_aload_n C dX3_canLie_75 rfl 1 rfl ?_
              refine g_get (v := .ref u7) (ci := 3) (Cn := RX3) (T := TX3) (N := 14) C k_X3_canLie_inX3 hm rfl 8 (by decide) k_X3_canLie_3 rfl rfl dX3_canLie_76 ?_
              refine g_iload C dX3_canLie_79 0 rfl ?_
              refine g_iald C 0 h_cover ht0 (vp_in_nI (hc j (by omega)) (by omega)) dX3_canLie_81 ?_
              refine g_eqi (x := cover (nI (cel x y false j)).toNatClampNeg) (y := cover (cel x y false j)) (by rw [nI_clamp (Nat.lt_trans (hc j (by omega)) (by decide))]) ?_
              refine g_iconst (v := (-1)) C dX3_canLie_82 (by decide) ?_
              refine g_icmp_eq (tgt := 100) C dX3_canLie_83 (by decide) (fun c_6 => ?_) (fun c_6 => ?_)
              · skip
                refine g_iinc (v := nI (j + 1)) (lv' := [(6, .int (nI (j + 1))), (7, .int (nI (cel x y false j))), (0, .ref u0), (1, .int (nI (10 * y + x))), (2, .int (nI ln)), (3, .int (gz false)), (4, .int own), (5, .int 10)]) C dX3_canLie_100 7 rfl (by exact nI_add _ 1) (by decide) rfl ?_
                refine g_goto (tgt := 46) C dX3_canLie_103 (by decide) ?_
                refine g_sub [2, 3, 4, 5, 6, 7, 0] (lv' := [(0, .ref u0), (1, .int (nI (10 * y + x))), (2, .int (nI ln)), (3, .int (gz false)), (4, .int own), (5, .int 10), (6, .int (nI (j + 1)))]) rfl ?_
                exact ih (j + 1) (by rw [allB, hj]; simp [frm, *, dec_nlt]) (by omega) (by omega)
              · skip
                refine g_aload_n C dX3_canLie_86 rfl 1 rfl ?_
                refine g_get (v := .ref u7) (ci := 3) (Cn := RX3) (T := TX3) (N := 14) C k_X3_canLie_inX3 hm rfl 8 (by decide) k_X3_canLie_3 rfl rfl dX3_canLie_87 ?_
                refine g_iload C dX3_canLie_90 0 rfl ?_
                refine g_iald C 0 h_cover ht0 (vp_in_nI (hc j (by omega)) (by omega)) dX3_canLie_92 ?_
                refine g_eqi (x := cover (nI (cel x y false j)).toNatClampNeg) (y := cover (cel x y false j)) (by rw [nI_clamp (Nat.lt_trans (hc j (by omega)) (by decide))]) ?_
                refine g_iload C dX3_canLie_93 5 rfl ?_
                refine g_icmp_eq (tgt := 100) C dX3_canLie_95 (by decide) (fun c_7 => ?_) (fun c_7 => ?_)
                · skip
                  refine g_iinc (v := nI (j + 1)) (lv' := [(6, .int (nI (j + 1))), (7, .int (nI (cel x y false j))), (0, .ref u0), (1, .int (nI (10 * y + x))), (2, .int (nI ln)), (3, .int (gz false)), (4, .int own), (5, .int 10)]) C dX3_canLie_100 7 rfl (by exact nI_add _ 1) (by decide) rfl ?_
                  refine g_goto (tgt := 46) C dX3_canLie_103 (by decide) ?_
                  refine g_sub [2, 3, 4, 5, 6, 7, 0] (lv' := [(0, .ref u0), (1, .int (nI (10 * y + x))), (2, .int (nI ln)), (3, .int (gz false)), (4, .int own), (5, .int 10), (6, .int (nI (j + 1)))]) rfl ?_
                  exact ih (j + 1) (by rw [allB, hj]; simp [frm, *, dec_nlt]) (by omega) (by omega)
                · skip
                  refine g_iconst (v := 0) C dX3_canLie_98 (by decide) ?_
                  refine g_zret C (by first | exact Or.inl rfl | exact Or.inr rfl | exact gz01 _) hQ (Nat.le_of_ble_eq_true rfl) (Nat.le_of_ble_eq_true rfl) dX3_canLie_99 ?_
                  exact ⟨gz_e0 (by rw [lieB, allB_false (show j < ln by omega) (by simp [frm, *, dec_lt, dec_nlt]), Bool.and_false]), rfl⟩
      refine g_sub [2, 3, 4, 5, 6, 1, 0] (lv' := [(0, .ref u0), (1, .int (nI (10 * y + x))), (2, .int (nI ln)), (3, .int (gz false)), (4, .int own), (5, .int 10), (6, .int 0)]) rfl ?_
      exact lp46 (ln + 1) 0 rfl (by omega) (by omega)
    · skip
      rw [show (8 : Int32) = nI 8 from rfl, nI_leI (by omega) (by omega)] at c_2
      refine g_iconst (v := 0) C dX3_canLie_29 (by decide) ?_
      refine g_zret C (by first | exact Or.inl rfl | exact Or.inr rfl | exact gz01 _) hQ (Nat.le_of_ble_eq_true rfl) (Nat.le_of_ble_eq_true rfl) dX3_canLie_30 ?_
      exact ⟨gz_e0 (by rw [lieB, decide_eq_false (by simp only [if_true, Bool.false_eq_true, if_false]; omega), Bool.false_and]), rfl⟩
  | true =>
    refine g_iload_n C dX3_canLie_0 rfl 3 rfl ?_
    refine g_if_eq (tgt := 18) C dX3_canLie_1 (by decide) (fun c_8 => by exfalso; revert c_8; decide) (fun c_8 => ?_)
    refine g_iload_n C dX3_canLie_4 rfl 1 rfl ?_
    refine g_bipush (v := 10) C dX3_canLie_5 (by decide) ?_
    refine g_irem C dX3_canLie_7 (by decide) ?_
    refine g_eqi (x := (nI (10 * y + x)) - (nI (10 * y + x)) / 10 * 10) (y := nI x) ((remI _ 10 (by omega) (by omega) (by omega) rfl).trans (by rw [show (10 * y + x) % 10 = x by omega])) ?_
    refine g_iload_n C dX3_canLie_8 rfl 2 rfl ?_
    refine g_iadd C dX3_canLie_9 ?_
    refine g_eqi (x := (nI x) + (nI ln)) (y := nI (x + ln)) (nI_add _ _) ?_
    refine g_bipush (v := 10) C dX3_canLie_10 (by decide) ?_
    refine g_icmp_le (tgt := 31) C dX3_canLie_12 (by decide) (fun c_9 => ?_) (fun c_9 => ?_)
    · skip
      rw [show (10 : Int32) = nI 10 from rfl, nI_leI (by omega) (by omega)] at c_9
      have hc : ∀ j, j < ln → cel x y true j < 80 := by
        intro j hj
        simp only [cel, if_true]
        omega
      refine g_iload_n C dX3_canLie_31 rfl 3 rfl ?_
      refine g_if_eq (tgt := 39) C dX3_canLie_32 (by decide) (fun c_10 => by exfalso; revert c_10; decide) (fun c_10 => ?_)
      refine g_iconst (v := 1) C dX3_canLie_35 (by decide) ?_
      refine g_goto (tgt := 41) C dX3_canLie_36 (by decide) ?_
      refine g_istore (lv' := [(5, .int 1), (0, .ref u0), (1, .int (nI (10 * y + x))), (2, .int (nI ln)), (3, .int (gz true)), (4, .int own)]) C dX3_canLie_41 (by decide) rfl ?_
      refine g_iconst (v := 0) C dX3_canLie_43 (by decide) ?_
      refine g_istore (lv' := [(6, .int 0), (5, .int 1), (0, .ref u0), (1, .int (nI (10 * y + x))), (2, .int (nI ln)), (3, .int (gz true)), (4, .int own)]) C dX3_canLie_44 (by decide) rfl ?_
      have lp46_11 : ∀ (n9 : Nat) (j : Nat) (hj : allB (fun j => frm wet cover own (cel x y true j)) j = true) (hi : j ≤ ln) (hn : ln + 1 ≤ j + n9), G p l e ({ frames := 0, cells := 0, slots := 0, locals := 0 } : Room) s m args below meth c D A s.heap 8 0 0 Q 46 [(0, .ref u0), (1, .int (nI (10 * y + x))), (2, .int (nI ln)), (3, .int (gz true)), (4, .int own), (5, .int 1), (6, .int (nI j))] [] W := by
        intro n9
        induction n9 with
        | zero =>
          intro j hj hi hn
          exfalso; omega
        | succ n9 ih =>
          intro j hj hi hn
          refine g_iload C dX3_canLie_46 6 rfl ?_
          refine g_iload_n C dX3_canLie_48 rfl 2 rfl ?_
          refine g_icmp_ge (tgt := 106) C dX3_canLie_49 (by decide) (fun c_12 => ?_) (fun c_12 => ?_)
          · skip
            rw [nI_leI (by omega) (by omega)] at c_12
            refine g_iconst (v := 1) C dX3_canLie_106 (by decide) ?_
            refine g_zret C (by first | exact Or.inl rfl | exact Or.inr rfl | exact gz01 _) hQ (Nat.le_of_ble_eq_true rfl) (Nat.le_of_ble_eq_true rfl) dX3_canLie_107 ?_
            exact ⟨gz_e1 (by rw [lieB, decide_eq_true (by simp only [if_true, Bool.false_eq_true, if_false]; omega), Bool.true_and, show ln = j by omega]; exact hj), rfl⟩
          · skip
            rw [nI_leI (by omega) (by omega)] at c_12
            refine g_iload_n C dX3_canLie_52 rfl 1 rfl ?_
            refine g_iload C dX3_canLie_53 6 rfl ?_
            refine g_iload C dX3_canLie_55 5 rfl ?_
            refine g_imul C dX3_canLie_57 ?_
            refine g_iadd C dX3_canLie_58 ?_
            refine g_eqi (x := (nI (10 * y + x)) + ((nI j) * 1)) (y := nI (cel x y true j)) (celA) ?_
            refine g_istore (lv' := [(7, .int (nI (cel x y true j))), (0, .ref u0), (1, .int (nI (10 * y + x))), (2, .int (nI ln)), (3, .int (gz true)), (4, .int own), (5, .int 1), (6, .int (nI j))]) C dX3_canLie_59 (by decide) rfl ?_
            refine g_aload_n C dX3_canLie_61 rfl 1 rfl ?_
            refine g_get (v := .ref u11) (ci := 3) (Cn := RX3) (T := TX3) (N := 14) C k_X3_canLie_inX3 hm rfl 12 (by decide) k_X3_canLie_1 rfl rfl dX3_canLie_62 ?_
            refine g_getN (host := "WetMosaicModel") (v := .ref u12) (ci := 2) (Cn := RX2) (T := TX2) (N := 3) C k_X3_canLie_inX2 hs1 rfl 1 (by decide) (by decide +kernel) rfl rfl dX3_canLie_65 ?_
            refine g_iload C dX3_canLie_68 0 rfl ?_
            refine g_iald C 0 hs2 ht0 (vp_in_nI (hc j (by omega)) (by omega)) dX3_canLie_70 ?_
            refine g_eqi (x := wet (nI (cel x y true j)).toNatClampNeg) (y := wet (cel x y true j)) (by rw [nI_clamp (Nat.lt_trans (hc j (by omega)) (by decide))]) ?_
            refine g_iconst (v := 1) C dX3_canLie_71 (by decide) ?_
            refine g_icmp_lt (tgt := 98) C dX3_canLie_72 (by decide) (fun c_13 => ?_) (fun c_13 => ?_)
            · skip
              refine g_iconst (v := 0) C dX3_canLie_98 (by decide) ?_
              refine g_zret C (by first | exact Or.inl rfl | exact Or.inr rfl | exact gz01 _) hQ (Nat.le_of_ble_eq_true rfl) (Nat.le_of_ble_eq_true rfl) dX3_canLie_99 ?_
              exact ⟨gz_e0 (by rw [lieB, allB_false (show j < ln by omega) (by simp [frm, *, dec_lt, dec_nlt]), Bool.and_false]), rfl⟩
            · skip
              refine g_aload_n C dX3_canLie_75 rfl 1 rfl ?_
              refine g_get (v := .ref u7) (ci := 3) (Cn := RX3) (T := TX3) (N := 14) C k_X3_canLie_inX3 hm rfl 8 (by decide) k_X3_canLie_3 rfl rfl dX3_canLie_76 ?_
              refine g_iload C dX3_canLie_79 0 rfl ?_
              refine g_iald C 0 h_cover ht0 (vp_in_nI (hc j (by omega)) (by omega)) dX3_canLie_81 ?_
              refine g_eqi (x := cover (nI (cel x y true j)).toNatClampNeg) (y := cover (cel x y true j)) (by rw [nI_clamp (Nat.lt_trans (hc j (by omega)) (by decide))]) ?_
              refine g_iconst (v := (-1)) C dX3_canLie_82 (by decide) ?_
              refine g_icmp_eq (tgt := 100) C dX3_canLie_83 (by decide) (fun c_14 => ?_) (fun c_14 => ?_)
              · skip
                refine g_iinc (v := nI (j + 1)) (lv' := [(6, .int (nI (j + 1))), (7, .int (nI (cel x y true j))), (0, .ref u0), (1, .int (nI (10 * y + x))), (2, .int (nI ln)), (3, .int (gz true)), (4, .int own), (5, .int 1)]) C dX3_canLie_100 7 rfl (by exact nI_add _ 1) (by decide) rfl ?_
                refine g_goto (tgt := 46) C dX3_canLie_103 (by decide) ?_
                refine g_sub [2, 3, 4, 5, 6, 7, 0] (lv' := [(0, .ref u0), (1, .int (nI (10 * y + x))), (2, .int (nI ln)), (3, .int (gz true)), (4, .int own), (5, .int 1), (6, .int (nI (j + 1)))]) rfl ?_
                exact ih (j + 1) (by rw [allB, hj]; simp [frm, *, dec_nlt]) (by omega) (by omega)
              · skip
                refine g_aload_n C dX3_canLie_86 rfl 1 rfl ?_
                refine g_get (v := .ref u7) (ci := 3) (Cn := RX3) (T := TX3) (N := 14) C k_X3_canLie_inX3 hm rfl 8 (by decide) k_X3_canLie_3 rfl rfl dX3_canLie_87 ?_
                refine g_iload C dX3_canLie_90 0 rfl ?_
                refine g_iald C 0 h_cover ht0 (vp_in_nI (hc j (by omega)) (by omega)) dX3_canLie_92 ?_
                refine g_eqi (x := cover (nI (cel x y true j)).toNatClampNeg) (y := cover (cel x y true j)) (by rw [nI_clamp (Nat.lt_trans (hc j (by omega)) (by decide))]) ?_
                refine g_iload C dX3_canLie_93 5 rfl ?_
                refine g_icmp_eq (tgt := 100) C dX3_canLie_95 (by decide) (fun c_15 => ?_) (fun c_15 => ?_)
                · skip
                  refine g_iinc (v := nI (j + 1)) (lv' := [(6, .int (nI (j + 1))), (7, .int (nI (cel x y true j))), (0, .ref u0), (1, .int (nI (10 * y + x))), (2, .int (nI ln)), (3, .int (gz true)), (4, .int own), (5, .int 1)]) C dX3_canLie_100 7 rfl (by exact nI_add _ 1) (by decide) rfl ?_
                  refine g_goto (tgt := 46) C dX3_canLie_103 (by decide) ?_
                  refine g_sub [2, 3, 4, 5, 6, 7, 0] (lv' := [(0, .ref u0), (1, .int (nI (10 * y + x))), (2, .int (nI ln)), (3, .int (gz true)), (4, .int own), (5, .int 1), (6, .int (nI (j + 1)))]) rfl ?_
                  exact ih (j + 1) (by rw [allB, hj]; simp [frm, *, dec_nlt]) (by omega) (by omega)
                · skip
                  refine g_iconst (v := 0) C dX3_canLie_98 (by decide) ?_
                  refine g_zret C (by first | exact Or.inl rfl | exact Or.inr rfl | exact gz01 _) hQ (Nat.le_of_ble_eq_true rfl) (Nat.le_of_ble_eq_true rfl) dX3_canLie_99 ?_
                  exact ⟨gz_e0 (by rw [lieB, allB_false (show j < ln by omega) (by simp [frm, *, dec_lt, dec_nlt]), Bool.and_false]), rfl⟩
      refine g_sub [2, 3, 4, 5, 6, 1, 0] (lv' := [(0, .ref u0), (1, .int (nI (10 * y + x))), (2, .int (nI ln)), (3, .int (gz true)), (4, .int own), (5, .int 1), (6, .int 0)]) rfl ?_
      exact lp46_11 (ln + 1) 0 rfl (by omega) (by omega)
    · skip
      rw [show (10 : Int32) = nI 10 from rfl, nI_leI (by omega) (by omega)] at c_9
      refine g_goto (tgt := 29) C dX3_canLie_15 (by decide) ?_
      refine g_iconst (v := 0) C dX3_canLie_29 (by decide) ?_
      refine g_zret C (by first | exact Or.inl rfl | exact Or.inr rfl | exact gz01 _) hQ (Nat.le_of_ble_eq_true rfl) (Nat.le_of_ble_eq_true rfl) dX3_canLie_30 ?_
      exact ⟨gz_e0 (by rw [lieB, decide_eq_false (by simp only [if_true, Bool.false_eq_true, if_false]; omega), Bool.false_and]), rfl⟩

theorem k_X3_no_inX3 : ∀ w ∈ wsX30, w ∈ wsX3_no := by decide +kernel
theorem k_X3_no_1 : Cond.fieldLink RX3 55 "WetMosaicModel" "thrown" "I" ∈ wsX3_no := by decide +kernel
set_option maxHeartbeats 4000000 in
set_option maxRecDepth 100000 in
theorem c_X3_no (l : Launch) (D : va_G) (tys : List (ClassId × FieldType)) (cI : ClassId) (ht0 : tys[0]? = some (cI, .int)) (u0 u1 u2 u3 u4 u5 u6 u7 u8 u9 u10 u11 u12 u13 u14 np : Nat) (th : Int32) (fi le ac se hh ou cover sun rw fo wet aw : Nat → Int32) (hr : Nat) (ah : Int32) (Z : va_W) (k9 : Int32) : gM l yX3_no wsX3_no ({ frames := 0, cells := 0, slots := 0, locals := 0 } : Room) D tys [.ref u0, .int k9] ((u0, .inr (3, [.int th, .int (nI np), .ref u1, .ref u2, .ref u3, .ref u4, .ref u5, .ref u6, .ref u7, .ref u8, .ref u9, .ref u10, .ref u11, .ref u13])) :: (u1, .inl (cI, 100, .inl (fi))) :: (u2, .inl (cI, 100, .inl (le))) :: (u3, .inl (cI, 100, .inl (ac))) :: (u4, .inl (cI, 100, .inl (se))) :: (u5, .inl (cI, 100, .inl (hh))) :: (u6, .inl (cI, 100, .inl (ou))) :: (u7, .inl (cI, 80, .inl (cover))) :: (u8, .inl (cI, 8, .inl (sun))) :: (u9, .inl (cI, 80, .inl (rw))) :: (u10, .inl (cI, 80, .inl (fo))) :: (u11, .inr (2, [.int (nI hr), .ref u12, .ref u0])) :: (u12, .inl (cI, 80, .inl (wet))) :: (u13, .inr (2, [.int ah, .ref u14, .ref u0])) :: (u14, .inl (cI, 80, .inl (aw))) :: Z) (gIs (some (.int 0)) ((u0, .inr (3, [.int k9, .int (nI np), .ref u1, .ref u2, .ref u3, .ref u4, .ref u5, .ref u6, .ref u7, .ref u8, .ref u9, .ref u10, .ref u11, .ref u13])) :: (u1, .inl (cI, 100, .inl (fi))) :: (u2, .inl (cI, 100, .inl (le))) :: (u3, .inl (cI, 100, .inl (ac))) :: (u4, .inl (cI, 100, .inl (se))) :: (u5, .inl (cI, 100, .inl (hh))) :: (u6, .inl (cI, 100, .inl (ou))) :: (u7, .inl (cI, 80, .inl (cover))) :: (u8, .inl (cI, 8, .inl (sun))) :: (u9, .inl (cI, 80, .inl (rw))) :: (u10, .inl (cI, 80, .inl (fo))) :: (u11, .inr (2, [.int (nI hr), .ref u12, .ref u0])) :: (u12, .inl (cI, 80, .inl (wet))) :: (u13, .inr (2, [.int ah, .ref u14, .ref u0])) :: (u14, .inl (cI, 80, .inl (aw))) :: Z)) 0 0 := by
  refine gM_of (by decide +kernel) rfl (Nat.le_of_ble_eq_true rfl) ?_
  intro p e s m args below meth c A Q hin C hQ
  refine g_sub [0, 1] (lv' := [(0, .ref u0), (1, .int k9)]) rfl ?_
  refine g_aload_n C dX3_no_0 rfl 0 rfl ?_
  refine g_iload_n C dX3_no_1 rfl 1 rfl ?_
  refine g_put (ci := 3) (Cn := RX3) (T := TX3) (N := 14) (ty := .int) (ws' := ((u0, .inr (3, [.int k9, .int (nI np), .ref u1, .ref u2, .ref u3, .ref u4, .ref u5, .ref u6, .ref u7, .ref u8, .ref u9, .ref u10, .ref u11, .ref u13])) :: (u1, .inl (cI, 100, .inl (fi))) :: (u2, .inl (cI, 100, .inl (le))) :: (u3, .inl (cI, 100, .inl (ac))) :: (u4, .inl (cI, 100, .inl (se))) :: (u5, .inl (cI, 100, .inl (hh))) :: (u6, .inl (cI, 100, .inl (ou))) :: (u7, .inl (cI, 80, .inl (cover))) :: (u8, .inl (cI, 8, .inl (sun))) :: (u9, .inl (cI, 80, .inl (rw))) :: (u10, .inl (cI, 80, .inl (fo))) :: (u11, .inr (2, [.int (nI hr), .ref u12, .ref u0])) :: (u12, .inl (cI, 80, .inl (wet))) :: (u13, .inr (2, [.int ah, .ref u14, .ref u0])) :: (u14, .inl (cI, 80, .inl (aw))) :: Z)) C k_X3_no_inX3 tyX3 tyX3_ok nmX3 0 rfl rfl 0 (by decide) k_X3_no_1 rfl rfl (by decide +kernel) rfl rfl (Nat.le_of_ble_eq_true rfl) dX3_no_2 rfl ?_
  refine g_iconst (v := 0) C dX3_no_5 (by decide) ?_
  refine g_iret C hQ (Nat.le_of_ble_eq_true rfl) (Nat.le_of_ble_eq_true rfl) dX3_no_6 ?_
  exact ⟨rfl, rfl⟩

theorem k_X3_clear_inX3 : ∀ w ∈ wsX30, w ∈ wsX3_clear := by decide +kernel
theorem k_X3_clear_1 : Cond.fieldLink RX3 37 "WetMosaicModel" "found" "[I" ∈ wsX3_clear := by decide +kernel
set_option maxHeartbeats 4000000 in
set_option maxRecDepth 100000 in
theorem c_X3_clear (l : Launch) (D : va_G) (tys : List (ClassId × FieldType)) (cI : ClassId) (ht0 : tys[0]? = some (cI, .int)) (u0 u1 u2 u3 u4 u5 u6 u7 u8 u9 u10 u11 u12 u13 u14 np : Nat) (th : Int32) (fi le ac se hh ou cover sun rw fo wet aw : Nat → Int32) (hr : Nat) (ah : Int32) (Z : va_W) : gM l yX3_clear wsX3_clear ({ frames := 0, cells := 0, slots := 0, locals := 0 } : Room) D tys [.ref u0] ((u0, .inr (3, [.int th, .int (nI np), .ref u1, .ref u2, .ref u3, .ref u4, .ref u5, .ref u6, .ref u7, .ref u8, .ref u9, .ref u10, .ref u11, .ref u13])) :: (u1, .inl (cI, 100, .inl (fi))) :: (u2, .inl (cI, 100, .inl (le))) :: (u3, .inl (cI, 100, .inl (ac))) :: (u4, .inl (cI, 100, .inl (se))) :: (u5, .inl (cI, 100, .inl (hh))) :: (u6, .inl (cI, 100, .inl (ou))) :: (u7, .inl (cI, 80, .inl (cover))) :: (u8, .inl (cI, 8, .inl (sun))) :: (u9, .inl (cI, 80, .inl (rw))) :: (u10, .inl (cI, 80, .inl (fo))) :: (u11, .inr (2, [.int (nI hr), .ref u12, .ref u0])) :: (u12, .inl (cI, 80, .inl (wet))) :: (u13, .inr (2, [.int ah, .ref u14, .ref u0])) :: (u14, .inl (cI, 80, .inl (aw))) :: Z) (gIs none ((u0, .inr (3, [.int th, .int (nI np), .ref u1, .ref u2, .ref u3, .ref u4, .ref u5, .ref u6, .ref u7, .ref u8, .ref u9, .ref u10, .ref u11, .ref u13])) :: (u1, .inl (cI, 100, .inl (fi))) :: (u2, .inl (cI, 100, .inl (le))) :: (u3, .inl (cI, 100, .inl (ac))) :: (u4, .inl (cI, 100, .inl (se))) :: (u5, .inl (cI, 100, .inl (hh))) :: (u6, .inl (cI, 100, .inl (ou))) :: (u7, .inl (cI, 80, .inl (cover))) :: (u8, .inl (cI, 8, .inl (sun))) :: (u9, .inl (cI, 80, .inl (rw))) :: (u10, .inl (cI, 80, .inl (fun _ => 0))) :: (u11, .inr (2, [.int (nI hr), .ref u12, .ref u0])) :: (u12, .inl (cI, 80, .inl (wet))) :: (u13, .inr (2, [.int ah, .ref u14, .ref u0])) :: (u14, .inl (cI, 80, .inl (aw))) :: Z)) 0 0 := by
  refine gM_of (by decide +kernel) rfl (Nat.le_of_ble_eq_true rfl) ?_
  intro p e s m args below meth c A Q hin C hQ
  refine g_sub [0] (lv' := [(0, .ref u0)]) rfl ?_
  refine g_iconst (v := 0) C dX3_clear_0 (by decide) ?_
  refine g_istore_n (lv' := [(1, .int 0), (0, .ref u0)]) C dX3_clear_1 rfl (by decide) rfl ?_
  have lp2 : ∀ (n9 : Nat) (i : Nat) (g : Nat → Int32) (hg : ∀ c, c < i → g c = 0) (hi : i ≤ 80) (hn : 81 ≤ i + n9), G p l e ({ frames := 0, cells := 0, slots := 0, locals := 0 } : Room) s m args below meth c D A s.heap 2 0 0 Q 2 [(0, .ref u0), (1, .int (nI i))] [] ((u0, .inr (3, [.int th, .int (nI np), .ref u1, .ref u2, .ref u3, .ref u4, .ref u5, .ref u6, .ref u7, .ref u8, .ref u9, .ref u10, .ref u11, .ref u13])) :: (u1, .inl (cI, 100, .inl (fi))) :: (u2, .inl (cI, 100, .inl (le))) :: (u3, .inl (cI, 100, .inl (ac))) :: (u4, .inl (cI, 100, .inl (se))) :: (u5, .inl (cI, 100, .inl (hh))) :: (u6, .inl (cI, 100, .inl (ou))) :: (u7, .inl (cI, 80, .inl (cover))) :: (u8, .inl (cI, 8, .inl (sun))) :: (u9, .inl (cI, 80, .inl (rw))) :: (u10, .inl (cI, 80, .inl (g))) :: (u11, .inr (2, [.int (nI hr), .ref u12, .ref u0])) :: (u12, .inl (cI, 80, .inl (wet))) :: (u13, .inr (2, [.int ah, .ref u14, .ref u0])) :: (u14, .inl (cI, 80, .inl (aw))) :: Z) := by
    intro n9
    induction n9 with
    | zero =>
      intro i g hg hi hn
      exfalso; omega
    | succ n9 ih =>
      intro i g hg hi hn
      refine g_iload_n C dX3_clear_2 rfl 1 rfl ?_
      refine g_bipush (v := 80) C dX3_clear_3 (by decide) ?_
      refine g_icmp_ge (tgt := 21) C dX3_clear_5 (by decide) (fun c_1 => ?_) (fun c_1 => ?_)
      · skip
        rw [show (80 : Int32) = nI 80 from rfl, nI_leI (by omega) (by omega)] at c_1
        refine g_cong (g := fun _ => 0) (ws' := ((u0, .inr (3, [.int th, .int (nI np), .ref u1, .ref u2, .ref u3, .ref u4, .ref u5, .ref u6, .ref u7, .ref u8, .ref u9, .ref u10, .ref u11, .ref u13])) :: (u1, .inl (cI, 100, .inl (fi))) :: (u2, .inl (cI, 100, .inl (le))) :: (u3, .inl (cI, 100, .inl (ac))) :: (u4, .inl (cI, 100, .inl (se))) :: (u5, .inl (cI, 100, .inl (hh))) :: (u6, .inl (cI, 100, .inl (ou))) :: (u7, .inl (cI, 80, .inl (cover))) :: (u8, .inl (cI, 8, .inl (sun))) :: (u9, .inl (cI, 80, .inl (rw))) :: (u10, .inl (cI, 80, .inl (fun _ => 0))) :: (u11, .inr (2, [.int (nI hr), .ref u12, .ref u0])) :: (u12, .inl (cI, 80, .inl (wet))) :: (u13, .inr (2, [.int ah, .ref u14, .ref u0])) :: (u14, .inl (cI, 80, .inl (aw))) :: Z)) 10 rfl (fun j hj => hg j (by omega)) rfl ?_
        refine g_vret C hQ (Nat.le_of_ble_eq_true rfl) (Nat.le_of_ble_eq_true rfl) dX3_clear_21 ?_
        exact ⟨rfl, rfl⟩
      · skip
        rw [show (80 : Int32) = nI 80 from rfl, nI_leI (by omega) (by omega)] at c_1
        refine g_aload_n C dX3_clear_8 rfl 0 rfl ?_
        refine g_get (v := .ref u10) (ci := 3) (Cn := RX3) (T := TX3) (N := 14) C k_X3_clear_inX3 gm0 rfl 11 (by decide) k_X3_clear_1 rfl rfl dX3_clear_9 ?_
        refine g_iload_n C dX3_clear_12 rfl 1 rfl ?_
        refine g_iconst (v := 0) C dX3_clear_13 (by decide) ?_
        refine g_iast (ws' := ((u0, .inr (3, [.int th, .int (nI np), .ref u1, .ref u2, .ref u3, .ref u4, .ref u5, .ref u6, .ref u7, .ref u8, .ref u9, .ref u10, .ref u11, .ref u13])) :: (u1, .inl (cI, 100, .inl (fi))) :: (u2, .inl (cI, 100, .inl (le))) :: (u3, .inl (cI, 100, .inl (ac))) :: (u4, .inl (cI, 100, .inl (se))) :: (u5, .inl (cI, 100, .inl (hh))) :: (u6, .inl (cI, 100, .inl (ou))) :: (u7, .inl (cI, 80, .inl (cover))) :: (u8, .inl (cI, 8, .inl (sun))) :: (u9, .inl (cI, 80, .inl (rw))) :: (u10, .inl (cI, 80, .inl (upd g (nI i).toNatClampNeg 0))) :: (u11, .inr (2, [.int (nI hr), .ref u12, .ref u0])) :: (u12, .inl (cI, 80, .inl (wet))) :: (u13, .inr (2, [.int ah, .ref u14, .ref u0])) :: (u14, .inl (cI, 80, .inl (aw))) :: Z)) C 10 0 rfl ht0 (vp_in_nI (by omega) (by omega)) dX3_clear_14 rfl ?_
        rw [nI_clamp (n := i) (by omega)]
        refine g_iinc (v := nI (i + 1)) (lv' := [(1, .int (nI (i + 1))), (0, .ref u0)]) C dX3_clear_15 1 rfl (by exact nI_add _ 1) (by decide) rfl ?_
        refine g_goto (tgt := 2) C dX3_clear_18 (by decide) ?_
        refine g_sub [1, 0] (lv' := [(0, .ref u0), (1, .int (nI (i + 1)))]) rfl ?_
        exact ih (i + 1) _ (upd_z hg) (by omega) (by omega)
  refine g_sub [1, 0] (lv' := [(0, .ref u0), (1, .int 0)]) rfl ?_
  exact lp2 81 0 fo (fun c hc => absurd hc (Nat.not_lt_zero c)) (by omega) (by omega)

theorem k_X3_coverBy_inX3 : ∀ w ∈ wsX30, w ∈ wsX3_coverBy := by decide +kernel
theorem k_X3_coverBy_1 : Cond.fieldLink RX3 16 "WetMosaicModel" "across" "[I" ∈ wsX3_coverBy := by decide +kernel
theorem k_X3_coverBy_2 : Cond.fieldLink RX3 13 "WetMosaicModel" "length" "[I" ∈ wsX3_coverBy := by decide +kernel
theorem k_X3_coverBy_3 : Cond.fieldLink RX3 28 "WetMosaicModel" "cover" "[I" ∈ wsX3_coverBy := by decide +kernel
theorem k_X3_coverBy_4 : Cond.fieldLink RX3 9 "WetMosaicModel" "first" "[I" ∈ wsX3_coverBy := by decide +kernel
set_option maxHeartbeats 4000000 in
set_option maxRecDepth 100000 in
theorem c_X3_coverBy (l : Launch) (D : va_G) (tys : List (ClassId × FieldType)) (cI : ClassId) (ht0 : tys[0]? = some (cI, .int)) (u0 u1 u2 u3 u4 u5 u6 u7 u8 u9 u10 u11 u12 u13 u14 np : Nat) (th : Int32) (fi le ac se hh ou cover sun rw fo wet aw : Nat → Int32) (hr : Nat) (ah : Int32) (Z : va_W) (k : Nat) (p9 : Pd) (hk : k < 100) (h_fi : fi k = nI (10 * qy p9 + qx p9)) (h_le : le k = nI (ql p9)) (h_ac : ac k = gz (qc p9)) (hg : Pg p9) (v : Int32) : gM l yX3_coverBy wsX3_coverBy ({ frames := 0, cells := 0, slots := 0, locals := 0 } : Room) D tys [.ref u0, .int (nI k), .int v] ((u0, .inr (3, [.int th, .int (nI np), .ref u1, .ref u2, .ref u3, .ref u4, .ref u5, .ref u6, .ref u7, .ref u8, .ref u9, .ref u10, .ref u11, .ref u13])) :: (u1, .inl (cI, 100, .inl (fi))) :: (u2, .inl (cI, 100, .inl (le))) :: (u3, .inl (cI, 100, .inl (ac))) :: (u4, .inl (cI, 100, .inl (se))) :: (u5, .inl (cI, 100, .inl (hh))) :: (u6, .inl (cI, 100, .inl (ou))) :: (u7, .inl (cI, 80, .inl (cover))) :: (u8, .inl (cI, 8, .inl (sun))) :: (u9, .inl (cI, 80, .inl (rw))) :: (u10, .inl (cI, 80, .inl (fo))) :: (u11, .inr (2, [.int (nI hr), .ref u12, .ref u0])) :: (u12, .inl (cI, 80, .inl (wet))) :: (u13, .inr (2, [.int ah, .ref u14, .ref u0])) :: (u14, .inl (cI, 80, .inl (aw))) :: Z) (gIs none ((u0, .inr (3, [.int th, .int (nI np), .ref u1, .ref u2, .ref u3, .ref u4, .ref u5, .ref u6, .ref u7, .ref u8, .ref u9, .ref u10, .ref u11, .ref u13])) :: (u1, .inl (cI, 100, .inl (fi))) :: (u2, .inl (cI, 100, .inl (le))) :: (u3, .inl (cI, 100, .inl (ac))) :: (u4, .inl (cI, 100, .inl (se))) :: (u5, .inl (cI, 100, .inl (hh))) :: (u6, .inl (cI, 100, .inl (ou))) :: (u7, .inl (cI, 80, .inl (setL cover (pcl p9) v (ql p9)))) :: (u8, .inl (cI, 8, .inl (sun))) :: (u9, .inl (cI, 80, .inl (rw))) :: (u10, .inl (cI, 80, .inl (fo))) :: (u11, .inr (2, [.int (nI hr), .ref u12, .ref u0])) :: (u12, .inl (cI, 80, .inl (wet))) :: (u13, .inr (2, [.int ah, .ref u14, .ref u0])) :: (u14, .inl (cI, 80, .inl (aw))) :: Z)) 0 0 := by
  refine gM_of (by decide +kernel) rfl (Nat.le_of_ble_eq_true rfl) ?_
  intro p e s m args below meth c A Q hin C hQ
  refine g_sub [0, 1, 2] (lv' := [(0, .ref u0), (1, .int (nI k)), (2, .int v)]) rfl ?_
  obtain ⟨hg1, hg2, hg3, hg4, hc0⟩ := hg
  have hc : ∀ j, j < ql p9 → pcl p9 j < 80 := hc0
  refine g_aload_n C dX3_coverBy_0 rfl 0 rfl ?_
  refine g_get (v := .ref u3) (ci := 3) (Cn := RX3) (T := TX3) (N := 14) C k_X3_coverBy_inX3 gm0 rfl 4 (by decide) k_X3_coverBy_1 rfl rfl dX3_coverBy_1 ?_
  refine g_iload_n C dX3_coverBy_4 rfl 1 rfl ?_
  refine g_iald C 0 (gmT (gmT (gmT gm0))) ht0 (vp_in_nI (by omega) (by omega)) dX3_coverBy_5 ?_
  refine g_eqi (x := ac (nI k).toNatClampNeg) (y := gz (qc p9)) (by rw [nI_clamp (by omega)]; exact h_ac) ?_
  refine g_iconst (v := 1) C dX3_coverBy_6 (by decide) ?_
  refine g_icmp_ne (tgt := 14) C dX3_coverBy_7 (by decide) (fun c_1 => ?_) (fun c_1 => ?_)
  · skip
    replace c_1 := gzn1.mp c_1
    refine g_bipush (v := 10) C dX3_coverBy_14 (by decide) ?_
    refine g_istore_n (lv' := [(3, .int 10), (0, .ref u0), (1, .int (nI k)), (2, .int v)]) C dX3_coverBy_16 rfl (by decide) rfl ?_
    refine g_iconst (v := 0) C dX3_coverBy_17 (by decide) ?_
    refine g_istore (lv' := [(4, .int 0), (3, .int 10), (0, .ref u0), (1, .int (nI k)), (2, .int v)]) C dX3_coverBy_18 (by decide) rfl ?_
    have lp20 : ∀ (n9 : Nat) (j : Nat) (g : Nat → Int32) (hgg : g = setL cover (pcl p9) v j) (hi : j ≤ ql p9) (hn : ql p9 + 1 ≤ j + n9), G p l e ({ frames := 0, cells := 0, slots := 0, locals := 0 } : Room) s m args below meth c D A s.heap 5 0 0 Q 20 [(0, .ref u0), (1, .int (nI k)), (2, .int v), (3, .int 10), (4, .int (nI j))] [] ((u0, .inr (3, [.int th, .int (nI np), .ref u1, .ref u2, .ref u3, .ref u4, .ref u5, .ref u6, .ref u7, .ref u8, .ref u9, .ref u10, .ref u11, .ref u13])) :: (u1, .inl (cI, 100, .inl (fi))) :: (u2, .inl (cI, 100, .inl (le))) :: (u3, .inl (cI, 100, .inl (ac))) :: (u4, .inl (cI, 100, .inl (se))) :: (u5, .inl (cI, 100, .inl (hh))) :: (u6, .inl (cI, 100, .inl (ou))) :: (u7, .inl (cI, 80, .inl (g))) :: (u8, .inl (cI, 8, .inl (sun))) :: (u9, .inl (cI, 80, .inl (rw))) :: (u10, .inl (cI, 80, .inl (fo))) :: (u11, .inr (2, [.int (nI hr), .ref u12, .ref u0])) :: (u12, .inl (cI, 80, .inl (wet))) :: (u13, .inr (2, [.int ah, .ref u14, .ref u0])) :: (u14, .inl (cI, 80, .inl (aw))) :: Z) := by
      intro n9
      induction n9 with
      | zero =>
        intro j g hgg hi hn
        exfalso; omega
      | succ n9 ih =>
        intro j g hgg hi hn
        refine g_iload C dX3_coverBy_20 4 rfl ?_
        refine g_aload_n C dX3_coverBy_22 rfl 0 rfl ?_
        refine g_get (v := .ref u2) (ci := 3) (Cn := RX3) (T := TX3) (N := 14) C k_X3_coverBy_inX3 gm0 rfl 3 (by decide) k_X3_coverBy_2 rfl rfl dX3_coverBy_23 ?_
        refine g_iload_n C dX3_coverBy_26 rfl 1 rfl ?_
        refine g_iald C 0 (gmT (gmT gm0)) ht0 (vp_in_nI (by omega) (by omega)) dX3_coverBy_27 ?_
        refine g_eqi (x := le (nI k).toNatClampNeg) (y := nI (ql p9)) (by rw [nI_clamp (by omega)]; exact h_le) ?_
        refine g_icmp_ge (tgt := 54) C dX3_coverBy_28 (by decide) (fun c_2 => ?_) (fun c_2 => ?_)
        · skip
          rw [nI_leI (by omega) (by omega)] at c_2
          refine g_vret C hQ (Nat.le_of_ble_eq_true rfl) (Nat.le_of_ble_eq_true rfl) dX3_coverBy_54 ?_
          have e : j = ql p9 := by omega
          exact ⟨rfl, by rw [hgg, e]⟩
        · skip
          rw [nI_leI (by omega) (by omega)] at c_2
          refine g_aload_n C dX3_coverBy_31 rfl 0 rfl ?_
          refine g_get (v := .ref u7) (ci := 3) (Cn := RX3) (T := TX3) (N := 14) C k_X3_coverBy_inX3 gm0 rfl 8 (by decide) k_X3_coverBy_3 rfl rfl dX3_coverBy_32 ?_
          refine g_aload_n C dX3_coverBy_35 rfl 0 rfl ?_
          refine g_get (v := .ref u1) (ci := 3) (Cn := RX3) (T := TX3) (N := 14) C k_X3_coverBy_inX3 gm0 rfl 2 (by decide) k_X3_coverBy_4 rfl rfl dX3_coverBy_36 ?_
          refine g_iload_n C dX3_coverBy_39 rfl 1 rfl ?_
          refine g_iald C 0 (gmT gm0) ht0 (vp_in_nI (by omega) (by omega)) dX3_coverBy_40 ?_
          refine g_eqi (x := fi (nI k).toNatClampNeg) (y := nI (10 * qy p9 + qx p9)) (by rw [nI_clamp (by omega)]; exact h_fi) ?_
          refine g_iload C dX3_coverBy_41 4 rfl ?_
          refine g_iload_n C dX3_coverBy_43 rfl 3 rfl ?_
          refine g_imul C dX3_coverBy_44 ?_
          refine g_iadd C dX3_coverBy_45 ?_
          refine g_eqi (x := (nI (10 * qy p9 + qx p9)) + ((nI j) * 10)) (y := nI (pcl p9 j)) (by first | exact pclA (by assumption) | exact pclB (by assumption)) ?_
          refine g_iload_n C dX3_coverBy_46 rfl 2 rfl ?_
          refine g_iast (ws' := ((u0, .inr (3, [.int th, .int (nI np), .ref u1, .ref u2, .ref u3, .ref u4, .ref u5, .ref u6, .ref u7, .ref u8, .ref u9, .ref u10, .ref u11, .ref u13])) :: (u1, .inl (cI, 100, .inl (fi))) :: (u2, .inl (cI, 100, .inl (le))) :: (u3, .inl (cI, 100, .inl (ac))) :: (u4, .inl (cI, 100, .inl (se))) :: (u5, .inl (cI, 100, .inl (hh))) :: (u6, .inl (cI, 100, .inl (ou))) :: (u7, .inl (cI, 80, .inl (upd g (nI (pcl p9 j)).toNatClampNeg v))) :: (u8, .inl (cI, 8, .inl (sun))) :: (u9, .inl (cI, 80, .inl (rw))) :: (u10, .inl (cI, 80, .inl (fo))) :: (u11, .inr (2, [.int (nI hr), .ref u12, .ref u0])) :: (u12, .inl (cI, 80, .inl (wet))) :: (u13, .inr (2, [.int ah, .ref u14, .ref u0])) :: (u14, .inl (cI, 80, .inl (aw))) :: Z)) C 7 0 rfl ht0 (vp_in_nI (hc j (by omega)) (by omega)) dX3_coverBy_47 rfl ?_
          rw [nI_clamp (n := (pcl p9 j)) (Nat.lt_trans (hc j (by omega)) (by decide))]
          refine g_iinc (v := nI (j + 1)) (lv' := [(4, .int (nI (j + 1))), (0, .ref u0), (1, .int (nI k)), (2, .int v), (3, .int 10)]) C dX3_coverBy_48 4 rfl (by exact nI_add _ 1) (by decide) rfl ?_
          refine g_goto (tgt := 20) C dX3_coverBy_51 (by decide) ?_
          refine g_sub [1, 2, 3, 4, 0] (lv' := [(0, .ref u0), (1, .int (nI k)), (2, .int v), (3, .int 10), (4, .int (nI (j + 1)))]) rfl ?_
          exact ih (j + 1) _ (by rw [hgg]; rfl) (by omega) (by omega)
    refine g_sub [2, 3, 4, 1, 0] (lv' := [(0, .ref u0), (1, .int (nI k)), (2, .int v), (3, .int 10), (4, .int 0)]) rfl ?_
    exact lp20 (ql p9 + 1) 0 cover rfl (by omega) (by omega)
  · skip
    replace c_1 := gz1.mp c_1
    refine g_iconst (v := 1) C dX3_coverBy_10 (by decide) ?_
    refine g_goto (tgt := 16) C dX3_coverBy_11 (by decide) ?_
    refine g_istore_n (lv' := [(3, .int 1), (0, .ref u0), (1, .int (nI k)), (2, .int v)]) C dX3_coverBy_16 rfl (by decide) rfl ?_
    refine g_iconst (v := 0) C dX3_coverBy_17 (by decide) ?_
    refine g_istore (lv' := [(4, .int 0), (3, .int 1), (0, .ref u0), (1, .int (nI k)), (2, .int v)]) C dX3_coverBy_18 (by decide) rfl ?_
    have lp20_3 : ∀ (n9 : Nat) (j : Nat) (g : Nat → Int32) (hgg : g = setL cover (pcl p9) v j) (hi : j ≤ ql p9) (hn : ql p9 + 1 ≤ j + n9), G p l e ({ frames := 0, cells := 0, slots := 0, locals := 0 } : Room) s m args below meth c D A s.heap 5 0 0 Q 20 [(0, .ref u0), (1, .int (nI k)), (2, .int v), (3, .int 1), (4, .int (nI j))] [] ((u0, .inr (3, [.int th, .int (nI np), .ref u1, .ref u2, .ref u3, .ref u4, .ref u5, .ref u6, .ref u7, .ref u8, .ref u9, .ref u10, .ref u11, .ref u13])) :: (u1, .inl (cI, 100, .inl (fi))) :: (u2, .inl (cI, 100, .inl (le))) :: (u3, .inl (cI, 100, .inl (ac))) :: (u4, .inl (cI, 100, .inl (se))) :: (u5, .inl (cI, 100, .inl (hh))) :: (u6, .inl (cI, 100, .inl (ou))) :: (u7, .inl (cI, 80, .inl (g))) :: (u8, .inl (cI, 8, .inl (sun))) :: (u9, .inl (cI, 80, .inl (rw))) :: (u10, .inl (cI, 80, .inl (fo))) :: (u11, .inr (2, [.int (nI hr), .ref u12, .ref u0])) :: (u12, .inl (cI, 80, .inl (wet))) :: (u13, .inr (2, [.int ah, .ref u14, .ref u0])) :: (u14, .inl (cI, 80, .inl (aw))) :: Z) := by
      intro n9
      induction n9 with
      | zero =>
        intro j g hgg hi hn
        exfalso; omega
      | succ n9 ih =>
        intro j g hgg hi hn
        refine g_iload C dX3_coverBy_20 4 rfl ?_
        refine g_aload_n C dX3_coverBy_22 rfl 0 rfl ?_
        refine g_get (v := .ref u2) (ci := 3) (Cn := RX3) (T := TX3) (N := 14) C k_X3_coverBy_inX3 gm0 rfl 3 (by decide) k_X3_coverBy_2 rfl rfl dX3_coverBy_23 ?_
        refine g_iload_n C dX3_coverBy_26 rfl 1 rfl ?_
        refine g_iald C 0 (gmT (gmT gm0)) ht0 (vp_in_nI (by omega) (by omega)) dX3_coverBy_27 ?_
        refine g_eqi (x := le (nI k).toNatClampNeg) (y := nI (ql p9)) (by rw [nI_clamp (by omega)]; exact h_le) ?_
        refine g_icmp_ge (tgt := 54) C dX3_coverBy_28 (by decide) (fun c_4 => ?_) (fun c_4 => ?_)
        · skip
          rw [nI_leI (by omega) (by omega)] at c_4
          refine g_vret C hQ (Nat.le_of_ble_eq_true rfl) (Nat.le_of_ble_eq_true rfl) dX3_coverBy_54 ?_
          have e : j = ql p9 := by omega
          exact ⟨rfl, by rw [hgg, e]⟩
        · skip
          rw [nI_leI (by omega) (by omega)] at c_4
          refine g_aload_n C dX3_coverBy_31 rfl 0 rfl ?_
          refine g_get (v := .ref u7) (ci := 3) (Cn := RX3) (T := TX3) (N := 14) C k_X3_coverBy_inX3 gm0 rfl 8 (by decide) k_X3_coverBy_3 rfl rfl dX3_coverBy_32 ?_
          refine g_aload_n C dX3_coverBy_35 rfl 0 rfl ?_
          refine g_get (v := .ref u1) (ci := 3) (Cn := RX3) (T := TX3) (N := 14) C k_X3_coverBy_inX3 gm0 rfl 2 (by decide) k_X3_coverBy_4 rfl rfl dX3_coverBy_36 ?_
          refine g_iload_n C dX3_coverBy_39 rfl 1 rfl ?_
          refine g_iald C 0 (gmT gm0) ht0 (vp_in_nI (by omega) (by omega)) dX3_coverBy_40 ?_
          refine g_eqi (x := fi (nI k).toNatClampNeg) (y := nI (10 * qy p9 + qx p9)) (by rw [nI_clamp (by omega)]; exact h_fi) ?_
          refine g_iload C dX3_coverBy_41 4 rfl ?_
          refine g_iload_n C dX3_coverBy_43 rfl 3 rfl ?_
          refine g_imul C dX3_coverBy_44 ?_
          refine g_iadd C dX3_coverBy_45 ?_
          refine g_eqi (x := (nI (10 * qy p9 + qx p9)) + ((nI j) * 1)) (y := nI (pcl p9 j)) (by first | exact pclA (by assumption) | exact pclB (by assumption)) ?_
          refine g_iload_n C dX3_coverBy_46 rfl 2 rfl ?_
          refine g_iast (ws' := ((u0, .inr (3, [.int th, .int (nI np), .ref u1, .ref u2, .ref u3, .ref u4, .ref u5, .ref u6, .ref u7, .ref u8, .ref u9, .ref u10, .ref u11, .ref u13])) :: (u1, .inl (cI, 100, .inl (fi))) :: (u2, .inl (cI, 100, .inl (le))) :: (u3, .inl (cI, 100, .inl (ac))) :: (u4, .inl (cI, 100, .inl (se))) :: (u5, .inl (cI, 100, .inl (hh))) :: (u6, .inl (cI, 100, .inl (ou))) :: (u7, .inl (cI, 80, .inl (upd g (nI (pcl p9 j)).toNatClampNeg v))) :: (u8, .inl (cI, 8, .inl (sun))) :: (u9, .inl (cI, 80, .inl (rw))) :: (u10, .inl (cI, 80, .inl (fo))) :: (u11, .inr (2, [.int (nI hr), .ref u12, .ref u0])) :: (u12, .inl (cI, 80, .inl (wet))) :: (u13, .inr (2, [.int ah, .ref u14, .ref u0])) :: (u14, .inl (cI, 80, .inl (aw))) :: Z)) C 7 0 rfl ht0 (vp_in_nI (hc j (by omega)) (by omega)) dX3_coverBy_47 rfl ?_
          rw [nI_clamp (n := (pcl p9 j)) (Nat.lt_trans (hc j (by omega)) (by decide))]
          refine g_iinc (v := nI (j + 1)) (lv' := [(4, .int (nI (j + 1))), (0, .ref u0), (1, .int (nI k)), (2, .int v), (3, .int 1)]) C dX3_coverBy_48 4 rfl (by exact nI_add _ 1) (by decide) rfl ?_
          refine g_goto (tgt := 20) C dX3_coverBy_51 (by decide) ?_
          refine g_sub [1, 2, 3, 4, 0] (lv' := [(0, .ref u0), (1, .int (nI k)), (2, .int v), (3, .int 1), (4, .int (nI (j + 1)))]) rfl ?_
          exact ih (j + 1) _ (by rw [hgg]; rfl) (by omega) (by omega)
    refine g_sub [2, 3, 4, 1, 0] (lv' := [(0, .ref u0), (1, .int (nI k)), (2, .int v), (3, .int 1), (4, .int 0)]) rfl ?_
    exact lp20_3 (ql p9 + 1) 0 cover rfl (by omega) (by omega)

theorem k_X3_change_true_inX3 : ∀ w ∈ wsX30, w ∈ wsX3_change := by decide +kernel
theorem k_X3_change_true_1 : Cond.fieldLink RX3 16 "WetMosaicModel" "across" "[I" ∈ wsX3_change := by decide +kernel
theorem k_X3_change_true_2 : Cond.fieldLink RX3 13 "WetMosaicModel" "length" "[I" ∈ wsX3_change := by decide +kernel
theorem k_X3_change_true_3 : Cond.fieldLink RX3 9 "WetMosaicModel" "first" "[I" ∈ wsX3_change := by decide +kernel
theorem k_X3_change_true_4 : Cond.fieldLink RX3 45 "WetMosaicModel" "s" "LWetMosaicModel$State;" ∈ wsX3_change := by decide +kernel
theorem k_X3_change_true_inX2 : ∀ w ∈ wsX20, w ∈ wsX3_change := by decide +kernel
set_option maxHeartbeats 4000000 in
set_option maxRecDepth 100000 in
theorem c_X3_change_true (l : Launch) (D : va_G) (tys : List (ClassId × FieldType)) (cI : ClassId) (ht0 : tys[0]? = some (cI, .int)) (u0 u1 u2 u3 u4 u5 u6 u7 u8 u9 u10 u11 u12 u13 u14 np : Nat) (th : Int32) (fi le ac se hh ou cover sun rw fo wet aw : Nat → Int32) (hr : Nat) (ah : Int32) (Z : va_W) (k : Nat) (p9 : Pd) (hk : k < 100) (h_fi : fi k = nI (10 * qy p9 + qx p9)) (h_le : le k = nI (ql p9)) (h_ac : ac k = gz (qc p9)) (hg : Pg p9) : gM l yX3_change wsX3_change ({ frames := 0, cells := 0, slots := 0, locals := 0 } : Room) D tys [.ref u0, .int (nI k), .int 1] ((u0, .inr (3, [.int th, .int (nI np), .ref u1, .ref u2, .ref u3, .ref u4, .ref u5, .ref u6, .ref u7, .ref u8, .ref u9, .ref u10, .ref u11, .ref u13])) :: (u1, .inl (cI, 100, .inl (fi))) :: (u2, .inl (cI, 100, .inl (le))) :: (u3, .inl (cI, 100, .inl (ac))) :: (u4, .inl (cI, 100, .inl (se))) :: (u5, .inl (cI, 100, .inl (hh))) :: (u6, .inl (cI, 100, .inl (ou))) :: (u7, .inl (cI, 80, .inl (cover))) :: (u8, .inl (cI, 8, .inl (sun))) :: (u9, .inl (cI, 80, .inl (rw))) :: (u10, .inl (cI, 80, .inl (fo))) :: (u11, .inr (2, [.int (nI hr), .ref u12, .ref u0])) :: (u12, .inl (cI, 80, .inl (wet))) :: (u13, .inr (2, [.int ah, .ref u14, .ref u0])) :: (u14, .inl (cI, 80, .inl (aw))) :: Z) (gIs none ((u0, .inr (3, [.int th, .int (nI np), .ref u1, .ref u2, .ref u3, .ref u4, .ref u5, .ref u6, .ref u7, .ref u8, .ref u9, .ref u10, .ref u11, .ref u13])) :: (u1, .inl (cI, 100, .inl (fi))) :: (u2, .inl (cI, 100, .inl (le))) :: (u3, .inl (cI, 100, .inl (ac))) :: (u4, .inl (cI, 100, .inl (se))) :: (u5, .inl (cI, 100, .inl (hh))) :: (u6, .inl (cI, 100, .inl (ou))) :: (u7, .inl (cI, 80, .inl (cover))) :: (u8, .inl (cI, 8, .inl (sun))) :: (u9, .inl (cI, 80, .inl (rw))) :: (u10, .inl (cI, 80, .inl (fo))) :: (u11, .inr (2, [.int (nI hr), .ref u12, .ref u0])) :: (u12, .inl (cI, 80, .inl (setL wet (pcl p9) (-1) (ql p9)))) :: (u13, .inr (2, [.int ah, .ref u14, .ref u0])) :: (u14, .inl (cI, 80, .inl (aw))) :: Z)) 0 0 := by
  refine gM_of (by decide +kernel) rfl (Nat.le_of_ble_eq_true rfl) ?_
  intro p e s m args below meth c A Q hin C hQ
  refine g_sub [0, 1, 2] (lv' := [(0, .ref u0), (1, .int (nI k)), (2, .int 1)]) rfl ?_
  obtain ⟨hg1, hg2, hg3, hg4, hc0⟩ := hg
  have hc : ∀ j, j < ql p9 → pcl p9 j < 80 := hc0
  refine g_aload_n C dX3_change_0 rfl 0 rfl ?_
  refine g_get (v := .ref u3) (ci := 3) (Cn := RX3) (T := TX3) (N := 14) C k_X3_change_true_inX3 gm0 rfl 4 (by decide) k_X3_change_true_1 rfl rfl dX3_change_1 ?_
  refine g_iload_n C dX3_change_4 rfl 1 rfl ?_
  refine g_iald C 0 (gmT (gmT (gmT gm0))) ht0 (vp_in_nI (by omega) (by omega)) dX3_change_5 ?_
  refine g_eqi (x := ac (nI k).toNatClampNeg) (y := gz (qc p9)) (by rw [nI_clamp (by omega)]; exact h_ac) ?_
  refine g_iconst (v := 1) C dX3_change_6 (by decide) ?_
  refine g_icmp_ne (tgt := 14) C dX3_change_7 (by decide) (fun c_1 => ?_) (fun c_1 => ?_)
  · skip
    replace c_1 := gzn1.mp c_1
    refine g_bipush (v := 10) C dX3_change_14 (by decide) ?_
    refine g_istore_n (lv' := [(3, .int 10), (0, .ref u0), (1, .int (nI k)), (2, .int 1)]) C dX3_change_16 rfl (by decide) rfl ?_
    refine g_iconst (v := 0) C dX3_change_17 (by decide) ?_
    refine g_istore (lv' := [(4, .int 0), (3, .int 10), (0, .ref u0), (1, .int (nI k)), (2, .int 1)]) C dX3_change_18 (by decide) rfl ?_
    have lp20_2 : ∀ (n9 : Nat) (j : Nat) (g : Nat → Int32) (hgg : g = setL wet (pcl p9) (-1) j) (hi : j ≤ ql p9) (hn : ql p9 + 1 ≤ j + n9), G p l e ({ frames := 0, cells := 0, slots := 0, locals := 0 } : Room) s m args below meth c D A s.heap 6 0 0 Q 20 [(0, .ref u0), (1, .int (nI k)), (2, .int 1), (3, .int 10), (4, .int (nI j))] [] ((u0, .inr (3, [.int th, .int (nI np), .ref u1, .ref u2, .ref u3, .ref u4, .ref u5, .ref u6, .ref u7, .ref u8, .ref u9, .ref u10, .ref u11, .ref u13])) :: (u1, .inl (cI, 100, .inl (fi))) :: (u2, .inl (cI, 100, .inl (le))) :: (u3, .inl (cI, 100, .inl (ac))) :: (u4, .inl (cI, 100, .inl (se))) :: (u5, .inl (cI, 100, .inl (hh))) :: (u6, .inl (cI, 100, .inl (ou))) :: (u7, .inl (cI, 80, .inl (cover))) :: (u8, .inl (cI, 8, .inl (sun))) :: (u9, .inl (cI, 80, .inl (rw))) :: (u10, .inl (cI, 80, .inl (fo))) :: (u11, .inr (2, [.int (nI hr), .ref u12, .ref u0])) :: (u12, .inl (cI, 80, .inl (g))) :: (u13, .inr (2, [.int ah, .ref u14, .ref u0])) :: (u14, .inl (cI, 80, .inl (aw))) :: Z) := by
      intro n9
      induction n9 with
      | zero =>
        intro j g hgg hi hn
        exfalso; omega
      | succ n9 ih =>
        intro j g hgg hi hn
        refine g_iload C dX3_change_20 4 rfl ?_
        refine g_aload_n C dX3_change_22 rfl 0 rfl ?_
        refine g_get (v := .ref u2) (ci := 3) (Cn := RX3) (T := TX3) (N := 14) C k_X3_change_true_inX3 gm0 rfl 3 (by decide) k_X3_change_true_2 rfl rfl dX3_change_23 ?_
        refine g_iload_n C dX3_change_26 rfl 1 rfl ?_
        refine g_iald C 0 (gmT (gmT gm0)) ht0 (vp_in_nI (by omega) (by omega)) dX3_change_27 ?_
        refine g_eqi (x := le (nI k).toNatClampNeg) (y := nI (ql p9)) (by rw [nI_clamp (by omega)]; exact h_le) ?_
        refine g_icmp_ge (tgt := 80) C dX3_change_28 (by decide) (fun c_3 => ?_) (fun c_3 => ?_)
        · skip
          rw [nI_leI (by omega) (by omega)] at c_3
          refine g_vret C hQ (Nat.le_of_ble_eq_true rfl) (Nat.le_of_ble_eq_true rfl) dX3_change_80 ?_
          have e : j = ql p9 := by omega
          exact ⟨rfl, by rw [hgg, e]⟩
        · skip
          rw [nI_leI (by omega) (by omega)] at c_3
          refine g_aload_n C dX3_change_31 rfl 0 rfl ?_
          refine g_get (v := .ref u1) (ci := 3) (Cn := RX3) (T := TX3) (N := 14) C k_X3_change_true_inX3 gm0 rfl 2 (by decide) k_X3_change_true_3 rfl rfl dX3_change_32 ?_
          refine g_iload_n C dX3_change_35 rfl 1 rfl ?_
          refine g_iald C 0 (gmT gm0) ht0 (vp_in_nI (by omega) (by omega)) dX3_change_36 ?_
          refine g_eqi (x := fi (nI k).toNatClampNeg) (y := nI (10 * qy p9 + qx p9)) (by rw [nI_clamp (by omega)]; exact h_fi) ?_
          refine g_iload C dX3_change_37 4 rfl ?_
          refine g_iload_n C dX3_change_39 rfl 3 rfl ?_
          refine g_imul C dX3_change_40 ?_
          refine g_iadd C dX3_change_41 ?_
          refine g_eqi (x := (nI (10 * qy p9 + qx p9)) + ((nI j) * 10)) (y := nI (pcl p9 j)) (by first | exact pclA (by assumption) | exact pclB (by assumption)) ?_
          refine g_istore (lv' := [(5, .int (nI (pcl p9 j))), (0, .ref u0), (1, .int (nI k)), (2, .int 1), (3, .int 10), (4, .int (nI j))]) C dX3_change_42 (by decide) rfl ?_
          refine g_aload_n C dX3_change_44 rfl 1 rfl ?_
          refine g_get (v := .ref u11) (ci := 3) (Cn := RX3) (T := TX3) (N := 14) C k_X3_change_true_inX3 gm0 rfl 12 (by decide) k_X3_change_true_4 rfl rfl dX3_change_45 ?_
          refine g_getN (host := "WetMosaicModel") (v := .ref u12) (ci := 2) (Cn := RX2) (T := TX2) (N := 3) C k_X3_change_true_inX2 (gmT (gmT (gmT (gmT (gmT (gmT (gmT (gmT (gmT (gmT (gmT gm0))))))))))) rfl 1 (by decide) (by decide +kernel) rfl rfl dX3_change_48 ?_
          refine g_iload C dX3_change_51 0 rfl ?_
          refine g_iload_n C dX3_change_53 rfl 3 rfl ?_
          refine g_if_eq (tgt := 61) C dX3_change_54 (by decide) (fun c_4 => by exfalso; revert c_4; decide) (fun c_4 => ?_)
          refine g_iconst (v := (-1)) C dX3_change_57 (by decide) ?_
          refine g_goto (tgt := 73) C dX3_change_58 (by decide) ?_
          refine g_iast (ws' := ((u0, .inr (3, [.int th, .int (nI np), .ref u1, .ref u2, .ref u3, .ref u4, .ref u5, .ref u6, .ref u7, .ref u8, .ref u9, .ref u10, .ref u11, .ref u13])) :: (u1, .inl (cI, 100, .inl (fi))) :: (u2, .inl (cI, 100, .inl (le))) :: (u3, .inl (cI, 100, .inl (ac))) :: (u4, .inl (cI, 100, .inl (se))) :: (u5, .inl (cI, 100, .inl (hh))) :: (u6, .inl (cI, 100, .inl (ou))) :: (u7, .inl (cI, 80, .inl (cover))) :: (u8, .inl (cI, 8, .inl (sun))) :: (u9, .inl (cI, 80, .inl (rw))) :: (u10, .inl (cI, 80, .inl (fo))) :: (u11, .inr (2, [.int (nI hr), .ref u12, .ref u0])) :: (u12, .inl (cI, 80, .inl (upd g (nI (pcl p9 j)).toNatClampNeg (-1)))) :: (u13, .inr (2, [.int ah, .ref u14, .ref u0])) :: (u14, .inl (cI, 80, .inl (aw))) :: Z)) C 12 0 rfl ht0 (vp_in_nI (hc j (by omega)) (by omega)) dX3_change_73 rfl ?_
          rw [nI_clamp (n := (pcl p9 j)) (Nat.lt_trans (hc j (by omega)) (by decide))]
          refine g_iinc (v := nI (j + 1)) (lv' := [(4, .int (nI (j + 1))), (5, .int (nI (pcl p9 j))), (0, .ref u0), (1, .int (nI k)), (2, .int 1), (3, .int 10)]) C dX3_change_74 5 rfl (by exact nI_add _ 1) (by decide) rfl ?_
          refine g_goto (tgt := 20) C dX3_change_77 (by decide) ?_
          refine g_sub [2, 3, 4, 5, 0] (lv' := [(0, .ref u0), (1, .int (nI k)), (2, .int 1), (3, .int 10), (4, .int (nI (j + 1)))]) rfl ?_
          exact ih (j + 1) _ (by rw [hgg]; rfl) (by omega) (by omega)
    refine g_sub [2, 3, 4, 1, 0] (lv' := [(0, .ref u0), (1, .int (nI k)), (2, .int 1), (3, .int 10), (4, .int 0)]) rfl ?_
    exact lp20_2 (ql p9 + 1) 0 wet rfl (by omega) (by omega)
  · skip
    replace c_1 := gz1.mp c_1
    refine g_iconst (v := 1) C dX3_change_10 (by decide) ?_
    refine g_goto (tgt := 16) C dX3_change_11 (by decide) ?_
    refine g_istore_n (lv' := [(3, .int 1), (0, .ref u0), (1, .int (nI k)), (2, .int 1)]) C dX3_change_16 rfl (by decide) rfl ?_
    refine g_iconst (v := 0) C dX3_change_17 (by decide) ?_
    refine g_istore (lv' := [(4, .int 0), (3, .int 1), (0, .ref u0), (1, .int (nI k)), (2, .int 1)]) C dX3_change_18 (by decide) rfl ?_
    have lp20_5 : ∀ (n9 : Nat) (j : Nat) (g : Nat → Int32) (hgg : g = setL wet (pcl p9) (-1) j) (hi : j ≤ ql p9) (hn : ql p9 + 1 ≤ j + n9), G p l e ({ frames := 0, cells := 0, slots := 0, locals := 0 } : Room) s m args below meth c D A s.heap 6 0 0 Q 20 [(0, .ref u0), (1, .int (nI k)), (2, .int 1), (3, .int 1), (4, .int (nI j))] [] ((u0, .inr (3, [.int th, .int (nI np), .ref u1, .ref u2, .ref u3, .ref u4, .ref u5, .ref u6, .ref u7, .ref u8, .ref u9, .ref u10, .ref u11, .ref u13])) :: (u1, .inl (cI, 100, .inl (fi))) :: (u2, .inl (cI, 100, .inl (le))) :: (u3, .inl (cI, 100, .inl (ac))) :: (u4, .inl (cI, 100, .inl (se))) :: (u5, .inl (cI, 100, .inl (hh))) :: (u6, .inl (cI, 100, .inl (ou))) :: (u7, .inl (cI, 80, .inl (cover))) :: (u8, .inl (cI, 8, .inl (sun))) :: (u9, .inl (cI, 80, .inl (rw))) :: (u10, .inl (cI, 80, .inl (fo))) :: (u11, .inr (2, [.int (nI hr), .ref u12, .ref u0])) :: (u12, .inl (cI, 80, .inl (g))) :: (u13, .inr (2, [.int ah, .ref u14, .ref u0])) :: (u14, .inl (cI, 80, .inl (aw))) :: Z) := by
      intro n9
      induction n9 with
      | zero =>
        intro j g hgg hi hn
        exfalso; omega
      | succ n9 ih =>
        intro j g hgg hi hn
        refine g_iload C dX3_change_20 4 rfl ?_
        refine g_aload_n C dX3_change_22 rfl 0 rfl ?_
        refine g_get (v := .ref u2) (ci := 3) (Cn := RX3) (T := TX3) (N := 14) C k_X3_change_true_inX3 gm0 rfl 3 (by decide) k_X3_change_true_2 rfl rfl dX3_change_23 ?_
        refine g_iload_n C dX3_change_26 rfl 1 rfl ?_
        refine g_iald C 0 (gmT (gmT gm0)) ht0 (vp_in_nI (by omega) (by omega)) dX3_change_27 ?_
        refine g_eqi (x := le (nI k).toNatClampNeg) (y := nI (ql p9)) (by rw [nI_clamp (by omega)]; exact h_le) ?_
        refine g_icmp_ge (tgt := 80) C dX3_change_28 (by decide) (fun c_6 => ?_) (fun c_6 => ?_)
        · skip
          rw [nI_leI (by omega) (by omega)] at c_6
          refine g_vret C hQ (Nat.le_of_ble_eq_true rfl) (Nat.le_of_ble_eq_true rfl) dX3_change_80 ?_
          have e : j = ql p9 := by omega
          exact ⟨rfl, by rw [hgg, e]⟩
        · skip
          rw [nI_leI (by omega) (by omega)] at c_6
          refine g_aload_n C dX3_change_31 rfl 0 rfl ?_
          refine g_get (v := .ref u1) (ci := 3) (Cn := RX3) (T := TX3) (N := 14) C k_X3_change_true_inX3 gm0 rfl 2 (by decide) k_X3_change_true_3 rfl rfl dX3_change_32 ?_
          refine g_iload_n C dX3_change_35 rfl 1 rfl ?_
          refine g_iald C 0 (gmT gm0) ht0 (vp_in_nI (by omega) (by omega)) dX3_change_36 ?_
          refine g_eqi (x := fi (nI k).toNatClampNeg) (y := nI (10 * qy p9 + qx p9)) (by rw [nI_clamp (by omega)]; exact h_fi) ?_
          refine g_iload C dX3_change_37 4 rfl ?_
          refine g_iload_n C dX3_change_39 rfl 3 rfl ?_
          refine g_imul C dX3_change_40 ?_
          refine g_iadd C dX3_change_41 ?_
          refine g_eqi (x := (nI (10 * qy p9 + qx p9)) + ((nI j) * 1)) (y := nI (pcl p9 j)) (by first | exact pclA (by assumption) | exact pclB (by assumption)) ?_
          refine g_istore (lv' := [(5, .int (nI (pcl p9 j))), (0, .ref u0), (1, .int (nI k)), (2, .int 1), (3, .int 1), (4, .int (nI j))]) C dX3_change_42 (by decide) rfl ?_
          refine g_aload_n C dX3_change_44 rfl 1 rfl ?_
          refine g_get (v := .ref u11) (ci := 3) (Cn := RX3) (T := TX3) (N := 14) C k_X3_change_true_inX3 gm0 rfl 12 (by decide) k_X3_change_true_4 rfl rfl dX3_change_45 ?_
          refine g_getN (host := "WetMosaicModel") (v := .ref u12) (ci := 2) (Cn := RX2) (T := TX2) (N := 3) C k_X3_change_true_inX2 (gmT (gmT (gmT (gmT (gmT (gmT (gmT (gmT (gmT (gmT (gmT gm0))))))))))) rfl 1 (by decide) (by decide +kernel) rfl rfl dX3_change_48 ?_
          refine g_iload C dX3_change_51 0 rfl ?_
          refine g_iload_n C dX3_change_53 rfl 3 rfl ?_
          refine g_if_eq (tgt := 61) C dX3_change_54 (by decide) (fun c_7 => by exfalso; revert c_7; decide) (fun c_7 => ?_)
          refine g_iconst (v := (-1)) C dX3_change_57 (by decide) ?_
          refine g_goto (tgt := 73) C dX3_change_58 (by decide) ?_
          refine g_iast (ws' := ((u0, .inr (3, [.int th, .int (nI np), .ref u1, .ref u2, .ref u3, .ref u4, .ref u5, .ref u6, .ref u7, .ref u8, .ref u9, .ref u10, .ref u11, .ref u13])) :: (u1, .inl (cI, 100, .inl (fi))) :: (u2, .inl (cI, 100, .inl (le))) :: (u3, .inl (cI, 100, .inl (ac))) :: (u4, .inl (cI, 100, .inl (se))) :: (u5, .inl (cI, 100, .inl (hh))) :: (u6, .inl (cI, 100, .inl (ou))) :: (u7, .inl (cI, 80, .inl (cover))) :: (u8, .inl (cI, 8, .inl (sun))) :: (u9, .inl (cI, 80, .inl (rw))) :: (u10, .inl (cI, 80, .inl (fo))) :: (u11, .inr (2, [.int (nI hr), .ref u12, .ref u0])) :: (u12, .inl (cI, 80, .inl (upd g (nI (pcl p9 j)).toNatClampNeg (-1)))) :: (u13, .inr (2, [.int ah, .ref u14, .ref u0])) :: (u14, .inl (cI, 80, .inl (aw))) :: Z)) C 12 0 rfl ht0 (vp_in_nI (hc j (by omega)) (by omega)) dX3_change_73 rfl ?_
          rw [nI_clamp (n := (pcl p9 j)) (Nat.lt_trans (hc j (by omega)) (by decide))]
          refine g_iinc (v := nI (j + 1)) (lv' := [(4, .int (nI (j + 1))), (5, .int (nI (pcl p9 j))), (0, .ref u0), (1, .int (nI k)), (2, .int 1), (3, .int 1)]) C dX3_change_74 5 rfl (by exact nI_add _ 1) (by decide) rfl ?_
          refine g_goto (tgt := 20) C dX3_change_77 (by decide) ?_
          refine g_sub [2, 3, 4, 5, 0] (lv' := [(0, .ref u0), (1, .int (nI k)), (2, .int 1), (3, .int 1), (4, .int (nI (j + 1)))]) rfl ?_
          exact ih (j + 1) _ (by rw [hgg]; rfl) (by omega) (by omega)
    refine g_sub [2, 3, 4, 1, 0] (lv' := [(0, .ref u0), (1, .int (nI k)), (2, .int 1), (3, .int 1), (4, .int 0)]) rfl ?_
    exact lp20_5 (ql p9 + 1) 0 wet rfl (by omega) (by omega)

theorem k_X3_change_false_inX3 : ∀ w ∈ wsX30, w ∈ wsX3_change := by decide +kernel
theorem k_X3_change_false_1 : Cond.fieldLink RX3 16 "WetMosaicModel" "across" "[I" ∈ wsX3_change := by decide +kernel
theorem k_X3_change_false_2 : Cond.fieldLink RX3 13 "WetMosaicModel" "length" "[I" ∈ wsX3_change := by decide +kernel
theorem k_X3_change_false_3 : Cond.fieldLink RX3 9 "WetMosaicModel" "first" "[I" ∈ wsX3_change := by decide +kernel
theorem k_X3_change_false_4 : Cond.fieldLink RX3 45 "WetMosaicModel" "s" "LWetMosaicModel$State;" ∈ wsX3_change := by decide +kernel
theorem k_X3_change_false_inX2 : ∀ w ∈ wsX20, w ∈ wsX3_change := by decide +kernel
set_option maxHeartbeats 4000000 in
set_option maxRecDepth 100000 in
theorem c_X3_change_false (l : Launch) (D : va_G) (tys : List (ClassId × FieldType)) (cI : ClassId) (ht0 : tys[0]? = some (cI, .int)) (u0 u1 u2 u3 u4 u5 u6 u7 u8 u9 u10 u11 u12 u13 u14 np : Nat) (th : Int32) (fi le ac se hh ou cover sun rw fo wet aw : Nat → Int32) (hr : Nat) (ah : Int32) (Z : va_W) (k : Nat) (p9 : Pd) (hk : k < 100) (h_fi : fi k = nI (10 * qy p9 + qx p9)) (h_le : le k = nI (ql p9)) (h_ac : ac k = gz (qc p9)) (hg : Pg p9) : gM l yX3_change wsX3_change ({ frames := 0, cells := 0, slots := 0, locals := 0 } : Room) D tys [.ref u0, .int (nI k), .int 0] ((u0, .inr (3, [.int th, .int (nI np), .ref u1, .ref u2, .ref u3, .ref u4, .ref u5, .ref u6, .ref u7, .ref u8, .ref u9, .ref u10, .ref u11, .ref u13])) :: (u1, .inl (cI, 100, .inl (fi))) :: (u2, .inl (cI, 100, .inl (le))) :: (u3, .inl (cI, 100, .inl (ac))) :: (u4, .inl (cI, 100, .inl (se))) :: (u5, .inl (cI, 100, .inl (hh))) :: (u6, .inl (cI, 100, .inl (ou))) :: (u7, .inl (cI, 80, .inl (cover))) :: (u8, .inl (cI, 8, .inl (sun))) :: (u9, .inl (cI, 80, .inl (rw))) :: (u10, .inl (cI, 80, .inl (fo))) :: (u11, .inr (2, [.int (nI hr), .ref u12, .ref u0])) :: (u12, .inl (cI, 80, .inl (wet))) :: (u13, .inr (2, [.int ah, .ref u14, .ref u0])) :: (u14, .inl (cI, 80, .inl (aw))) :: Z) (gIs none ((u0, .inr (3, [.int th, .int (nI np), .ref u1, .ref u2, .ref u3, .ref u4, .ref u5, .ref u6, .ref u7, .ref u8, .ref u9, .ref u10, .ref u11, .ref u13])) :: (u1, .inl (cI, 100, .inl (fi))) :: (u2, .inl (cI, 100, .inl (le))) :: (u3, .inl (cI, 100, .inl (ac))) :: (u4, .inl (cI, 100, .inl (se))) :: (u5, .inl (cI, 100, .inl (hh))) :: (u6, .inl (cI, 100, .inl (ou))) :: (u7, .inl (cI, 80, .inl (cover))) :: (u8, .inl (cI, 8, .inl (sun))) :: (u9, .inl (cI, 80, .inl (rw))) :: (u10, .inl (cI, 80, .inl (fo))) :: (u11, .inr (2, [.int (nI hr), .ref u12, .ref u0])) :: (u12, .inl (cI, 80, .inl (decL wet (pcl p9) (ql p9)))) :: (u13, .inr (2, [.int ah, .ref u14, .ref u0])) :: (u14, .inl (cI, 80, .inl (aw))) :: Z)) 0 0 := by
  refine gM_of (by decide +kernel) rfl (Nat.le_of_ble_eq_true rfl) ?_
  intro p e s m args below meth c A Q hin C hQ
  refine g_sub [0, 1, 2] (lv' := [(0, .ref u0), (1, .int (nI k)), (2, .int 0)]) rfl ?_
  obtain ⟨hg1, hg2, hg3, hg4, hc0⟩ := hg
  have hc : ∀ j, j < ql p9 → pcl p9 j < 80 := hc0
  refine g_aload_n C dX3_change_0 rfl 0 rfl ?_
  refine g_get (v := .ref u3) (ci := 3) (Cn := RX3) (T := TX3) (N := 14) C k_X3_change_false_inX3 gm0 rfl 4 (by decide) k_X3_change_false_1 rfl rfl dX3_change_1 ?_
  refine g_iload_n C dX3_change_4 rfl 1 rfl ?_
  refine g_iald C 0 (gmT (gmT (gmT gm0))) ht0 (vp_in_nI (by omega) (by omega)) dX3_change_5 ?_
  refine g_eqi (x := ac (nI k).toNatClampNeg) (y := gz (qc p9)) (by rw [nI_clamp (by omega)]; exact h_ac) ?_
  refine g_iconst (v := 1) C dX3_change_6 (by decide) ?_
  refine g_icmp_ne (tgt := 14) C dX3_change_7 (by decide) (fun c_1 => ?_) (fun c_1 => ?_)
  · skip
    replace c_1 := gzn1.mp c_1
    refine g_bipush (v := 10) C dX3_change_14 (by decide) ?_
    refine g_istore_n (lv' := [(3, .int 10), (0, .ref u0), (1, .int (nI k)), (2, .int 0)]) C dX3_change_16 rfl (by decide) rfl ?_
    refine g_iconst (v := 0) C dX3_change_17 (by decide) ?_
    refine g_istore (lv' := [(4, .int 0), (3, .int 10), (0, .ref u0), (1, .int (nI k)), (2, .int 0)]) C dX3_change_18 (by decide) rfl ?_
    have lp20_2 : ∀ (n9 : Nat) (j : Nat) (g : Nat → Int32) (hgg : g = decL wet (pcl p9) j) (hi : j ≤ ql p9) (hn : ql p9 + 1 ≤ j + n9), G p l e ({ frames := 0, cells := 0, slots := 0, locals := 0 } : Room) s m args below meth c D A s.heap 6 0 0 Q 20 [(0, .ref u0), (1, .int (nI k)), (2, .int 0), (3, .int 10), (4, .int (nI j))] [] ((u0, .inr (3, [.int th, .int (nI np), .ref u1, .ref u2, .ref u3, .ref u4, .ref u5, .ref u6, .ref u7, .ref u8, .ref u9, .ref u10, .ref u11, .ref u13])) :: (u1, .inl (cI, 100, .inl (fi))) :: (u2, .inl (cI, 100, .inl (le))) :: (u3, .inl (cI, 100, .inl (ac))) :: (u4, .inl (cI, 100, .inl (se))) :: (u5, .inl (cI, 100, .inl (hh))) :: (u6, .inl (cI, 100, .inl (ou))) :: (u7, .inl (cI, 80, .inl (cover))) :: (u8, .inl (cI, 8, .inl (sun))) :: (u9, .inl (cI, 80, .inl (rw))) :: (u10, .inl (cI, 80, .inl (fo))) :: (u11, .inr (2, [.int (nI hr), .ref u12, .ref u0])) :: (u12, .inl (cI, 80, .inl (g))) :: (u13, .inr (2, [.int ah, .ref u14, .ref u0])) :: (u14, .inl (cI, 80, .inl (aw))) :: Z) := by
      intro n9
      induction n9 with
      | zero =>
        intro j g hgg hi hn
        exfalso; omega
      | succ n9 ih =>
        intro j g hgg hi hn
        refine g_iload C dX3_change_20 4 rfl ?_
        refine g_aload_n C dX3_change_22 rfl 0 rfl ?_
        refine g_get (v := .ref u2) (ci := 3) (Cn := RX3) (T := TX3) (N := 14) C k_X3_change_false_inX3 gm0 rfl 3 (by decide) k_X3_change_false_2 rfl rfl dX3_change_23 ?_
        refine g_iload_n C dX3_change_26 rfl 1 rfl ?_
        refine g_iald C 0 (gmT (gmT gm0)) ht0 (vp_in_nI (by omega) (by omega)) dX3_change_27 ?_
        refine g_eqi (x := le (nI k).toNatClampNeg) (y := nI (ql p9)) (by rw [nI_clamp (by omega)]; exact h_le) ?_
        refine g_icmp_ge (tgt := 80) C dX3_change_28 (by decide) (fun c_3 => ?_) (fun c_3 => ?_)
        · skip
          rw [nI_leI (by omega) (by omega)] at c_3
          refine g_vret C hQ (Nat.le_of_ble_eq_true rfl) (Nat.le_of_ble_eq_true rfl) dX3_change_80 ?_
          have e : j = ql p9 := by omega
          exact ⟨rfl, by rw [hgg, e]⟩
        · skip
          rw [nI_leI (by omega) (by omega)] at c_3
          refine g_aload_n C dX3_change_31 rfl 0 rfl ?_
          refine g_get (v := .ref u1) (ci := 3) (Cn := RX3) (T := TX3) (N := 14) C k_X3_change_false_inX3 gm0 rfl 2 (by decide) k_X3_change_false_3 rfl rfl dX3_change_32 ?_
          refine g_iload_n C dX3_change_35 rfl 1 rfl ?_
          refine g_iald C 0 (gmT gm0) ht0 (vp_in_nI (by omega) (by omega)) dX3_change_36 ?_
          refine g_eqi (x := fi (nI k).toNatClampNeg) (y := nI (10 * qy p9 + qx p9)) (by rw [nI_clamp (by omega)]; exact h_fi) ?_
          refine g_iload C dX3_change_37 4 rfl ?_
          refine g_iload_n C dX3_change_39 rfl 3 rfl ?_
          refine g_imul C dX3_change_40 ?_
          refine g_iadd C dX3_change_41 ?_
          refine g_eqi (x := (nI (10 * qy p9 + qx p9)) + ((nI j) * 10)) (y := nI (pcl p9 j)) (by first | exact pclA (by assumption) | exact pclB (by assumption)) ?_
          refine g_istore (lv' := [(5, .int (nI (pcl p9 j))), (0, .ref u0), (1, .int (nI k)), (2, .int 0), (3, .int 10), (4, .int (nI j))]) C dX3_change_42 (by decide) rfl ?_
          refine g_aload_n C dX3_change_44 rfl 1 rfl ?_
          refine g_get (v := .ref u11) (ci := 3) (Cn := RX3) (T := TX3) (N := 14) C k_X3_change_false_inX3 gm0 rfl 12 (by decide) k_X3_change_false_4 rfl rfl dX3_change_45 ?_
          refine g_getN (host := "WetMosaicModel") (v := .ref u12) (ci := 2) (Cn := RX2) (T := TX2) (N := 3) C k_X3_change_false_inX2 (gmT (gmT (gmT (gmT (gmT (gmT (gmT (gmT (gmT (gmT (gmT gm0))))))))))) rfl 1 (by decide) (by decide +kernel) rfl rfl dX3_change_48 ?_
          refine g_iload C dX3_change_51 0 rfl ?_
          refine g_iload_n C dX3_change_53 rfl 3 rfl ?_
          refine g_if_eq (tgt := 61) C dX3_change_54 (by decide) (fun c_4 => ?_) (fun c_4 => by exfalso; revert c_4; decide)
          refine g_aload_n C dX3_change_61 rfl 1 rfl ?_
          refine g_get (v := .ref u11) (ci := 3) (Cn := RX3) (T := TX3) (N := 14) C k_X3_change_false_inX3 gm0 rfl 12 (by decide) k_X3_change_false_4 rfl rfl dX3_change_62 ?_
          refine g_getN (host := "WetMosaicModel") (v := .ref u12) (ci := 2) (Cn := RX2) (T := TX2) (N := 3) C k_X3_change_false_inX2 (gmT (gmT (gmT (gmT (gmT (gmT (gmT (gmT (gmT (gmT (gmT gm0))))))))))) rfl 1 (by decide) (by decide +kernel) rfl rfl dX3_change_65 ?_
          refine g_iload C dX3_change_68 0 rfl ?_
          refine g_iald C 0 (gmT (gmT (gmT (gmT (gmT (gmT (gmT (gmT (gmT (gmT (gmT (gmT gm0)))))))))))) ht0 (vp_in_nI (hc j (by omega)) (by omega)) dX3_change_70 ?_
          refine g_eqi (x := g (nI (pcl p9 j)).toNatClampNeg) (y := g (pcl p9 j)) (by rw [nI_clamp (Nat.lt_trans (hc j (by omega)) (by decide))]) ?_
          refine g_iconst (v := 1) C dX3_change_71 (by decide) ?_
          refine g_isub C dX3_change_72 ?_
          refine g_iast (ws' := ((u0, .inr (3, [.int th, .int (nI np), .ref u1, .ref u2, .ref u3, .ref u4, .ref u5, .ref u6, .ref u7, .ref u8, .ref u9, .ref u10, .ref u11, .ref u13])) :: (u1, .inl (cI, 100, .inl (fi))) :: (u2, .inl (cI, 100, .inl (le))) :: (u3, .inl (cI, 100, .inl (ac))) :: (u4, .inl (cI, 100, .inl (se))) :: (u5, .inl (cI, 100, .inl (hh))) :: (u6, .inl (cI, 100, .inl (ou))) :: (u7, .inl (cI, 80, .inl (cover))) :: (u8, .inl (cI, 8, .inl (sun))) :: (u9, .inl (cI, 80, .inl (rw))) :: (u10, .inl (cI, 80, .inl (fo))) :: (u11, .inr (2, [.int (nI hr), .ref u12, .ref u0])) :: (u12, .inl (cI, 80, .inl (upd g (nI (pcl p9 j)).toNatClampNeg ((g (pcl p9 j)) - 1)))) :: (u13, .inr (2, [.int ah, .ref u14, .ref u0])) :: (u14, .inl (cI, 80, .inl (aw))) :: Z)) C 12 0 rfl ht0 (vp_in_nI (hc j (by omega)) (by omega)) dX3_change_73 rfl ?_
          rw [nI_clamp (n := (pcl p9 j)) (Nat.lt_trans (hc j (by omega)) (by decide))]
          refine g_iinc (v := nI (j + 1)) (lv' := [(4, .int (nI (j + 1))), (5, .int (nI (pcl p9 j))), (0, .ref u0), (1, .int (nI k)), (2, .int 0), (3, .int 10)]) C dX3_change_74 5 rfl (by exact nI_add _ 1) (by decide) rfl ?_
          refine g_goto (tgt := 20) C dX3_change_77 (by decide) ?_
          refine g_sub [2, 3, 4, 5, 0] (lv' := [(0, .ref u0), (1, .int (nI k)), (2, .int 0), (3, .int 10), (4, .int (nI (j + 1)))]) rfl ?_
          exact ih (j + 1) _ (by rw [hgg]; rfl) (by omega) (by omega)
    refine g_sub [2, 3, 4, 1, 0] (lv' := [(0, .ref u0), (1, .int (nI k)), (2, .int 0), (3, .int 10), (4, .int 0)]) rfl ?_
    exact lp20_2 (ql p9 + 1) 0 wet rfl (by omega) (by omega)
  · skip
    replace c_1 := gz1.mp c_1
    refine g_iconst (v := 1) C dX3_change_10 (by decide) ?_
    refine g_goto (tgt := 16) C dX3_change_11 (by decide) ?_
    refine g_istore_n (lv' := [(3, .int 1), (0, .ref u0), (1, .int (nI k)), (2, .int 0)]) C dX3_change_16 rfl (by decide) rfl ?_
    refine g_iconst (v := 0) C dX3_change_17 (by decide) ?_
    refine g_istore (lv' := [(4, .int 0), (3, .int 1), (0, .ref u0), (1, .int (nI k)), (2, .int 0)]) C dX3_change_18 (by decide) rfl ?_
    have lp20_5 : ∀ (n9 : Nat) (j : Nat) (g : Nat → Int32) (hgg : g = decL wet (pcl p9) j) (hi : j ≤ ql p9) (hn : ql p9 + 1 ≤ j + n9), G p l e ({ frames := 0, cells := 0, slots := 0, locals := 0 } : Room) s m args below meth c D A s.heap 6 0 0 Q 20 [(0, .ref u0), (1, .int (nI k)), (2, .int 0), (3, .int 1), (4, .int (nI j))] [] ((u0, .inr (3, [.int th, .int (nI np), .ref u1, .ref u2, .ref u3, .ref u4, .ref u5, .ref u6, .ref u7, .ref u8, .ref u9, .ref u10, .ref u11, .ref u13])) :: (u1, .inl (cI, 100, .inl (fi))) :: (u2, .inl (cI, 100, .inl (le))) :: (u3, .inl (cI, 100, .inl (ac))) :: (u4, .inl (cI, 100, .inl (se))) :: (u5, .inl (cI, 100, .inl (hh))) :: (u6, .inl (cI, 100, .inl (ou))) :: (u7, .inl (cI, 80, .inl (cover))) :: (u8, .inl (cI, 8, .inl (sun))) :: (u9, .inl (cI, 80, .inl (rw))) :: (u10, .inl (cI, 80, .inl (fo))) :: (u11, .inr (2, [.int (nI hr), .ref u12, .ref u0])) :: (u12, .inl (cI, 80, .inl (g))) :: (u13, .inr (2, [.int ah, .ref u14, .ref u0])) :: (u14, .inl (cI, 80, .inl (aw))) :: Z) := by
      intro n9
      induction n9 with
      | zero =>
        intro j g hgg hi hn
        exfalso; omega
      | succ n9 ih =>
        intro j g hgg hi hn
        refine g_iload C dX3_change_20 4 rfl ?_
        refine g_aload_n C dX3_change_22 rfl 0 rfl ?_
        refine g_get (v := .ref u2) (ci := 3) (Cn := RX3) (T := TX3) (N := 14) C k_X3_change_false_inX3 gm0 rfl 3 (by decide) k_X3_change_false_2 rfl rfl dX3_change_23 ?_
        refine g_iload_n C dX3_change_26 rfl 1 rfl ?_
        refine g_iald C 0 (gmT (gmT gm0)) ht0 (vp_in_nI (by omega) (by omega)) dX3_change_27 ?_
        refine g_eqi (x := le (nI k).toNatClampNeg) (y := nI (ql p9)) (by rw [nI_clamp (by omega)]; exact h_le) ?_
        refine g_icmp_ge (tgt := 80) C dX3_change_28 (by decide) (fun c_6 => ?_) (fun c_6 => ?_)
        · skip
          rw [nI_leI (by omega) (by omega)] at c_6
          refine g_vret C hQ (Nat.le_of_ble_eq_true rfl) (Nat.le_of_ble_eq_true rfl) dX3_change_80 ?_
          have e : j = ql p9 := by omega
          exact ⟨rfl, by rw [hgg, e]⟩
        · skip
          rw [nI_leI (by omega) (by omega)] at c_6
          refine g_aload_n C dX3_change_31 rfl 0 rfl ?_
          refine g_get (v := .ref u1) (ci := 3) (Cn := RX3) (T := TX3) (N := 14) C k_X3_change_false_inX3 gm0 rfl 2 (by decide) k_X3_change_false_3 rfl rfl dX3_change_32 ?_
          refine g_iload_n C dX3_change_35 rfl 1 rfl ?_
          refine g_iald C 0 (gmT gm0) ht0 (vp_in_nI (by omega) (by omega)) dX3_change_36 ?_
          refine g_eqi (x := fi (nI k).toNatClampNeg) (y := nI (10 * qy p9 + qx p9)) (by rw [nI_clamp (by omega)]; exact h_fi) ?_
          refine g_iload C dX3_change_37 4 rfl ?_
          refine g_iload_n C dX3_change_39 rfl 3 rfl ?_
          refine g_imul C dX3_change_40 ?_
          refine g_iadd C dX3_change_41 ?_
          refine g_eqi (x := (nI (10 * qy p9 + qx p9)) + ((nI j) * 1)) (y := nI (pcl p9 j)) (by first | exact pclA (by assumption) | exact pclB (by assumption)) ?_
          refine g_istore (lv' := [(5, .int (nI (pcl p9 j))), (0, .ref u0), (1, .int (nI k)), (2, .int 0), (3, .int 1), (4, .int (nI j))]) C dX3_change_42 (by decide) rfl ?_
          refine g_aload_n C dX3_change_44 rfl 1 rfl ?_
          refine g_get (v := .ref u11) (ci := 3) (Cn := RX3) (T := TX3) (N := 14) C k_X3_change_false_inX3 gm0 rfl 12 (by decide) k_X3_change_false_4 rfl rfl dX3_change_45 ?_
          refine g_getN (host := "WetMosaicModel") (v := .ref u12) (ci := 2) (Cn := RX2) (T := TX2) (N := 3) C k_X3_change_false_inX2 (gmT (gmT (gmT (gmT (gmT (gmT (gmT (gmT (gmT (gmT (gmT gm0))))))))))) rfl 1 (by decide) (by decide +kernel) rfl rfl dX3_change_48 ?_
          refine g_iload C dX3_change_51 0 rfl ?_
          refine g_iload_n C dX3_change_53 rfl 3 rfl ?_
          refine g_if_eq (tgt := 61) C dX3_change_54 (by decide) (fun c_7 => ?_) (fun c_7 => by exfalso; revert c_7; decide)
          refine g_aload_n C dX3_change_61 rfl 1 rfl ?_
          refine g_get (v := .ref u11) (ci := 3) (Cn := RX3) (T := TX3) (N := 14) C k_X3_change_false_inX3 gm0 rfl 12 (by decide) k_X3_change_false_4 rfl rfl dX3_change_62 ?_
          refine g_getN (host := "WetMosaicModel") (v := .ref u12) (ci := 2) (Cn := RX2) (T := TX2) (N := 3) C k_X3_change_false_inX2 (gmT (gmT (gmT (gmT (gmT (gmT (gmT (gmT (gmT (gmT (gmT gm0))))))))))) rfl 1 (by decide) (by decide +kernel) rfl rfl dX3_change_65 ?_
          refine g_iload C dX3_change_68 0 rfl ?_
          refine g_iald C 0 (gmT (gmT (gmT (gmT (gmT (gmT (gmT (gmT (gmT (gmT (gmT (gmT gm0)))))))))))) ht0 (vp_in_nI (hc j (by omega)) (by omega)) dX3_change_70 ?_
          refine g_eqi (x := g (nI (pcl p9 j)).toNatClampNeg) (y := g (pcl p9 j)) (by rw [nI_clamp (Nat.lt_trans (hc j (by omega)) (by decide))]) ?_
          refine g_iconst (v := 1) C dX3_change_71 (by decide) ?_
          refine g_isub C dX3_change_72 ?_
          refine g_iast (ws' := ((u0, .inr (3, [.int th, .int (nI np), .ref u1, .ref u2, .ref u3, .ref u4, .ref u5, .ref u6, .ref u7, .ref u8, .ref u9, .ref u10, .ref u11, .ref u13])) :: (u1, .inl (cI, 100, .inl (fi))) :: (u2, .inl (cI, 100, .inl (le))) :: (u3, .inl (cI, 100, .inl (ac))) :: (u4, .inl (cI, 100, .inl (se))) :: (u5, .inl (cI, 100, .inl (hh))) :: (u6, .inl (cI, 100, .inl (ou))) :: (u7, .inl (cI, 80, .inl (cover))) :: (u8, .inl (cI, 8, .inl (sun))) :: (u9, .inl (cI, 80, .inl (rw))) :: (u10, .inl (cI, 80, .inl (fo))) :: (u11, .inr (2, [.int (nI hr), .ref u12, .ref u0])) :: (u12, .inl (cI, 80, .inl (upd g (nI (pcl p9 j)).toNatClampNeg ((g (pcl p9 j)) - 1)))) :: (u13, .inr (2, [.int ah, .ref u14, .ref u0])) :: (u14, .inl (cI, 80, .inl (aw))) :: Z)) C 12 0 rfl ht0 (vp_in_nI (hc j (by omega)) (by omega)) dX3_change_73 rfl ?_
          rw [nI_clamp (n := (pcl p9 j)) (Nat.lt_trans (hc j (by omega)) (by decide))]
          refine g_iinc (v := nI (j + 1)) (lv' := [(4, .int (nI (j + 1))), (5, .int (nI (pcl p9 j))), (0, .ref u0), (1, .int (nI k)), (2, .int 0), (3, .int 1)]) C dX3_change_74 5 rfl (by exact nI_add _ 1) (by decide) rfl ?_
          refine g_goto (tgt := 20) C dX3_change_77 (by decide) ?_
          refine g_sub [2, 3, 4, 5, 0] (lv' := [(0, .ref u0), (1, .int (nI k)), (2, .int 0), (3, .int 1), (4, .int (nI (j + 1)))]) rfl ?_
          exact ih (j + 1) _ (by rw [hgg]; rfl) (by omega) (by omega)
    refine g_sub [2, 3, 4, 1, 0] (lv' := [(0, .ref u0), (1, .int (nI k)), (2, .int 0), (3, .int 1), (4, .int 0)]) rfl ?_
    exact lp20_5 (ql p9 + 1) 0 wet rfl (by omega) (by omega)

theorem k_X3_swap_inX3 : ∀ w ∈ wsX30, w ∈ wsX3_swap := by decide +kernel
theorem k_X3_swap_1 : Cond.fieldLink RX3 19 "WetMosaicModel" "seen" "[I" ∈ wsX3_swap := by decide +kernel
theorem k_X3_swap_2 : Cond.fieldLink RX3 22 "WetMosaicModel" "hidden" "[I" ∈ wsX3_swap := by decide +kernel
set_option maxHeartbeats 4000000 in
set_option maxRecDepth 100000 in
theorem c_X3_swap (l : Launch) (D : va_G) (tys : List (ClassId × FieldType)) (cI : ClassId) (ht0 : tys[0]? = some (cI, .int)) (u0 u1 u2 u3 u4 u5 u6 u7 u8 u9 u10 u11 u12 u13 u14 np : Nat) (th : Int32) (fi le ac se hh ou cover sun rw fo wet aw : Nat → Int32) (hr : Nat) (ah : Int32) (Z : va_W) (k : Nat) (hk : k < 100) : gM l yX3_swap wsX3_swap ({ frames := 0, cells := 0, slots := 0, locals := 0 } : Room) D tys [.ref u0, .int (nI k)] ((u0, .inr (3, [.int th, .int (nI np), .ref u1, .ref u2, .ref u3, .ref u4, .ref u5, .ref u6, .ref u7, .ref u8, .ref u9, .ref u10, .ref u11, .ref u13])) :: (u1, .inl (cI, 100, .inl (fi))) :: (u2, .inl (cI, 100, .inl (le))) :: (u3, .inl (cI, 100, .inl (ac))) :: (u4, .inl (cI, 100, .inl (se))) :: (u5, .inl (cI, 100, .inl (hh))) :: (u6, .inl (cI, 100, .inl (ou))) :: (u7, .inl (cI, 80, .inl (cover))) :: (u8, .inl (cI, 8, .inl (sun))) :: (u9, .inl (cI, 80, .inl (rw))) :: (u10, .inl (cI, 80, .inl (fo))) :: (u11, .inr (2, [.int (nI hr), .ref u12, .ref u0])) :: (u12, .inl (cI, 80, .inl (wet))) :: (u13, .inr (2, [.int ah, .ref u14, .ref u0])) :: (u14, .inl (cI, 80, .inl (aw))) :: Z) (gIs none ((u0, .inr (3, [.int th, .int (nI np), .ref u1, .ref u2, .ref u3, .ref u4, .ref u5, .ref u6, .ref u7, .ref u8, .ref u9, .ref u10, .ref u11, .ref u13])) :: (u1, .inl (cI, 100, .inl (fi))) :: (u2, .inl (cI, 100, .inl (le))) :: (u3, .inl (cI, 100, .inl (ac))) :: (u4, .inl (cI, 100, .inl (upd se k (hh k)))) :: (u5, .inl (cI, 100, .inl (upd hh k (se k)))) :: (u6, .inl (cI, 100, .inl (ou))) :: (u7, .inl (cI, 80, .inl (cover))) :: (u8, .inl (cI, 8, .inl (sun))) :: (u9, .inl (cI, 80, .inl (rw))) :: (u10, .inl (cI, 80, .inl (fo))) :: (u11, .inr (2, [.int (nI hr), .ref u12, .ref u0])) :: (u12, .inl (cI, 80, .inl (wet))) :: (u13, .inr (2, [.int ah, .ref u14, .ref u0])) :: (u14, .inl (cI, 80, .inl (aw))) :: Z)) 0 0 := by
  refine gM_of (by decide +kernel) rfl (Nat.le_of_ble_eq_true rfl) ?_
  intro p e s m args below meth c A Q hin C hQ
  refine g_sub [0, 1] (lv' := [(0, .ref u0), (1, .int (nI k))]) rfl ?_
  refine g_aload_n C dX3_swap_0 rfl 0 rfl ?_
  refine g_get (v := .ref u4) (ci := 3) (Cn := RX3) (T := TX3) (N := 14) C k_X3_swap_inX3 gm0 rfl 5 (by decide) k_X3_swap_1 rfl rfl dX3_swap_1 ?_
  refine g_iload_n C dX3_swap_4 rfl 1 rfl ?_
  refine g_iald C 0 (gmT (gmT (gmT (gmT gm0)))) ht0 (vp_in_nI (by omega) (by omega)) dX3_swap_5 ?_
  refine g_eqi (x := se (nI k).toNatClampNeg) (y := se k) (by rw [nI_clamp (by omega)]) ?_
  refine g_istore_n (lv' := [(2, .int (se k)), (0, .ref u0), (1, .int (nI k))]) C dX3_swap_6 rfl (by decide) rfl ?_
  refine g_aload_n C dX3_swap_7 rfl 1 rfl ?_
  refine g_get (v := .ref u4) (ci := 3) (Cn := RX3) (T := TX3) (N := 14) C k_X3_swap_inX3 gm0 rfl 5 (by decide) k_X3_swap_1 rfl rfl dX3_swap_8 ?_
  refine g_iload_n C dX3_swap_11 rfl 2 rfl ?_
  refine g_aload_n C dX3_swap_12 rfl 1 rfl ?_
  refine g_get (v := .ref u5) (ci := 3) (Cn := RX3) (T := TX3) (N := 14) C k_X3_swap_inX3 gm0 rfl 6 (by decide) k_X3_swap_2 rfl rfl dX3_swap_13 ?_
  refine g_iload_n C dX3_swap_16 rfl 2 rfl ?_
  refine g_iald C 0 (gmT (gmT (gmT (gmT (gmT gm0))))) ht0 (vp_in_nI (by omega) (by omega)) dX3_swap_17 ?_
  refine g_eqi (x := hh (nI k).toNatClampNeg) (y := hh k) (by rw [nI_clamp (by omega)]) ?_
  refine g_iast (ws' := ((u0, .inr (3, [.int th, .int (nI np), .ref u1, .ref u2, .ref u3, .ref u4, .ref u5, .ref u6, .ref u7, .ref u8, .ref u9, .ref u10, .ref u11, .ref u13])) :: (u1, .inl (cI, 100, .inl (fi))) :: (u2, .inl (cI, 100, .inl (le))) :: (u3, .inl (cI, 100, .inl (ac))) :: (u4, .inl (cI, 100, .inl (upd se (nI k).toNatClampNeg (hh k)))) :: (u5, .inl (cI, 100, .inl (hh))) :: (u6, .inl (cI, 100, .inl (ou))) :: (u7, .inl (cI, 80, .inl (cover))) :: (u8, .inl (cI, 8, .inl (sun))) :: (u9, .inl (cI, 80, .inl (rw))) :: (u10, .inl (cI, 80, .inl (fo))) :: (u11, .inr (2, [.int (nI hr), .ref u12, .ref u0])) :: (u12, .inl (cI, 80, .inl (wet))) :: (u13, .inr (2, [.int ah, .ref u14, .ref u0])) :: (u14, .inl (cI, 80, .inl (aw))) :: Z)) C 4 0 rfl ht0 (vp_in_nI (by omega) (by omega)) dX3_swap_18 rfl ?_
  rw [nI_clamp (n := k) (by omega)]
  refine g_aload_n C dX3_swap_19 rfl 1 rfl ?_
  refine g_get (v := .ref u5) (ci := 3) (Cn := RX3) (T := TX3) (N := 14) C k_X3_swap_inX3 gm0 rfl 6 (by decide) k_X3_swap_2 rfl rfl dX3_swap_20 ?_
  refine g_iload_n C dX3_swap_23 rfl 2 rfl ?_
  refine g_iload_n C dX3_swap_24 rfl 0 rfl ?_
  refine g_iast (ws' := ((u0, .inr (3, [.int th, .int (nI np), .ref u1, .ref u2, .ref u3, .ref u4, .ref u5, .ref u6, .ref u7, .ref u8, .ref u9, .ref u10, .ref u11, .ref u13])) :: (u1, .inl (cI, 100, .inl (fi))) :: (u2, .inl (cI, 100, .inl (le))) :: (u3, .inl (cI, 100, .inl (ac))) :: (u4, .inl (cI, 100, .inl (upd se k (hh k)))) :: (u5, .inl (cI, 100, .inl (upd hh (nI k).toNatClampNeg (se k)))) :: (u6, .inl (cI, 100, .inl (ou))) :: (u7, .inl (cI, 80, .inl (cover))) :: (u8, .inl (cI, 8, .inl (sun))) :: (u9, .inl (cI, 80, .inl (rw))) :: (u10, .inl (cI, 80, .inl (fo))) :: (u11, .inr (2, [.int (nI hr), .ref u12, .ref u0])) :: (u12, .inl (cI, 80, .inl (wet))) :: (u13, .inr (2, [.int ah, .ref u14, .ref u0])) :: (u14, .inl (cI, 80, .inl (aw))) :: Z)) C 5 0 rfl ht0 (vp_in_nI (by omega) (by omega)) dX3_swap_25 rfl ?_
  rw [nI_clamp (n := k) (by omega)]
  refine g_vret C hQ (Nat.le_of_ble_eq_true rfl) (Nat.le_of_ble_eq_true rfl) dX3_swap_26 ?_
  exact ⟨rfl, rfl⟩
