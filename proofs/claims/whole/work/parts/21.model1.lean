set_option maxHeartbeats 4000000 in
set_option maxRecDepth 100000 in
theorem c_X3_isIn (l : Launch) (D : va_G) (tys : List (ClassId × FieldType)) (W : va_W) (v lo hi : Int32) : gM l yX3_isIn wsX3_isIn ({ frames := 0, cells := 0, slots := 0, locals := 0 } : Room) D tys [.int v, .int lo, .int hi] W (gIs (some (.int (gz (inR lo hi v)))) W) 0 0 := by
  refine gM_of (by decide +kernel) rfl (Nat.le_of_ble_eq_true rfl) ?_
  intro p e s m args below meth c A Q hin C hQ
  refine g_sub [0, 1, 2] (lv' := [(0, .int v), (1, .int lo), (2, .int hi)]) rfl ?_
  refine g_iload_n C dX3_isIn_0 rfl 0 rfl ?_
  refine g_iload_n C dX3_isIn_1 rfl 1 rfl ?_
  refine g_icmp_lt (tgt := 14) C dX3_isIn_2 (by decide) (fun c_1 => ?_) (fun c_1 => ?_)
  · skip
    refine g_iconst (v := 0) C dX3_isIn_14 (by decide) ?_
    refine g_zret C (by first | exact Or.inl rfl | exact Or.inr rfl | exact gz01 _) hQ (Nat.le_of_ble_eq_true rfl) (Nat.le_of_ble_eq_true rfl) dX3_isIn_15 ?_
    first | exact ⟨gz_e1 (inR_t (by assumption) (by assumption)), rfl⟩ | exact ⟨gz_e0 (inR_l (by assumption)), rfl⟩ | exact ⟨gz_e0 (inR_h (by assumption)), rfl⟩
  · skip
    refine g_iload_n C dX3_isIn_5 rfl 0 rfl ?_
    refine g_iload_n C dX3_isIn_6 rfl 2 rfl ?_
    refine g_icmp_gt (tgt := 14) C dX3_isIn_7 (by decide) (fun c_2 => ?_) (fun c_2 => ?_)
    · skip
      refine g_iconst (v := 0) C dX3_isIn_14 (by decide) ?_
      refine g_zret C (by first | exact Or.inl rfl | exact Or.inr rfl | exact gz01 _) hQ (Nat.le_of_ble_eq_true rfl) (Nat.le_of_ble_eq_true rfl) dX3_isIn_15 ?_
      first | exact ⟨gz_e1 (inR_t (by assumption) (by assumption)), rfl⟩ | exact ⟨gz_e0 (inR_l (by assumption)), rfl⟩ | exact ⟨gz_e0 (inR_h (by assumption)), rfl⟩
    · skip
      refine g_iconst (v := 1) C dX3_isIn_10 (by decide) ?_
      refine g_goto (tgt := 15) C dX3_isIn_11 (by decide) ?_
      refine g_zret C (by first | exact Or.inl rfl | exact Or.inr rfl | exact gz01 _) hQ (Nat.le_of_ble_eq_true rfl) (Nat.le_of_ble_eq_true rfl) dX3_isIn_15 ?_
      first | exact ⟨gz_e1 (inR_t (by assumption) (by assumption)), rfl⟩ | exact ⟨gz_e0 (inR_l (by assumption)), rfl⟩ | exact ⟨gz_e0 (inR_h (by assumption)), rfl⟩

set_option maxHeartbeats 4000000 in
set_option maxRecDepth 100000 in
theorem c_X3_isCell (l : Launch) (D : va_G) (tys : List (ClassId × FieldType)) (W : va_W) (x y : Int32) : gM l yX3_isCell wsX3_isCell ({ frames := 1, cells := 0, slots := 0, locals := 22 } : Room) D tys [.int x, .int y] W (gIs (some (.int (gz (onW x y)))) W) 0 0 := by
  refine gM_of (by decide +kernel) rfl (Nat.le_of_ble_eq_true rfl) ?_
  intro p e s m args below meth c A Q hin C hQ
  refine g_sub [0, 1] (lv' := [(0, .int x), (1, .int y)]) rfl ?_
  refine g_iload_n C dX3_isCell_0 rfl 0 rfl ?_
  refine g_iconst (v := 0) C dX3_isCell_1 (by decide) ?_
  refine g_bipush (v := 9) C dX3_isCell_2 (by decide) ?_
  refine g_callS (As := [.int x, .int 0, .int 9]) (rest := []) C (c_X3_isIn l D tys W x 0 9) (va_cwS 3 C.ts gX3_isCell_X3_isIn rfl rfl rfl (by decide +kernel) ⟨(Nat.le_of_ble_eq_true rfl), (Nat.le_of_ble_eq_true rfl)⟩) rfl rfl (Nat.le_of_ble_eq_true rfl) dX3_isCell_4 (Nat.le_of_ble_eq_true rfl) (Nat.le_of_ble_eq_true rfl) (g_is (x := .int (gz (inR 0 9 x))) (W1 := W) ?_)
  refine g_if_eq (tgt := 24) C dX3_isCell_7 (by decide) (fun c_1 => ?_) (fun c_1 => ?_)
  · skip
    replace c_1 := gz0.mp c_1
    refine g_iconst (v := 0) C dX3_isCell_24 (by decide) ?_
    refine g_zret C (by first | exact Or.inl rfl | exact Or.inr rfl | exact gz01 _) hQ (Nat.le_of_ble_eq_true rfl) (Nat.le_of_ble_eq_true rfl) dX3_isCell_25 ?_
    first | exact ⟨gz_e1 (by simp [onW, *]), rfl⟩ | exact ⟨gz_e0 (by simp [onW, *]), rfl⟩
  · skip
    replace c_1 := gzn.mp c_1
    refine g_iload_n C dX3_isCell_10 rfl 1 rfl ?_
    refine g_iconst (v := 0) C dX3_isCell_11 (by decide) ?_
    refine g_bipush (v := 7) C dX3_isCell_12 (by decide) ?_
    refine g_callS (As := [.int y, .int 0, .int 7]) (rest := []) C (c_X3_isIn l D tys W y 0 7) (va_cwS 3 C.ts gX3_isCell_X3_isIn rfl rfl rfl (by decide +kernel) ⟨(Nat.le_of_ble_eq_true rfl), (Nat.le_of_ble_eq_true rfl)⟩) rfl rfl (Nat.le_of_ble_eq_true rfl) dX3_isCell_14 (Nat.le_of_ble_eq_true rfl) (Nat.le_of_ble_eq_true rfl) (g_is (x := .int (gz (inR 0 7 y))) (W1 := W) ?_)
    refine g_if_eq (tgt := 24) C dX3_isCell_17 (by decide) (fun c_2 => ?_) (fun c_2 => ?_)
    · skip
      replace c_2 := gz0.mp c_2
      refine g_iconst (v := 0) C dX3_isCell_24 (by decide) ?_
      refine g_zret C (by first | exact Or.inl rfl | exact Or.inr rfl | exact gz01 _) hQ (Nat.le_of_ble_eq_true rfl) (Nat.le_of_ble_eq_true rfl) dX3_isCell_25 ?_
      first | exact ⟨gz_e1 (by simp [onW, *]), rfl⟩ | exact ⟨gz_e0 (by simp [onW, *]), rfl⟩
    · skip
      replace c_2 := gzn.mp c_2
      refine g_iconst (v := 1) C dX3_isCell_20 (by decide) ?_
      refine g_goto (tgt := 25) C dX3_isCell_21 (by decide) ?_
      refine g_zret C (by first | exact Or.inl rfl | exact Or.inr rfl | exact gz01 _) hQ (Nat.le_of_ble_eq_true rfl) (Nat.le_of_ble_eq_true rfl) dX3_isCell_25 ?_
      first | exact ⟨gz_e1 (by simp [onW, *]), rfl⟩ | exact ⟨gz_e0 (by simp [onW, *]), rfl⟩

set_option maxHeartbeats 4000000 in
set_option maxRecDepth 100000 in
theorem c_X3_isColour (l : Launch) (D : va_G) (tys : List (ClassId × FieldType)) (W : va_W) (v : Int32) : gM l yX3_isColour wsX3_isColour ({ frames := 1, cells := 0, slots := 0, locals := 22 } : Room) D tys [.int v] W (gIs (some (.int (gz (inR 0 6 v)))) W) 0 0 := by
  refine gM_of (by decide +kernel) rfl (Nat.le_of_ble_eq_true rfl) ?_
  intro p e s m args below meth c A Q hin C hQ
  refine g_sub [0] (lv' := [(0, .int v)]) rfl ?_
  refine g_iload_n C dX3_isColour_0 rfl 0 rfl ?_
  refine g_iconst (v := 0) C dX3_isColour_1 (by decide) ?_
  refine g_bipush (v := 6) C dX3_isColour_2 (by decide) ?_
  refine g_callS (As := [.int v, .int 0, .int 6]) (rest := []) C (c_X3_isIn l D tys W v 0 6) (va_cwS 3 C.ts gX3_isColour_X3_isIn rfl rfl rfl (by decide +kernel) ⟨(Nat.le_of_ble_eq_true rfl), (Nat.le_of_ble_eq_true rfl)⟩) rfl rfl (Nat.le_of_ble_eq_true rfl) dX3_isColour_4 (Nat.le_of_ble_eq_true rfl) (Nat.le_of_ble_eq_true rfl) (g_is (x := .int (gz (inR 0 6 v))) (W1 := W) ?_)
  refine g_zret C (by first | exact Or.inl rfl | exact Or.inr rfl | exact gz01 _) hQ (Nat.le_of_ble_eq_true rfl) (Nat.le_of_ble_eq_true rfl) dX3_isColour_7 ?_
  exact ⟨rfl, rfl⟩

theorem k_X3_isPiece_inX3 : ∀ w ∈ wsX30, w ∈ wsX3_isPiece := by decide +kernel
theorem k_X3_isPiece_1 : Cond.fieldLink RX3 63 "WetMosaicModel" "pieces" "I" ∈ wsX3_isPiece := by decide +kernel
set_option maxHeartbeats 4000000 in
set_option maxRecDepth 100000 in
theorem c_X3_isPiece (l : Launch) (D : va_G) (tys : List (ClassId × FieldType)) (W : va_W) (u0 u1 u2 u3 u4 u5 u6 u7 u8 u9 u10 u11 u12 u13 u14 np : Nat) (th : Int32) (v : Int32) (hm : (u0, .inr (3, [.int th, .int (nI np), .ref u1, .ref u2, .ref u3, .ref u4, .ref u5, .ref u6, .ref u7, .ref u8, .ref u9, .ref u10, .ref u11, .ref u13])) ∈ W) : gM l yX3_isPiece wsX3_isPiece ({ frames := 1, cells := 0, slots := 0, locals := 22 } : Room) D tys [.ref u0, .int v] W (gIs (some (.int (gz (pIn np v)))) W) 0 0 := by
  refine gM_of (by decide +kernel) rfl (Nat.le_of_ble_eq_true rfl) ?_
  intro p e s m args below meth c A Q hin C hQ
  refine g_sub [0, 1] (lv' := [(0, .ref u0), (1, .int v)]) rfl ?_
  refine g_iload_n C dX3_isPiece_0 rfl 1 rfl ?_
  refine g_iconst (v := 0) C dX3_isPiece_1 (by decide) ?_
  refine g_aload_n C dX3_isPiece_2 rfl 0 rfl ?_
  refine g_get (v := .int (nI np)) (ci := 3) (Cn := RX3) (T := TX3) (N := 14) C k_X3_isPiece_inX3 hm rfl 1 (by decide) k_X3_isPiece_1 rfl rfl dX3_isPiece_3 ?_
  refine g_iconst (v := 1) C dX3_isPiece_6 (by decide) ?_
  refine g_isub C dX3_isPiece_7 ?_
  refine g_callS (As := [.int v, .int 0, .int ((nI np) - 1)]) (rest := []) C (c_X3_isIn l D tys W v 0 ((nI np) - 1)) (va_cwS 3 C.ts gX3_isPiece_X3_isIn rfl rfl rfl (by decide +kernel) ⟨(Nat.le_of_ble_eq_true rfl), (Nat.le_of_ble_eq_true rfl)⟩) rfl rfl (Nat.le_of_ble_eq_true rfl) dX3_isPiece_8 (Nat.le_of_ble_eq_true rfl) (Nat.le_of_ble_eq_true rfl) (g_is (x := .int (gz (inR 0 ((nI np) - 1) v))) (W1 := W) ?_)
  refine g_zret C (by first | exact Or.inl rfl | exact Or.inr rfl | exact gz01 _) hQ (Nat.le_of_ble_eq_true rfl) (Nat.le_of_ble_eq_true rfl) dX3_isPiece_11 ?_
  exact ⟨rfl, rfl⟩

theorem k_X3_thrown_inX3 : ∀ w ∈ wsX30, w ∈ wsX3_thrown := by decide +kernel
theorem k_X3_thrown_1 : Cond.fieldLink RX3 55 "WetMosaicModel" "thrown" "I" ∈ wsX3_thrown := by decide +kernel
set_option maxHeartbeats 4000000 in
set_option maxRecDepth 100000 in
theorem c_X3_thrown (l : Launch) (D : va_G) (tys : List (ClassId × FieldType)) (W : va_W) (u0 u1 u2 u3 u4 u5 u6 u7 u8 u9 u10 u11 u12 u13 u14 np : Nat) (th : Int32) (hm : (u0, .inr (3, [.int th, .int (nI np), .ref u1, .ref u2, .ref u3, .ref u4, .ref u5, .ref u6, .ref u7, .ref u8, .ref u9, .ref u10, .ref u11, .ref u13])) ∈ W) : gM l yX3_thrown wsX3_thrown ({ frames := 0, cells := 0, slots := 0, locals := 0 } : Room) D tys [.ref u0] W (gIs (some (.int th)) W) 0 0 := by
  refine gM_of (by decide +kernel) rfl (Nat.le_of_ble_eq_true rfl) ?_
  intro p e s m args below meth c A Q hin C hQ
  refine g_sub [0] (lv' := [(0, .ref u0)]) rfl ?_
  refine g_aload_n C dX3_thrown_0 rfl 0 rfl ?_
  refine g_get (v := .int th) (ci := 3) (Cn := RX3) (T := TX3) (N := 14) C k_X3_thrown_inX3 hm rfl 0 (by decide) k_X3_thrown_1 rfl rfl dX3_thrown_1 ?_
  refine g_iret C hQ (Nat.le_of_ble_eq_true rfl) (Nat.le_of_ble_eq_true rfl) dX3_thrown_4 ?_
  exact ⟨rfl, rfl⟩

set_option maxHeartbeats 4000000 in
set_option maxRecDepth 100000 in
theorem c_X3_isPattern (l : Launch) (D : va_G) (tys : List (ClassId × FieldType)) (W : va_W) (k9 a b : Int32) : gM l yX3_isPattern wsX3_isPattern ({ frames := 2, cells := 0, slots := 0, locals := 42 } : Room) D tys [.int k9, .int a, .int b] W (gIs (some (.int (gz (patB k9 a b)))) W) 0 0 := by
  refine gM_of (by decide +kernel) rfl (Nat.le_of_ble_eq_true rfl) ?_
  intro p e s m args below meth c A Q hin C hQ
  refine g_sub [0, 1, 2] (lv' := [(0, .int k9), (1, .int a), (2, .int b)]) rfl ?_
  refine g_iload_n C dX3_isPattern_0 rfl 0 rfl ?_
  refine g_iconst (v := 0) C dX3_isPattern_1 (by decide) ?_
  refine g_iconst (v := 3) C dX3_isPattern_2 (by decide) ?_
  refine g_callS (As := [.int k9, .int 0, .int 3]) (rest := []) C (c_X3_isIn l D tys W k9 0 3) (va_cwS 3 C.ts gX3_isPattern_X3_isIn rfl rfl rfl (by decide +kernel) ⟨(Nat.le_of_ble_eq_true rfl), (Nat.le_of_ble_eq_true rfl)⟩) rfl rfl (Nat.le_of_ble_eq_true rfl) dX3_isPattern_3 (Nat.le_of_ble_eq_true rfl) (Nat.le_of_ble_eq_true rfl) (g_is (x := .int (gz (inR 0 3 k9))) (W1 := W) ?_)
  refine g_if_eq (tgt := 27) C dX3_isPattern_6 (by decide) (fun c_1 => ?_) (fun c_1 => ?_)
  · skip
    replace c_1 := gz0.mp c_1
    refine g_iconst (v := 0) C dX3_isPattern_27 (by decide) ?_
    refine g_zret C (by first | exact Or.inl rfl | exact Or.inr rfl | exact gz01 _) hQ (Nat.le_of_ble_eq_true rfl) (Nat.le_of_ble_eq_true rfl) dX3_isPattern_28 ?_
    first | exact ⟨gz_e1 (by simp [patB, *]), rfl⟩ | exact ⟨gz_e0 (by simp [patB, *]), rfl⟩
  · skip
    replace c_1 := gzn.mp c_1
    refine g_iload_n C dX3_isPattern_9 rfl 1 rfl ?_
    refine g_callS (As := [.int a]) (rest := []) C (c_X3_isColour l D tys W a) (va_cwS 1 C.ts gX3_isPattern_X3_isColour rfl rfl rfl (by decide +kernel) ⟨(Nat.le_of_ble_eq_true rfl), (Nat.le_of_ble_eq_true rfl)⟩) rfl rfl (Nat.le_of_ble_eq_true rfl) dX3_isPattern_10 (Nat.le_of_ble_eq_true rfl) (Nat.le_of_ble_eq_true rfl) (g_is (x := .int (gz (inR 0 6 a))) (W1 := W) ?_)
    refine g_if_eq (tgt := 27) C dX3_isPattern_13 (by decide) (fun c_2 => ?_) (fun c_2 => ?_)
    · skip
      replace c_2 := gz0.mp c_2
      refine g_iconst (v := 0) C dX3_isPattern_27 (by decide) ?_
      refine g_zret C (by first | exact Or.inl rfl | exact Or.inr rfl | exact gz01 _) hQ (Nat.le_of_ble_eq_true rfl) (Nat.le_of_ble_eq_true rfl) dX3_isPattern_28 ?_
      first | exact ⟨gz_e1 (by simp [patB, *]), rfl⟩ | exact ⟨gz_e0 (by simp [patB, *]), rfl⟩
    · skip
      replace c_2 := gzn.mp c_2
      refine g_iload_n C dX3_isPattern_16 rfl 2 rfl ?_
      refine g_callS (As := [.int b]) (rest := []) C (c_X3_isColour l D tys W b) (va_cwS 1 C.ts gX3_isPattern_X3_isColour rfl rfl rfl (by decide +kernel) ⟨(Nat.le_of_ble_eq_true rfl), (Nat.le_of_ble_eq_true rfl)⟩) rfl rfl (Nat.le_of_ble_eq_true rfl) dX3_isPattern_17 (Nat.le_of_ble_eq_true rfl) (Nat.le_of_ble_eq_true rfl) (g_is (x := .int (gz (inR 0 6 b))) (W1 := W) ?_)
      refine g_if_eq (tgt := 27) C dX3_isPattern_20 (by decide) (fun c_3 => ?_) (fun c_3 => ?_)
      · skip
        replace c_3 := gz0.mp c_3
        refine g_iconst (v := 0) C dX3_isPattern_27 (by decide) ?_
        refine g_zret C (by first | exact Or.inl rfl | exact Or.inr rfl | exact gz01 _) hQ (Nat.le_of_ble_eq_true rfl) (Nat.le_of_ble_eq_true rfl) dX3_isPattern_28 ?_
        first | exact ⟨gz_e1 (by simp [patB, *]), rfl⟩ | exact ⟨gz_e0 (by simp [patB, *]), rfl⟩
      · skip
        replace c_3 := gzn.mp c_3
        refine g_iconst (v := 1) C dX3_isPattern_23 (by decide) ?_
        refine g_goto (tgt := 28) C dX3_isPattern_24 (by decide) ?_
        refine g_zret C (by first | exact Or.inl rfl | exact Or.inr rfl | exact gz01 _) hQ (Nat.le_of_ble_eq_true rfl) (Nat.le_of_ble_eq_true rfl) dX3_isPattern_28 ?_
        first | exact ⟨gz_e1 (by simp [patB, *]), rfl⟩ | exact ⟨gz_e0 (by simp [patB, *]), rfl⟩

theorem k_X2_isLoose_inX2 : ∀ w ∈ wsX20, w ∈ wsX2_isLoose := by decide +kernel
theorem k_X2_isLoose_1 : Cond.fieldLink RX2 3 "WetMosaicModel$State" "this$0" "LWetMosaicModel;" ∈ wsX2_isLoose := by decide +kernel
theorem k_X2_isLoose_inX3 : ∀ w ∈ wsX30, w ∈ wsX2_isLoose := by decide +kernel
theorem k_X2_isLoose_3 : Cond.fieldLink RX2 15 "WetMosaicModel$State" "wet" "[I" ∈ wsX2_isLoose := by decide +kernel
set_option maxHeartbeats 4000000 in
set_option maxRecDepth 100000 in
theorem c_X2_isLoose (l : Launch) (D : va_G) (tys : List (ClassId × FieldType)) (cI : ClassId) (ht0 : tys[0]? = some (cI, .int)) (W : va_W) (u0 u1 u2 u3 u4 u5 u6 u7 u8 u9 u10 u11 u12 u13 u14 np : Nat) (th : Int32) (fi le ac se hh ou : Nat → Int32) (P : Nat → Pd) (so sw : Nat) (hs : Int32) (f : Nat → Int32) (k : Nat) (hk : k < np) (hnp : np ≤ 100) (hR : Mrel np P fi le ac se hh ou) (hgk : Pg (P k)) (hm : (u0, .inr (3, [.int th, .int (nI np), .ref u1, .ref u2, .ref u3, .ref u4, .ref u5, .ref u6, .ref u7, .ref u8, .ref u9, .ref u10, .ref u11, .ref u13])) ∈ W) (hs1 : (so, .inr (2, [.int hs, .ref sw, .ref u0])) ∈ W) (hs2 : (sw, .inl (cI, 80, .inl (f))) ∈ W) (h_fi : (u1, .inl (cI, 100, .inl (fi))) ∈ W) (h_le : (u2, .inl (cI, 100, .inl (le))) ∈ W) (h_ac : (u3, .inl (cI, 100, .inl (ac))) ∈ W) (h_ou : (u6, .inl (cI, 100, .inl (ou))) ∈ W) : gM l yX2_isLoose wsX2_isLoose ({ frames := 0, cells := 0, slots := 0, locals := 0 } : Room) D tys [.ref so, .int (nI k)] W (gIs (some (.int (gz (lsp (P k) f)))) W) 0 0 := by
  refine gM_of (by decide +kernel) rfl (Nat.le_of_ble_eq_true rfl) ?_
  intro p e s m args below meth c A Q hin C hQ
  refine g_sub [0, 1] (lv' := [(0, .ref so), (1, .int (nI k))]) rfl ?_
  obtain ⟨hg1, hg2, hg3, hg4, hc0⟩ := hgk
  have hc : ∀ j, j < ql (P k) → pcl (P k) j < 80 := hc0
  refine g_aload_n C dX2_isLoose_0 rfl 0 rfl ?_
  refine g_get (v := .ref u0) (ci := 2) (Cn := RX2) (T := TX2) (N := 3) C k_X2_isLoose_inX2 hs1 rfl 2 (by decide) k_X2_isLoose_1 rfl rfl dX2_isLoose_1 ?_
  refine g_getN (host := "WetMosaicModel") (v := .ref u6) (ci := 3) (Cn := RX3) (T := TX3) (N := 14) C k_X2_isLoose_inX3 hm rfl 7 (by decide) (by decide +kernel) rfl rfl dX2_isLoose_4 ?_
  refine g_iload_n C dX2_isLoose_7 rfl 1 rfl ?_
  refine g_iald C 0 h_ou ht0 (vp_in_nI (by omega) (by omega)) dX2_isLoose_8 ?_
  refine g_eqi (x := ou (nI k).toNatClampNeg) (y := gz (qo (P k))) (by rw [nI_clamp (by omega)]; exact (hR.1 k (by omega)).2.2.2.2.2) ?_
  refine g_iconst (v := 1) C dX2_isLoose_9 (by decide) ?_
  refine g_icmp_ne (tgt := 15) C dX2_isLoose_10 (by decide) (fun c_1 => ?_) (fun c_1 => ?_)
  · skip
    replace c_1 := gzn1.mp c_1
    refine g_aload_n C dX2_isLoose_15 rfl 0 rfl ?_
    refine g_get (v := .ref u0) (ci := 2) (Cn := RX2) (T := TX2) (N := 3) C k_X2_isLoose_inX2 hs1 rfl 2 (by decide) k_X2_isLoose_1 rfl rfl dX2_isLoose_16 ?_
    refine g_getN (host := "WetMosaicModel") (v := .ref u3) (ci := 3) (Cn := RX3) (T := TX3) (N := 14) C k_X2_isLoose_inX3 hm rfl 4 (by decide) (by decide +kernel) rfl rfl dX2_isLoose_19 ?_
    refine g_iload_n C dX2_isLoose_22 rfl 1 rfl ?_
    refine g_iald C 0 h_ac ht0 (vp_in_nI (by omega) (by omega)) dX2_isLoose_23 ?_
    refine g_eqi (x := ac (nI k).toNatClampNeg) (y := gz (qc (P k))) (by rw [nI_clamp (by omega)]; exact (hR.1 k (by omega)).2.2.1) ?_
    refine g_iconst (v := 1) C dX2_isLoose_24 (by decide) ?_
    refine g_icmp_ne (tgt := 32) C dX2_isLoose_25 (by decide) (fun c_2 => ?_) (fun c_2 => ?_)
    · skip
      replace c_2 := gzn1.mp c_2
      refine g_bipush (v := 10) C dX2_isLoose_32 (by decide) ?_
      refine g_istore_n (lv' := [(2, .int 10), (0, .ref so), (1, .int (nI k))]) C dX2_isLoose_34 rfl (by decide) rfl ?_
      refine g_iconst (v := 0) C dX2_isLoose_35 (by decide) ?_
      refine g_istore_n (lv' := [(3, .int 0), (2, .int 10), (0, .ref so), (1, .int (nI k))]) C dX2_isLoose_36 rfl (by decide) rfl ?_
      have lp37 : ∀ (n9 : Nat) (j : Nat) (hj : allB (fun j => decide (1 ≤ f (pcl (P k) j))) j = true) (hi : j ≤ ql (P k)) (hn : ql (P k) + 1 ≤ j + n9), G p l e ({ frames := 0, cells := 0, slots := 0, locals := 0 } : Room) s m args below meth c D A s.heap 4 0 0 Q 37 [(0, .ref so), (1, .int (nI k)), (2, .int 10), (3, .int (nI j))] [] W := by
        intro n9
        induction n9 with
        | zero =>
          intro j hj hi hn
          exfalso; omega
        | succ n9 ih =>
          intro j hj hi hn
          refine g_iload_n C dX2_isLoose_37 rfl 3 rfl ?_
          refine g_aload_n C dX2_isLoose_38 rfl 0 rfl ?_
          refine g_get (v := .ref u0) (ci := 2) (Cn := RX2) (T := TX2) (N := 3) C k_X2_isLoose_inX2 hs1 rfl 2 (by decide) k_X2_isLoose_1 rfl rfl dX2_isLoose_39 ?_
          refine g_getN (host := "WetMosaicModel") (v := .ref u2) (ci := 3) (Cn := RX3) (T := TX3) (N := 14) C k_X2_isLoose_inX3 hm rfl 3 (by decide) (by decide +kernel) rfl rfl dX2_isLoose_42 ?_
          refine g_iload_n C dX2_isLoose_45 rfl 1 rfl ?_
          refine g_iald C 0 h_le ht0 (vp_in_nI (by omega) (by omega)) dX2_isLoose_46 ?_
          refine g_eqi (x := le (nI k).toNatClampNeg) (y := nI (ql (P k))) (by rw [nI_clamp (by omega)]; exact (hR.1 k (by omega)).2.1) ?_
          refine g_icmp_ge (tgt := 80) C dX2_isLoose_47 (by decide) (fun c_3 => ?_) (fun c_3 => ?_)
          · skip
            rw [nI_leI (by omega) (by omega)] at c_3
            refine g_iconst (v := 1) C dX2_isLoose_80 (by decide) ?_
            refine g_zret C (by first | exact Or.inl rfl | exact Or.inr rfl | exact gz01 _) hQ (Nat.le_of_ble_eq_true rfl) (Nat.le_of_ble_eq_true rfl) dX2_isLoose_81 ?_
            exact ⟨gz_e1 (by rw [lsp, lse, show ql (P k) = j by omega]; rw [show allB (fun j => decide (1 ≤ f (cel (qx (P k)) (qy (P k)) (qc (P k)) j))) j = true from hj]; simp [*]), rfl⟩
          · skip
            rw [nI_leI (by omega) (by omega)] at c_3
            refine g_aload_n C dX2_isLoose_50 rfl 0 rfl ?_
            refine g_get (v := .ref sw) (ci := 2) (Cn := RX2) (T := TX2) (N := 3) C k_X2_isLoose_inX2 hs1 rfl 1 (by decide) k_X2_isLoose_3 rfl rfl dX2_isLoose_51 ?_
            refine g_aload_n C dX2_isLoose_54 rfl 0 rfl ?_
            refine g_get (v := .ref u0) (ci := 2) (Cn := RX2) (T := TX2) (N := 3) C k_X2_isLoose_inX2 hs1 rfl 2 (by decide) k_X2_isLoose_1 rfl rfl dX2_isLoose_55 ?_
            refine g_getN (host := "WetMosaicModel") (v := .ref u1) (ci := 3) (Cn := RX3) (T := TX3) (N := 14) C k_X2_isLoose_inX3 hm rfl 2 (by decide) (by decide +kernel) rfl rfl dX2_isLoose_58 ?_
            refine g_iload_n C dX2_isLoose_61 rfl 1 rfl ?_
            refine g_iald C 0 h_fi ht0 (vp_in_nI (by omega) (by omega)) dX2_isLoose_62 ?_
            refine g_eqi (x := fi (nI k).toNatClampNeg) (y := nI (10 * qy (P k) + qx (P k))) (by rw [nI_clamp (by omega)]; exact (hR.1 k (by omega)).1) ?_
            refine g_iload_n C dX2_isLoose_63 rfl 3 rfl ?_
            refine g_iload_n C dX2_isLoose_64 rfl 2 rfl ?_
            refine g_imul C dX2_isLoose_65 ?_
            refine g_iadd C dX2_isLoose_66 ?_
            refine g_eqi (x := (nI (10 * qy (P k) + qx (P k))) + ((nI j) * 10)) (y := nI (pcl (P k) j)) (by first | exact pclA (by assumption) | exact pclB (by assumption)) ?_
            refine g_iald C 0 hs2 ht0 (vp_in_nI (hc j (by omega)) (by omega)) dX2_isLoose_67 ?_
            refine g_eqi (x := f (nI (pcl (P k) j)).toNatClampNeg) (y := f (pcl (P k) j)) (by rw [nI_clamp (Nat.lt_trans (hc j (by omega)) (by decide))]) ?_
            refine g_iconst (v := 1) C dX2_isLoose_68 (by decide) ?_
            refine g_icmp_ge (tgt := 74) C dX2_isLoose_69 (by decide) (fun c_4 => ?_) (fun c_4 => ?_)
            · skip
              refine g_iinc (v := nI (j + 1)) (lv' := [(3, .int (nI (j + 1))), (0, .ref so), (1, .int (nI k)), (2, .int 10)]) C dX2_isLoose_74 3 rfl (by exact nI_add _ 1) (by decide) rfl ?_
              refine g_goto (tgt := 37) C dX2_isLoose_77 (by decide) ?_
              refine g_sub [1, 2, 3, 0] (lv' := [(0, .ref so), (1, .int (nI k)), (2, .int 10), (3, .int (nI (j + 1)))]) rfl ?_
              exact ih (j + 1) (by rw [allB, hj, dec_le (by assumption)]; rfl) (by omega) (by omega)
            · skip
              refine g_iconst (v := 0) C dX2_isLoose_72 (by decide) ?_
              refine g_zret C (by first | exact Or.inl rfl | exact Or.inr rfl | exact gz01 _) hQ (Nat.le_of_ble_eq_true rfl) (Nat.le_of_ble_eq_true rfl) dX2_isLoose_73 ?_
              exact ⟨gz_e0 (by rw [lsp, lse, allB_false (show j < ql (P k) by omega) (dec_nle (by assumption))]; simp), rfl⟩
      refine g_sub [2, 3, 1, 0] (lv' := [(0, .ref so), (1, .int (nI k)), (2, .int 10), (3, .int 0)]) rfl ?_
      exact lp37 (ql (P k) + 1) 0 rfl (by omega) (by omega)
    · skip
      replace c_2 := gz1.mp c_2
      refine g_iconst (v := 1) C dX2_isLoose_28 (by decide) ?_
      refine g_goto (tgt := 34) C dX2_isLoose_29 (by decide) ?_
      refine g_istore_n (lv' := [(2, .int 1), (0, .ref so), (1, .int (nI k))]) C dX2_isLoose_34 rfl (by decide) rfl ?_
      refine g_iconst (v := 0) C dX2_isLoose_35 (by decide) ?_
      refine g_istore_n (lv' := [(3, .int 0), (2, .int 1), (0, .ref so), (1, .int (nI k))]) C dX2_isLoose_36 rfl (by decide) rfl ?_
      have lp37_5 : ∀ (n9 : Nat) (j : Nat) (hj : allB (fun j => decide (1 ≤ f (pcl (P k) j))) j = true) (hi : j ≤ ql (P k)) (hn : ql (P k) + 1 ≤ j + n9), G p l e ({ frames := 0, cells := 0, slots := 0, locals := 0 } : Room) s m args below meth c D A s.heap 4 0 0 Q 37 [(0, .ref so), (1, .int (nI k)), (2, .int 1), (3, .int (nI j))] [] W := by
        intro n9
        induction n9 with
        | zero =>
          intro j hj hi hn
          exfalso; omega
        | succ n9 ih =>
          intro j hj hi hn
          refine g_iload_n C dX2_isLoose_37 rfl 3 rfl ?_
          refine g_aload_n C dX2_isLoose_38 rfl 0 rfl ?_
          refine g_get (v := .ref u0) (ci := 2) (Cn := RX2) (T := TX2) (N := 3) C k_X2_isLoose_inX2 hs1 rfl 2 (by decide) k_X2_isLoose_1 rfl rfl dX2_isLoose_39 ?_
          refine g_getN (host := "WetMosaicModel") (v := .ref u2) (ci := 3) (Cn := RX3) (T := TX3) (N := 14) C k_X2_isLoose_inX3 hm rfl 3 (by decide) (by decide +kernel) rfl rfl dX2_isLoose_42 ?_
          refine g_iload_n C dX2_isLoose_45 rfl 1 rfl ?_
          refine g_iald C 0 h_le ht0 (vp_in_nI (by omega) (by omega)) dX2_isLoose_46 ?_
          refine g_eqi (x := le (nI k).toNatClampNeg) (y := nI (ql (P k))) (by rw [nI_clamp (by omega)]; exact (hR.1 k (by omega)).2.1) ?_
          refine g_icmp_ge (tgt := 80) C dX2_isLoose_47 (by decide) (fun c_6 => ?_) (fun c_6 => ?_)
          · skip
            rw [nI_leI (by omega) (by omega)] at c_6
            refine g_iconst (v := 1) C dX2_isLoose_80 (by decide) ?_
            refine g_zret C (by first | exact Or.inl rfl | exact Or.inr rfl | exact gz01 _) hQ (Nat.le_of_ble_eq_true rfl) (Nat.le_of_ble_eq_true rfl) dX2_isLoose_81 ?_
            exact ⟨gz_e1 (by rw [lsp, lse, show ql (P k) = j by omega]; rw [show allB (fun j => decide (1 ≤ f (cel (qx (P k)) (qy (P k)) (qc (P k)) j))) j = true from hj]; simp [*]), rfl⟩
          · skip
            rw [nI_leI (by omega) (by omega)] at c_6
            refine g_aload_n C dX2_isLoose_50 rfl 0 rfl ?_
            refine g_get (v := .ref sw) (ci := 2) (Cn := RX2) (T := TX2) (N := 3) C k_X2_isLoose_inX2 hs1 rfl 1 (by decide) k_X2_isLoose_3 rfl rfl dX2_isLoose_51 ?_
            refine g_aload_n C dX2_isLoose_54 rfl 0 rfl ?_
            refine g_get (v := .ref u0) (ci := 2) (Cn := RX2) (T := TX2) (N := 3) C k_X2_isLoose_inX2 hs1 rfl 2 (by decide) k_X2_isLoose_1 rfl rfl dX2_isLoose_55 ?_
            refine g_getN (host := "WetMosaicModel") (v := .ref u1) (ci := 3) (Cn := RX3) (T := TX3) (N := 14) C k_X2_isLoose_inX3 hm rfl 2 (by decide) (by decide +kernel) rfl rfl dX2_isLoose_58 ?_
            refine g_iload_n C dX2_isLoose_61 rfl 1 rfl ?_
            refine g_iald C 0 h_fi ht0 (vp_in_nI (by omega) (by omega)) dX2_isLoose_62 ?_
            refine g_eqi (x := fi (nI k).toNatClampNeg) (y := nI (10 * qy (P k) + qx (P k))) (by rw [nI_clamp (by omega)]; exact (hR.1 k (by omega)).1) ?_
            refine g_iload_n C dX2_isLoose_63 rfl 3 rfl ?_
            refine g_iload_n C dX2_isLoose_64 rfl 2 rfl ?_
            refine g_imul C dX2_isLoose_65 ?_
            refine g_iadd C dX2_isLoose_66 ?_
            refine g_eqi (x := (nI (10 * qy (P k) + qx (P k))) + ((nI j) * 1)) (y := nI (pcl (P k) j)) (by first | exact pclA (by assumption) | exact pclB (by assumption)) ?_
            refine g_iald C 0 hs2 ht0 (vp_in_nI (hc j (by omega)) (by omega)) dX2_isLoose_67 ?_
            refine g_eqi (x := f (nI (pcl (P k) j)).toNatClampNeg) (y := f (pcl (P k) j)) (by rw [nI_clamp (Nat.lt_trans (hc j (by omega)) (by decide))]) ?_
            refine g_iconst (v := 1) C dX2_isLoose_68 (by decide) ?_
            refine g_icmp_ge (tgt := 74) C dX2_isLoose_69 (by decide) (fun c_7 => ?_) (fun c_7 => ?_)
            · skip
              refine g_iinc (v := nI (j + 1)) (lv' := [(3, .int (nI (j + 1))), (0, .ref so), (1, .int (nI k)), (2, .int 1)]) C dX2_isLoose_74 3 rfl (by exact nI_add _ 1) (by decide) rfl ?_
              refine g_goto (tgt := 37) C dX2_isLoose_77 (by decide) ?_
              refine g_sub [1, 2, 3, 0] (lv' := [(0, .ref so), (1, .int (nI k)), (2, .int 1), (3, .int (nI (j + 1)))]) rfl ?_
              exact ih (j + 1) (by rw [allB, hj, dec_le (by assumption)]; rfl) (by omega) (by omega)
            · skip
              refine g_iconst (v := 0) C dX2_isLoose_72 (by decide) ?_
              refine g_zret C (by first | exact Or.inl rfl | exact Or.inr rfl | exact gz01 _) hQ (Nat.le_of_ble_eq_true rfl) (Nat.le_of_ble_eq_true rfl) dX2_isLoose_73 ?_
              exact ⟨gz_e0 (by rw [lsp, lse, allB_false (show j < ql (P k) by omega) (dec_nle (by assumption))]; simp), rfl⟩
      refine g_sub [2, 3, 1, 0] (lv' := [(0, .ref so), (1, .int (nI k)), (2, .int 1), (3, .int 0)]) rfl ?_
      exact lp37_5 (ql (P k) + 1) 0 rfl (by omega) (by omega)
  · skip
    replace c_1 := gz1.mp c_1
    refine g_iconst (v := 0) C dX2_isLoose_13 (by decide) ?_
    refine g_zret C (by first | exact Or.inl rfl | exact Or.inr rfl | exact gz01 _) hQ (Nat.le_of_ble_eq_true rfl) (Nat.le_of_ble_eq_true rfl) dX2_isLoose_14 ?_
    exact ⟨gz_e0 (by simp [lsp, lse, *]), rfl⟩

theorem k_X2_wetOnes_inX2 : ∀ w ∈ wsX20, w ∈ wsX2_wetOnes := by decide +kernel
theorem k_X2_wetOnes_1 : Cond.fieldLink RX2 15 "WetMosaicModel$State" "wet" "[I" ∈ wsX2_wetOnes := by decide +kernel
set_option maxHeartbeats 4000000 in
set_option maxRecDepth 100000 in
theorem c_X2_wetOnes (l : Launch) (D : va_G) (tys : List (ClassId × FieldType)) (cI : ClassId) (ht0 : tys[0]? = some (cI, .int)) (W : va_W) (u0 so sw : Nat) (hs : Int32) (f : Nat → Int32) (hs1 : (so, .inr (2, [.int hs, .ref sw, .ref u0])) ∈ W) (hs2 : (sw, .inl (cI, 80, .inl (f))) ∈ W) : gM l yX2_wetOnes wsX2_wetOnes ({ frames := 0, cells := 0, slots := 0, locals := 0 } : Room) D tys [.ref so] W (gIs (some (.int (nI (cnt (fun c => decide (1 ≤ f c)) 80)))) W) 0 0 := by
  refine gM_of (by decide +kernel) rfl (Nat.le_of_ble_eq_true rfl) ?_
  intro p e s m args below meth c A Q hin C hQ
  refine g_sub [0] (lv' := [(0, .ref so)]) rfl ?_
  refine g_iconst (v := 0) C dX2_wetOnes_0 (by decide) ?_
  refine g_istore_n (lv' := [(1, .int 0), (0, .ref so)]) C dX2_wetOnes_1 rfl (by decide) rfl ?_
  refine g_aload_n C dX2_wetOnes_2 rfl 1 rfl ?_
  refine g_get (v := .ref sw) (ci := 2) (Cn := RX2) (T := TX2) (N := 3) C k_X2_wetOnes_inX2 hs1 rfl 1 (by decide) k_X2_wetOnes_1 rfl rfl dX2_wetOnes_3 ?_
  refine g_astore_n (lv' := [(2, .ref sw), (1, .int 0), (0, .ref so)]) C dX2_wetOnes_6 rfl (by decide) rfl ?_
  refine g_aload_n C dX2_wetOnes_7 rfl 0 rfl ?_
  refine g_alen (v := 80) C 0 hs2 ht0 rfl dX2_wetOnes_8 ?_
  refine g_istore_n (lv' := [(3, .int 80), (2, .ref sw), (1, .int 0), (0, .ref so)]) C dX2_wetOnes_9 rfl (by decide) rfl ?_
  refine g_iconst (v := 0) C dX2_wetOnes_10 (by decide) ?_
  refine g_istore (lv' := [(4, .int 0), (3, .int 80), (2, .ref sw), (1, .int 0), (0, .ref so)]) C dX2_wetOnes_11 (by decide) rfl ?_
  have lp13 : ∀ (n9 : Nat) (i q : Nat) (hq : q = cnt (fun c => decide (1 ≤ f c)) i) (hi : i ≤ 80) (hn : 81 ≤ i + n9), G p l e ({ frames := 0, cells := 0, slots := 0, locals := 0 } : Room) s m args below meth c D A s.heap 6 0 0 Q 13 [(0, .ref so), (1, .int (nI q)), (2, .ref sw), (3, .int 80), (4, .int (nI i))] [] W := by
    intro n9
    induction n9 with
    | zero =>
      intro i q hq hi hn
      exfalso; omega
    | succ n9 ih =>
      intro i q hq hi hn
      refine g_iload C dX2_wetOnes_13 4 rfl ?_
      refine g_iload_n C dX2_wetOnes_15 rfl 3 rfl ?_
      refine g_icmp_ge (tgt := 44) C dX2_wetOnes_16 (by decide) (fun c_1 => ?_) (fun c_1 => ?_)
      · skip
        rw [show (80 : Int32) = nI 80 from rfl, nI_leI (by omega) (by omega)] at c_1
        refine g_iload_n C dX2_wetOnes_44 rfl 1 rfl ?_
        refine g_iret C hQ (Nat.le_of_ble_eq_true rfl) (Nat.le_of_ble_eq_true rfl) dX2_wetOnes_45 ?_
        exact ⟨by rw [hq, show i = 80 by omega], rfl⟩
      · skip
        rw [show (80 : Int32) = nI 80 from rfl, nI_leI (by omega) (by omega)] at c_1
        refine g_aload_n C dX2_wetOnes_19 rfl 2 rfl ?_
        refine g_iload C dX2_wetOnes_20 4 rfl ?_
        refine g_iald C 0 hs2 ht0 (vp_in_nI (by omega) (by omega)) dX2_wetOnes_22 ?_
        refine g_eqi (x := f (nI i).toNatClampNeg) (y := f i) (by rw [nI_clamp (by omega)]) ?_
        refine g_istore (lv' := [(5, .int (f i)), (0, .ref so), (1, .int (nI q)), (2, .ref sw), (3, .int 80), (4, .int (nI i))]) C dX2_wetOnes_23 (by decide) rfl ?_
        refine g_iload_n C dX2_wetOnes_25 rfl 2 rfl ?_
        refine g_iload C dX2_wetOnes_26 0 rfl ?_
        refine g_if_le (tgt := 35) C dX2_wetOnes_28 (by decide) (fun c_2 => ?_) (fun c_2 => ?_)
        · skip
          refine g_iconst (v := 0) C dX2_wetOnes_35 (by decide) ?_
          refine g_iadd C dX2_wetOnes_36 ?_
          refine g_eqi (x := (nI q) + 0) (y := nI (q + 0)) (nI_add _ 0) ?_
          refine g_istore_n (lv' := [(1, .int (nI (q + 0))), (5, .int (f i)), (0, .ref so), (2, .ref sw), (3, .int 80), (4, .int (nI i))]) C dX2_wetOnes_37 rfl (by decide) rfl ?_
          refine g_iinc (v := nI (i + 1)) (lv' := [(4, .int (nI (i + 1))), (1, .int (nI (q + 0))), (5, .int (f i)), (0, .ref so), (2, .ref sw), (3, .int 80)]) C dX2_wetOnes_38 5 rfl (by exact nI_add _ 1) (by decide) rfl ?_
          refine g_goto (tgt := 13) C dX2_wetOnes_41 (by decide) ?_
          refine g_sub [3, 1, 4, 5, 0] (lv' := [(0, .ref so), (1, .int (nI (q + 0))), (2, .ref sw), (3, .int 80), (4, .int (nI (i + 1)))]) rfl ?_
          exact ih (i + 1) _ (by rw [hq]; first | exact (cnt_f (decide_eq_false (fun h => (i_1le.mp h) (by assumption)))).symm | exact (cnt_t (decide_eq_true (i_1le.mpr (by assumption)))).symm) (by omega) (by omega)
        · skip
          refine g_iconst (v := 1) C dX2_wetOnes_31 (by decide) ?_
          refine g_goto (tgt := 36) C dX2_wetOnes_32 (by decide) ?_
          refine g_iadd C dX2_wetOnes_36 ?_
          refine g_eqi (x := (nI q) + 1) (y := nI (q + 1)) (nI_add _ 1) ?_
          refine g_istore_n (lv' := [(1, .int (nI (q + 1))), (5, .int (f i)), (0, .ref so), (2, .ref sw), (3, .int 80), (4, .int (nI i))]) C dX2_wetOnes_37 rfl (by decide) rfl ?_
          refine g_iinc (v := nI (i + 1)) (lv' := [(4, .int (nI (i + 1))), (1, .int (nI (q + 1))), (5, .int (f i)), (0, .ref so), (2, .ref sw), (3, .int 80)]) C dX2_wetOnes_38 5 rfl (by exact nI_add _ 1) (by decide) rfl ?_
          refine g_goto (tgt := 13) C dX2_wetOnes_41 (by decide) ?_
          refine g_sub [3, 1, 4, 5, 0] (lv' := [(0, .ref so), (1, .int (nI (q + 1))), (2, .ref sw), (3, .int 80), (4, .int (nI (i + 1)))]) rfl ?_
          exact ih (i + 1) _ (by rw [hq]; first | exact (cnt_f (decide_eq_false (fun h => (i_1le.mp h) (by assumption)))).symm | exact (cnt_t (decide_eq_true (i_1le.mpr (by assumption)))).symm) (by omega) (by omega)
  refine g_sub [4, 3, 2, 1, 0] (lv' := [(0, .ref so), (1, .int 0), (2, .ref sw), (3, .int 80), (4, .int 0)]) rfl ?_
  exact lp13 81 0 0 rfl (by omega) (by omega)

theorem k_X3_shown_inX3 : ∀ w ∈ wsX30, w ∈ wsX3_shown := by decide +kernel
theorem k_X3_shown_1 : Cond.fieldLink RX3 28 "WetMosaicModel" "cover" "[I" ∈ wsX3_shown := by decide +kernel
theorem k_X3_shown_2 : Cond.fieldLink RX3 19 "WetMosaicModel" "seen" "[I" ∈ wsX3_shown := by decide +kernel
set_option maxHeartbeats 4000000 in
set_option maxRecDepth 100000 in
theorem c_X3_shown (l : Launch) (D : va_G) (tys : List (ClassId × FieldType)) (cI : ClassId) (ht0 : tys[0]? = some (cI, .int)) (W : va_W) (u0 u1 u2 u3 u4 u5 u6 u7 u8 u9 u10 u11 u12 u13 u14 np : Nat) (th : Int32) (fi le ac se hh ou : Nat → Int32) (P : Nat → Pd) (cover : Nat → Int32) (c9 : Nat) (hc9 : c9 < 80) (hnp : np ≤ 100) (hR : Mrel np P fi le ac se hh ou) (hcv : CovOk np cover) (hm : (u0, .inr (3, [.int th, .int (nI np), .ref u1, .ref u2, .ref u3, .ref u4, .ref u5, .ref u6, .ref u7, .ref u8, .ref u9, .ref u10, .ref u11, .ref u13])) ∈ W) (h_se : (u4, .inl (cI, 100, .inl (se))) ∈ W) (h_cover : (u7, .inl (cI, 80, .inl (cover))) ∈ W) : gM l yX3_shown wsX3_shown ({ frames := 0, cells := 0, slots := 0, locals := 0 } : Room) D tys [.ref u0, .int (nI c9)] W (gIs (some (.int (colv np P cover c9))) W) 0 0 := by
  refine gM_of (by decide +kernel) rfl (Nat.le_of_ble_eq_true rfl) ?_
  intro p e s m args below meth c A Q hin C hQ
  refine g_sub [0, 1] (lv' := [(0, .ref u0), (1, .int (nI c9))]) rfl ?_
  refine g_aload_n C dX3_shown_0 rfl 0 rfl ?_
  refine g_get (v := .ref u7) (ci := 3) (Cn := RX3) (T := TX3) (N := 14) C k_X3_shown_inX3 hm rfl 8 (by decide) k_X3_shown_1 rfl rfl dX3_shown_1 ?_
  refine g_iload_n C dX3_shown_4 rfl 1 rfl ?_
  refine g_iald C 0 h_cover ht0 (vp_in_nI (by omega) (by omega)) dX3_shown_5 ?_
  refine g_eqi (x := cover (nI c9).toNatClampNeg) (y := cover c9) (by rw [nI_clamp (by omega)]) ?_
  rcases hcv c9 hc9 with hn | ⟨k, hk, hck⟩
  · skip
    refine g_eqi (x := cover c9) (y := -1) hn ?_
    refine g_iconst (v := (-1)) C dX3_shown_6 (by decide) ?_
    refine g_icmp_ne (tgt := 14) C dX3_shown_7 (by decide) (fun c_1 => by exfalso; revert c_1; decide) (fun c_1 => ?_)
    refine g_iconst (v := (-1)) C dX3_shown_10 (by decide) ?_
    refine g_goto (tgt := 25) C dX3_shown_11 (by decide) ?_
    refine g_iret C hQ (Nat.le_of_ble_eq_true rfl) (Nat.le_of_ble_eq_true rfl) dX3_shown_25 ?_
    first | exact ⟨by rw [colv_k hnp hk hck], rfl⟩ | exact ⟨by rw [colv_n hnp hn], rfl⟩
  · skip
    refine g_eqi (x := cover c9) (y := nI k) hck ?_
    refine g_iconst (v := (-1)) C dX3_shown_6 (by decide) ?_
    refine g_icmp_ne (tgt := 14) C dX3_shown_7 (by decide) (fun c_2 => ?_) (fun c_2 => ?_)
    · skip
      refine g_aload_n C dX3_shown_14 rfl 0 rfl ?_
      refine g_get (v := .ref u4) (ci := 3) (Cn := RX3) (T := TX3) (N := 14) C k_X3_shown_inX3 hm rfl 5 (by decide) k_X3_shown_2 rfl rfl dX3_shown_15 ?_
      refine g_aload_n C dX3_shown_18 rfl 0 rfl ?_
      refine g_get (v := .ref u7) (ci := 3) (Cn := RX3) (T := TX3) (N := 14) C k_X3_shown_inX3 hm rfl 8 (by decide) k_X3_shown_1 rfl rfl dX3_shown_19 ?_
      refine g_iload_n C dX3_shown_22 rfl 1 rfl ?_
      refine g_iald C 0 h_cover ht0 (vp_in_nI hc9 (by omega)) dX3_shown_23 ?_
      refine g_eqi (x := cover (nI c9).toNatClampNeg) (y := nI k) (by rw [nI_clamp (by omega)]; exact hck) ?_
      refine g_iald C 0 h_se ht0 (vp_in_nI (by omega) (by omega)) dX3_shown_24 ?_
      refine g_eqi (x := se (nI k).toNatClampNeg) (y := shw (P k)) (by rw [nI_clamp (by omega)]; exact (hR.1 k (by omega)).2.2.2.1) ?_
      refine g_iret C hQ (Nat.le_of_ble_eq_true rfl) (Nat.le_of_ble_eq_true rfl) dX3_shown_25 ?_
      first | exact ⟨by rw [colv_k hnp hk hck], rfl⟩ | exact ⟨by rw [colv_n hnp hn], rfl⟩
    · skip
      exact absurd c_2 (m1_nI (by omega))

theorem k_X3_cellTold_inX3 : ∀ w ∈ wsX30, w ∈ wsX3_cellTold := by decide +kernel
theorem k_X3_cellTold_1 : Cond.fieldLink RX3 45 "WetMosaicModel" "s" "LWetMosaicModel$State;" ∈ wsX3_cellTold := by decide +kernel
theorem k_X3_cellTold_inX2 : ∀ w ∈ wsX20, w ∈ wsX3_cellTold := by decide +kernel
theorem k_X3_cellTold_3 : Cond.fieldLink RX3 28 "WetMosaicModel" "cover" "[I" ∈ wsX3_cellTold := by decide +kernel
set_option maxHeartbeats 4000000 in
set_option maxRecDepth 100000 in
theorem c_X3_cellTold (l : Launch) (D : va_G) (tys : List (ClassId × FieldType)) (cI : ClassId) (ht0 : tys[0]? = some (cI, .int)) (W : va_W) (u0 u1 u2 u3 u4 u5 u6 u7 u8 u9 u10 u11 u12 u13 u14 np : Nat) (th : Int32) (fi le ac se hh ou : Nat → Int32) (P : Nat → Pd) (hr : Nat) (wet cover : Nat → Int32) (c9 w : Nat) (hc9 : c9 < 80) (hw : w ≤ 2) (hnp : np ≤ 100) (hR : Mrel np P fi le ac se hh ou) (hcv : CovOk np cover) (hm : (u0, .inr (3, [.int th, .int (nI np), .ref u1, .ref u2, .ref u3, .ref u4, .ref u5, .ref u6, .ref u7, .ref u8, .ref u9, .ref u10, .ref u11, .ref u13])) ∈ W) (hs1 : (u11, .inr (2, [.int (nI hr), .ref u12, .ref u0])) ∈ W) (hs2 : (u12, .inl (cI, 80, .inl (wet))) ∈ W) (h_fi : (u1, .inl (cI, 100, .inl (fi))) ∈ W) (h_le : (u2, .inl (cI, 100, .inl (le))) ∈ W) (h_ac : (u3, .inl (cI, 100, .inl (ac))) ∈ W) (h_se : (u4, .inl (cI, 100, .inl (se))) ∈ W) (h_hh : (u5, .inl (cI, 100, .inl (hh))) ∈ W) (h_ou : (u6, .inl (cI, 100, .inl (ou))) ∈ W) (h_cover : (u7, .inl (cI, 80, .inl (cover))) ∈ W) : gM l yX3_cellTold wsX3_cellTold ({ frames := 1, cells := 0, slots := 0, locals := 21 } : Room) D tys [.ref u0, .int (nI c9), .int (nI w)] W (gIs (some (.int (cfact np P wet cover c9 w))) W) 0 0 := by
  refine gM_of (by decide +kernel) rfl (Nat.le_of_ble_eq_true rfl) ?_
  intro p e s m args below meth c A Q hin C hQ
  refine g_sub [0, 1, 2] (lv' := [(0, .ref u0), (1, .int (nI c9)), (2, .int (nI w))]) rfl ?_
  rcases (show w = 0 ∨ w = 1 ∨ w = 2 by omega) with rfl | rfl | rfl
  · skip
    refine g_iload_n C dX3_cellTold_0 rfl 2 rfl ?_
    refine g_if_ne (tgt := 16) C dX3_cellTold_1 (by decide) (fun c_1 => by exfalso; revert c_1; decide) (fun c_1 => ?_)
    refine g_aload_n C dX3_cellTold_4 rfl 0 rfl ?_
    refine g_get (v := .ref u11) (ci := 3) (Cn := RX3) (T := TX3) (N := 14) C k_X3_cellTold_inX3 hm rfl 12 (by decide) k_X3_cellTold_1 rfl rfl dX3_cellTold_5 ?_
    refine g_getN (host := "WetMosaicModel") (v := .ref u12) (ci := 2) (Cn := RX2) (T := TX2) (N := 3) C k_X3_cellTold_inX2 hs1 rfl 1 (by decide) (by decide +kernel) rfl rfl dX3_cellTold_8 ?_
    refine g_iload_n C dX3_cellTold_11 rfl 1 rfl ?_
    refine g_iald C 0 hs2 ht0 (vp_in_nI (by omega) (by omega)) dX3_cellTold_12 ?_
    refine g_eqi (x := wet (nI c9).toNatClampNeg) (y := wet c9) (by rw [nI_clamp (by omega)]) ?_
    refine g_goto (tgt := 35) C dX3_cellTold_13 (by decide) ?_
    refine g_iret C hQ (Nat.le_of_ble_eq_true rfl) (Nat.le_of_ble_eq_true rfl) dX3_cellTold_35 ?_
    exact ⟨by simp [cfact], rfl⟩
  · skip
    refine g_iload_n C dX3_cellTold_0 rfl 2 rfl ?_
    refine g_if_ne (tgt := 16) C dX3_cellTold_1 (by decide) (fun c_2 => ?_) (fun c_2 => by exfalso; revert c_2; decide)
    refine g_iload_n C dX3_cellTold_16 rfl 2 rfl ?_
    refine g_iconst (v := 1) C dX3_cellTold_17 (by decide) ?_
    refine g_icmp_ne (tgt := 30) C dX3_cellTold_18 (by decide) (fun c_3 => by exfalso; revert c_3; decide) (fun c_3 => ?_)
    refine g_aload_n C dX3_cellTold_21 rfl 0 rfl ?_
    refine g_get (v := .ref u7) (ci := 3) (Cn := RX3) (T := TX3) (N := 14) C k_X3_cellTold_inX3 hm rfl 8 (by decide) k_X3_cellTold_3 rfl rfl dX3_cellTold_22 ?_
    refine g_iload_n C dX3_cellTold_25 rfl 1 rfl ?_
    refine g_iald C 0 h_cover ht0 (vp_in_nI (by omega) (by omega)) dX3_cellTold_26 ?_
    refine g_eqi (x := cover (nI c9).toNatClampNeg) (y := cover c9) (by rw [nI_clamp (by omega)]) ?_
    refine g_goto (tgt := 35) C dX3_cellTold_27 (by decide) ?_
    refine g_iret C hQ (Nat.le_of_ble_eq_true rfl) (Nat.le_of_ble_eq_true rfl) dX3_cellTold_35 ?_
    exact ⟨by simp [cfact], rfl⟩
  · skip
    refine g_iload_n C dX3_cellTold_0 rfl 2 rfl ?_
    refine g_if_ne (tgt := 16) C dX3_cellTold_1 (by decide) (fun c_4 => ?_) (fun c_4 => by exfalso; revert c_4; decide)
    refine g_iload_n C dX3_cellTold_16 rfl 2 rfl ?_
    refine g_iconst (v := 1) C dX3_cellTold_17 (by decide) ?_
    refine g_icmp_ne (tgt := 30) C dX3_cellTold_18 (by decide) (fun c_5 => ?_) (fun c_5 => by exfalso; revert c_5; decide)
    refine g_aload_n C dX3_cellTold_30 rfl 0 rfl ?_
    refine g_iload_n C dX3_cellTold_31 rfl 1 rfl ?_
    refine g_callV (ci := 3) (Cn := RX3) (As := [.int (nI c9)]) (rest := []) C hm rfl rfl (c_X3_shown l D tys cI ht0 W u0 u1 u2 u3 u4 u5 u6 u7 u8 u9 u10 u11 u12 u13 u14 np th fi le ac se hh ou P cover c9 (by omega) hnp hR hcv hm h_se h_cover) (cwV 1 C.ts gX3_cellTold_X3_shown rfl rfl rfl (by decide +kernel) ⟨(Nat.le_of_ble_eq_true rfl), (Nat.le_of_ble_eq_true rfl)⟩) rfl rfl (Nat.le_of_ble_eq_true rfl) dX3_cellTold_32 (Nat.le_of_ble_eq_true rfl) (Nat.le_of_ble_eq_true rfl) (g_is (x := .int (colv np P cover c9)) (W1 := W) ?_)
    refine g_iret C hQ (Nat.le_of_ble_eq_true rfl) (Nat.le_of_ble_eq_true rfl) dX3_cellTold_35 ?_
    exact ⟨by simp [cfact], rfl⟩

theorem k_X3_pieceTold_inX3 : ∀ w ∈ wsX30, w ∈ wsX3_pieceTold := by decide +kernel
theorem k_X3_pieceTold_1 : Cond.fieldLink RX3 9 "WetMosaicModel" "first" "[I" ∈ wsX3_pieceTold := by decide +kernel
theorem k_X3_pieceTold_2 : Cond.fieldLink RX3 13 "WetMosaicModel" "length" "[I" ∈ wsX3_pieceTold := by decide +kernel
theorem k_X3_pieceTold_3 : Cond.fieldLink RX3 16 "WetMosaicModel" "across" "[I" ∈ wsX3_pieceTold := by decide +kernel
theorem k_X3_pieceTold_4 : Cond.fieldLink RX3 19 "WetMosaicModel" "seen" "[I" ∈ wsX3_pieceTold := by decide +kernel
theorem k_X3_pieceTold_5 : Cond.fieldLink RX3 22 "WetMosaicModel" "hidden" "[I" ∈ wsX3_pieceTold := by decide +kernel
theorem k_X3_pieceTold_6 : Cond.fieldLink RX3 45 "WetMosaicModel" "s" "LWetMosaicModel$State;" ∈ wsX3_pieceTold := by decide +kernel
theorem k_X3_pieceTold_7 : Cond.fieldLink RX3 25 "WetMosaicModel" "isOut" "[I" ∈ wsX3_pieceTold := by decide +kernel
set_option maxHeartbeats 4000000 in
set_option maxRecDepth 100000 in
theorem c_X3_pieceTold (l : Launch) (D : va_G) (tys : List (ClassId × FieldType)) (cI : ClassId) (ht0 : tys[0]? = some (cI, .int)) (W : va_W) (u0 u1 u2 u3 u4 u5 u6 u7 u8 u9 u10 u11 u12 u13 u14 np : Nat) (th : Int32) (fi le ac se hh ou : Nat → Int32) (P : Nat → Pd) (hr : Nat) (wet cover : Nat → Int32) (k w : Nat) (hk : k < np) (hw : w ≤ 7) (hnp : np ≤ 100) (hR : Mrel np P fi le ac se hh ou) (hg : Pok np P) (hm : (u0, .inr (3, [.int th, .int (nI np), .ref u1, .ref u2, .ref u3, .ref u4, .ref u5, .ref u6, .ref u7, .ref u8, .ref u9, .ref u10, .ref u11, .ref u13])) ∈ W) (hs1 : (u11, .inr (2, [.int (nI hr), .ref u12, .ref u0])) ∈ W) (hs2 : (u12, .inl (cI, 80, .inl (wet))) ∈ W) (h_fi : (u1, .inl (cI, 100, .inl (fi))) ∈ W) (h_le : (u2, .inl (cI, 100, .inl (le))) ∈ W) (h_ac : (u3, .inl (cI, 100, .inl (ac))) ∈ W) (h_se : (u4, .inl (cI, 100, .inl (se))) ∈ W) (h_hh : (u5, .inl (cI, 100, .inl (hh))) ∈ W) (h_ou : (u6, .inl (cI, 100, .inl (ou))) ∈ W) (h_cover : (u7, .inl (cI, 80, .inl (cover))) ∈ W) : gM l yX3_pieceTold wsX3_pieceTold ({ frames := 1, cells := 0, slots := 0, locals := 23 } : Room) D tys [.ref u0, .int (nI k), .int (nI w)] W (gIs (some (.int (pfact (P k) wet w))) W) 0 0 := by
  refine gM_of (by decide +kernel) rfl (Nat.le_of_ble_eq_true rfl) ?_
  intro p e s m args below meth c A Q hin C hQ
  refine g_sub [0, 1, 2] (lv' := [(0, .ref u0), (1, .int (nI k)), (2, .int (nI w))]) rfl ?_
  obtain ⟨hg1, hg2, hg3, hg4, hg5⟩ := hg k hk
  rcases (show w = 0 ∨ w = 1 ∨ w = 2 ∨ w = 3 ∨ w = 4 ∨ w = 5 ∨ w = 6 ∨ w = 7 by omega) with rfl | rfl | rfl | rfl | rfl | rfl | rfl | rfl
  · skip
    refine g_iload_n C dX3_pieceTold_0 rfl 2 rfl ?_
    refine g_tableIn (off := 43) (tgt := 44) C dX3_pieceTold_1 (by decide) (by decide) (by decide) (by decide) ?_
    refine g_aload_n C dX3_pieceTold_44 rfl 0 rfl ?_
    refine g_get (v := .ref u1) (ci := 3) (Cn := RX3) (T := TX3) (N := 14) C k_X3_pieceTold_inX3 hm rfl 2 (by decide) k_X3_pieceTold_1 rfl rfl dX3_pieceTold_45 ?_
    refine g_iload_n C dX3_pieceTold_48 rfl 1 rfl ?_
    refine g_iald C 0 h_fi ht0 (vp_in_nI (by omega) (by omega)) dX3_pieceTold_49 ?_
    refine g_eqi (x := fi (nI k).toNatClampNeg) (y := nI (10 * qy (P k) + qx (P k))) (by rw [nI_clamp (by omega)]; exact (hR.1 k (by omega)).1) ?_
    refine g_bipush (v := 10) C dX3_pieceTold_50 (by decide) ?_
    refine g_irem C dX3_pieceTold_52 (by decide) ?_
    refine g_eqi (x := (nI (10 * qy (P k) + qx (P k))) - (nI (10 * qy (P k) + qx (P k))) / 10 * 10) (y := nI (qx (P k))) ((remI _ 10 (by omega) (by omega) (by omega) rfl).trans (by rw [show (10 * qy (P k) + qx (P k)) % 10 = qx (P k) by omega])) ?_
    refine g_iret C hQ (Nat.le_of_ble_eq_true rfl) (Nat.le_of_ble_eq_true rfl) dX3_pieceTold_53 ?_
    first | exact ⟨rfl, rfl⟩ | exact ⟨gz_e0 (by assumption), rfl⟩ | exact ⟨gz_e1 (by assumption), rfl⟩
  · skip
    refine g_iload_n C dX3_pieceTold_0 rfl 2 rfl ?_
    refine g_tableIn (off := 53) (tgt := 54) C dX3_pieceTold_1 (by decide) (by decide) (by decide) (by decide) ?_
    refine g_aload_n C dX3_pieceTold_54 rfl 0 rfl ?_
    refine g_get (v := .ref u1) (ci := 3) (Cn := RX3) (T := TX3) (N := 14) C k_X3_pieceTold_inX3 hm rfl 2 (by decide) k_X3_pieceTold_1 rfl rfl dX3_pieceTold_55 ?_
    refine g_iload_n C dX3_pieceTold_58 rfl 1 rfl ?_
    refine g_iald C 0 h_fi ht0 (vp_in_nI (by omega) (by omega)) dX3_pieceTold_59 ?_
    refine g_eqi (x := fi (nI k).toNatClampNeg) (y := nI (10 * qy (P k) + qx (P k))) (by rw [nI_clamp (by omega)]; exact (hR.1 k (by omega)).1) ?_
    refine g_bipush (v := 10) C dX3_pieceTold_60 (by decide) ?_
    refine g_idiv C dX3_pieceTold_62 (by decide) ?_
    refine g_eqi (x := (nI (10 * qy (P k) + qx (P k))) / 10) (y := nI (qy (P k))) ((divI _ 10 (by omega) (by omega) (by omega) rfl).trans (by rw [show (10 * qy (P k) + qx (P k)) / 10 = qy (P k) by omega])) ?_
    refine g_iret C hQ (Nat.le_of_ble_eq_true rfl) (Nat.le_of_ble_eq_true rfl) dX3_pieceTold_63 ?_
    first | exact ⟨rfl, rfl⟩ | exact ⟨gz_e0 (by assumption), rfl⟩ | exact ⟨gz_e1 (by assumption), rfl⟩
  · skip
    refine g_iload_n C dX3_pieceTold_0 rfl 2 rfl ?_
    refine g_tableIn (off := 63) (tgt := 64) C dX3_pieceTold_1 (by decide) (by decide) (by decide) (by decide) ?_
    refine g_aload_n C dX3_pieceTold_64 rfl 0 rfl ?_
    refine g_get (v := .ref u2) (ci := 3) (Cn := RX3) (T := TX3) (N := 14) C k_X3_pieceTold_inX3 hm rfl 3 (by decide) k_X3_pieceTold_2 rfl rfl dX3_pieceTold_65 ?_
    refine g_iload_n C dX3_pieceTold_68 rfl 1 rfl ?_
    refine g_iald C 0 h_le ht0 (vp_in_nI (by omega) (by omega)) dX3_pieceTold_69 ?_
    refine g_eqi (x := le (nI k).toNatClampNeg) (y := nI (ql (P k))) (by rw [nI_clamp (by omega)]; exact (hR.1 k (by omega)).2.1) ?_
    refine g_iret C hQ (Nat.le_of_ble_eq_true rfl) (Nat.le_of_ble_eq_true rfl) dX3_pieceTold_70 ?_
    first | exact ⟨rfl, rfl⟩ | exact ⟨gz_e0 (by assumption), rfl⟩ | exact ⟨gz_e1 (by assumption), rfl⟩
  · skip
    refine g_iload_n C dX3_pieceTold_0 rfl 2 rfl ?_
    refine g_tableIn (off := 70) (tgt := 71) C dX3_pieceTold_1 (by decide) (by decide) (by decide) (by decide) ?_
    refine g_aload_n C dX3_pieceTold_71 rfl 0 rfl ?_
    refine g_get (v := .ref u3) (ci := 3) (Cn := RX3) (T := TX3) (N := 14) C k_X3_pieceTold_inX3 hm rfl 4 (by decide) k_X3_pieceTold_3 rfl rfl dX3_pieceTold_72 ?_
    refine g_iload_n C dX3_pieceTold_75 rfl 1 rfl ?_
    refine g_iald C 0 h_ac ht0 (vp_in_nI (by omega) (by omega)) dX3_pieceTold_76 ?_
    refine g_eqi (x := ac (nI k).toNatClampNeg) (y := gz (qc (P k))) (by rw [nI_clamp (by omega)]; exact (hR.1 k (by omega)).2.2.1) ?_
    refine g_iret C hQ (Nat.le_of_ble_eq_true rfl) (Nat.le_of_ble_eq_true rfl) dX3_pieceTold_77 ?_
    first | exact ⟨rfl, rfl⟩ | exact ⟨gz_e0 (by assumption), rfl⟩ | exact ⟨gz_e1 (by assumption), rfl⟩
  · skip
    refine g_iload_n C dX3_pieceTold_0 rfl 2 rfl ?_
    refine g_tableIn (off := 77) (tgt := 78) C dX3_pieceTold_1 (by decide) (by decide) (by decide) (by decide) ?_
    refine g_aload_n C dX3_pieceTold_78 rfl 0 rfl ?_
    refine g_get (v := .ref u4) (ci := 3) (Cn := RX3) (T := TX3) (N := 14) C k_X3_pieceTold_inX3 hm rfl 5 (by decide) k_X3_pieceTold_4 rfl rfl dX3_pieceTold_79 ?_
    refine g_iload_n C dX3_pieceTold_82 rfl 1 rfl ?_
    refine g_iald C 0 h_se ht0 (vp_in_nI (by omega) (by omega)) dX3_pieceTold_83 ?_
    refine g_eqi (x := se (nI k).toNatClampNeg) (y := shw (P k)) (by rw [nI_clamp (by omega)]; exact (hR.1 k (by omega)).2.2.2.1) ?_
    refine g_iret C hQ (Nat.le_of_ble_eq_true rfl) (Nat.le_of_ble_eq_true rfl) dX3_pieceTold_84 ?_
    first | exact ⟨rfl, rfl⟩ | exact ⟨gz_e0 (by assumption), rfl⟩ | exact ⟨gz_e1 (by assumption), rfl⟩
  · skip
    refine g_iload_n C dX3_pieceTold_0 rfl 2 rfl ?_
    refine g_tableIn (off := 84) (tgt := 85) C dX3_pieceTold_1 (by decide) (by decide) (by decide) (by decide) ?_
    refine g_aload_n C dX3_pieceTold_85 rfl 0 rfl ?_
    refine g_get (v := .ref u5) (ci := 3) (Cn := RX3) (T := TX3) (N := 14) C k_X3_pieceTold_inX3 hm rfl 6 (by decide) k_X3_pieceTold_5 rfl rfl dX3_pieceTold_86 ?_
    refine g_iload_n C dX3_pieceTold_89 rfl 1 rfl ?_
    refine g_iald C 0 h_hh ht0 (vp_in_nI (by omega) (by omega)) dX3_pieceTold_90 ?_
    refine g_eqi (x := hh (nI k).toNatClampNeg) (y := oth (P k)) (by rw [nI_clamp (by omega)]; exact (hR.1 k (by omega)).2.2.2.2.1) ?_
    refine g_iret C hQ (Nat.le_of_ble_eq_true rfl) (Nat.le_of_ble_eq_true rfl) dX3_pieceTold_91 ?_
    first | exact ⟨rfl, rfl⟩ | exact ⟨gz_e0 (by assumption), rfl⟩ | exact ⟨gz_e1 (by assumption), rfl⟩
  · skip
    refine g_iload_n C dX3_pieceTold_0 rfl 2 rfl ?_
    refine g_tableIn (off := 91) (tgt := 92) C dX3_pieceTold_1 (by decide) (by decide) (by decide) (by decide) ?_
    refine g_aload_n C dX3_pieceTold_92 rfl 0 rfl ?_
    refine g_get (v := .ref u11) (ci := 3) (Cn := RX3) (T := TX3) (N := 14) C k_X3_pieceTold_inX3 hm rfl 12 (by decide) k_X3_pieceTold_6 rfl rfl dX3_pieceTold_93 ?_
    refine g_iload_n C dX3_pieceTold_96 rfl 1 rfl ?_
    refine g_callV (ci := 2) (Cn := RX2) (As := [.int (nI k)]) (rest := []) C hs1 rfl rfl (c_X2_isLoose l D tys cI ht0 W u0 u1 u2 u3 u4 u5 u6 u7 u8 u9 u10 u11 u12 u13 u14 np th fi le ac se hh ou P u11 u12 (nI hr) wet k (by omega) hnp hR (hg k (by omega)) hm hs1 hs2 h_fi h_le h_ac h_ou) (cwV 1 C.ts gX3_pieceTold_X2_isLoose rfl rfl rfl (by decide +kernel) ⟨(Nat.le_of_ble_eq_true rfl), (Nat.le_of_ble_eq_true rfl)⟩) rfl rfl (Nat.le_of_ble_eq_true rfl) dX3_pieceTold_97 (Nat.le_of_ble_eq_true rfl) (Nat.le_of_ble_eq_true rfl) (g_is (x := .int (gz (lsp (P k) wet))) (W1 := W) ?_)
    refine g_if_eq (tgt := 107) C dX3_pieceTold_100 (by decide) (fun c_1 => ?_) (fun c_1 => ?_)
    · skip
      replace c_1 := gz0.mp c_1
      refine g_iconst (v := 0) C dX3_pieceTold_107 (by decide) ?_
      refine g_iret C hQ (Nat.le_of_ble_eq_true rfl) (Nat.le_of_ble_eq_true rfl) dX3_pieceTold_108 ?_
      first | exact ⟨rfl, rfl⟩ | exact ⟨gz_e0 (by assumption), rfl⟩ | exact ⟨gz_e1 (by assumption), rfl⟩
    · skip
      replace c_1 := gzn.mp c_1
      refine g_iconst (v := 1) C dX3_pieceTold_103 (by decide) ?_
      refine g_goto (tgt := 108) C dX3_pieceTold_104 (by decide) ?_
      refine g_iret C hQ (Nat.le_of_ble_eq_true rfl) (Nat.le_of_ble_eq_true rfl) dX3_pieceTold_108 ?_
      first | exact ⟨rfl, rfl⟩ | exact ⟨gz_e0 (by assumption), rfl⟩ | exact ⟨gz_e1 (by assumption), rfl⟩
  · skip
    refine g_iload_n C dX3_pieceTold_0 rfl 2 rfl ?_
    refine g_tableOut (tgt := 109) C dX3_pieceTold_1 (by decide) (by decide) ?_
    refine g_aload_n C dX3_pieceTold_109 rfl 0 rfl ?_
    refine g_get (v := .ref u6) (ci := 3) (Cn := RX3) (T := TX3) (N := 14) C k_X3_pieceTold_inX3 hm rfl 7 (by decide) k_X3_pieceTold_7 rfl rfl dX3_pieceTold_110 ?_
    refine g_iload_n C dX3_pieceTold_113 rfl 1 rfl ?_
    refine g_iald C 0 h_ou ht0 (vp_in_nI (by omega) (by omega)) dX3_pieceTold_114 ?_
    refine g_eqi (x := ou (nI k).toNatClampNeg) (y := gz (qo (P k))) (by rw [nI_clamp (by omega)]; exact (hR.1 k (by omega)).2.2.2.2.2) ?_
    refine g_iret C hQ (Nat.le_of_ble_eq_true rfl) (Nat.le_of_ble_eq_true rfl) dX3_pieceTold_115 ?_
    first | exact ⟨rfl, rfl⟩ | exact ⟨gz_e0 (by assumption), rfl⟩ | exact ⟨gz_e1 (by assumption), rfl⟩

theorem k_X3_looseOnes_inX3 : ∀ w ∈ wsX30, w ∈ wsX3_looseOnes := by decide +kernel
theorem k_X3_looseOnes_1 : Cond.fieldLink RX3 63 "WetMosaicModel" "pieces" "I" ∈ wsX3_looseOnes := by decide +kernel
theorem k_X3_looseOnes_2 : Cond.fieldLink RX3 45 "WetMosaicModel" "s" "LWetMosaicModel$State;" ∈ wsX3_looseOnes := by decide +kernel
set_option maxHeartbeats 4000000 in
set_option maxRecDepth 100000 in
theorem c_X3_looseOnes (l : Launch) (D : va_G) (tys : List (ClassId × FieldType)) (cI : ClassId) (ht0 : tys[0]? = some (cI, .int)) (W : va_W) (u0 u1 u2 u3 u4 u5 u6 u7 u8 u9 u10 u11 u12 u13 u14 np : Nat) (th : Int32) (fi le ac se hh ou : Nat → Int32) (P : Nat → Pd) (hr : Nat) (wet cover : Nat → Int32) (hnp : np ≤ 100) (hR : Mrel np P fi le ac se hh ou) (hg : Pok np P) (hm : (u0, .inr (3, [.int th, .int (nI np), .ref u1, .ref u2, .ref u3, .ref u4, .ref u5, .ref u6, .ref u7, .ref u8, .ref u9, .ref u10, .ref u11, .ref u13])) ∈ W) (hs1 : (u11, .inr (2, [.int (nI hr), .ref u12, .ref u0])) ∈ W) (hs2 : (u12, .inl (cI, 80, .inl (wet))) ∈ W) (h_fi : (u1, .inl (cI, 100, .inl (fi))) ∈ W) (h_le : (u2, .inl (cI, 100, .inl (le))) ∈ W) (h_ac : (u3, .inl (cI, 100, .inl (ac))) ∈ W) (h_se : (u4, .inl (cI, 100, .inl (se))) ∈ W) (h_hh : (u5, .inl (cI, 100, .inl (hh))) ∈ W) (h_ou : (u6, .inl (cI, 100, .inl (ou))) ∈ W) (h_cover : (u7, .inl (cI, 80, .inl (cover))) ∈ W) : gM l yX3_looseOnes wsX3_looseOnes ({ frames := 1, cells := 0, slots := 0, locals := 23 } : Room) D tys [.ref u0] W (gIs (some (.int (nI (cnt (fun k => lsp (P k) wet) np)))) W) 0 0 := by
  refine gM_of (by decide +kernel) rfl (Nat.le_of_ble_eq_true rfl) ?_
  intro p e s m args below meth c A Q hin C hQ
  refine g_sub [0] (lv' := [(0, .ref u0)]) rfl ?_
  refine g_iconst (v := 0) C dX3_looseOnes_0 (by decide) ?_
  refine g_istore_n (lv' := [(1, .int 0), (0, .ref u0)]) C dX3_looseOnes_1 rfl (by decide) rfl ?_
  refine g_iconst (v := 0) C dX3_looseOnes_2 (by decide) ?_
  refine g_istore_n (lv' := [(2, .int 0), (1, .int 0), (0, .ref u0)]) C dX3_looseOnes_3 rfl (by decide) rfl ?_
  have lp4 : ∀ (n9 : Nat) (i q : Nat) (hq : q = cnt (fun k => lsp (P k) wet) i) (hi : i ≤ np) (hn : np + 1 ≤ i + n9), G p l e ({ frames := 1, cells := 0, slots := 0, locals := 23 } : Room) s m args below meth c D A s.heap 3 0 0 Q 4 [(0, .ref u0), (1, .int (nI q)), (2, .int (nI i))] [] W := by
    intro n9
    induction n9 with
    | zero =>
      intro i q hq hi hn
      exfalso; omega
    | succ n9 ih =>
      intro i q hq hi hn
      refine g_iload_n C dX3_looseOnes_4 rfl 2 rfl ?_
      refine g_aload_n C dX3_looseOnes_5 rfl 0 rfl ?_
      refine g_get (v := .int (nI np)) (ci := 3) (Cn := RX3) (T := TX3) (N := 14) C k_X3_looseOnes_inX3 hm rfl 1 (by decide) k_X3_looseOnes_1 rfl rfl dX3_looseOnes_6 ?_
      refine g_icmp_ge (tgt := 37) C dX3_looseOnes_9 (by decide) (fun c_1 => ?_) (fun c_1 => ?_)
      · skip
        rw [nI_leI (by omega) (by omega)] at c_1
        refine g_iload_n C dX3_looseOnes_37 rfl 1 rfl ?_
        refine g_iret C hQ (Nat.le_of_ble_eq_true rfl) (Nat.le_of_ble_eq_true rfl) dX3_looseOnes_38 ?_
        exact ⟨by rw [hq, show i = np by omega], rfl⟩
      · skip
        rw [nI_leI (by omega) (by omega)] at c_1
        refine g_iload_n C dX3_looseOnes_12 rfl 1 rfl ?_
        refine g_aload_n C dX3_looseOnes_13 rfl 0 rfl ?_
        refine g_get (v := .ref u11) (ci := 3) (Cn := RX3) (T := TX3) (N := 14) C k_X3_looseOnes_inX3 hm rfl 12 (by decide) k_X3_looseOnes_2 rfl rfl dX3_looseOnes_14 ?_
        refine g_iload_n C dX3_looseOnes_17 rfl 2 rfl ?_
        refine g_callV (ci := 2) (Cn := RX2) (As := [.int (nI i)]) (rest := [.int (nI q)]) C hs1 rfl rfl (c_X2_isLoose l D tys cI ht0 W u0 u1 u2 u3 u4 u5 u6 u7 u8 u9 u10 u11 u12 u13 u14 np th fi le ac se hh ou P u11 u12 (nI hr) wet i (by omega) hnp hR (hg i (by omega)) hm hs1 hs2 h_fi h_le h_ac h_ou) (cwV 1 C.ts gX3_looseOnes_X2_isLoose rfl rfl rfl (by decide +kernel) ⟨(Nat.le_of_ble_eq_true rfl), (Nat.le_of_ble_eq_true rfl)⟩) rfl rfl (Nat.le_of_ble_eq_true rfl) dX3_looseOnes_18 (Nat.le_of_ble_eq_true rfl) (Nat.le_of_ble_eq_true rfl) (g_is (x := .int (gz (lsp (P i) wet))) (W1 := W) ?_)
        refine g_if_eq (tgt := 28) C dX3_looseOnes_21 (by decide) (fun c_2 => ?_) (fun c_2 => ?_)
        · skip
          replace c_2 := gz0.mp c_2
          refine g_iconst (v := 0) C dX3_looseOnes_28 (by decide) ?_
          refine g_iadd C dX3_looseOnes_29 ?_
          refine g_eqi (x := (nI q) + 0) (y := nI (q + 0)) (nI_add _ 0) ?_
          refine g_istore_n (lv' := [(1, .int (nI (q + 0))), (0, .ref u0), (2, .int (nI i))]) C dX3_looseOnes_30 rfl (by decide) rfl ?_
          refine g_iinc (v := nI (i + 1)) (lv' := [(2, .int (nI (i + 1))), (1, .int (nI (q + 0))), (0, .ref u0)]) C dX3_looseOnes_31 2 rfl (by exact nI_add _ 1) (by decide) rfl ?_
          refine g_goto (tgt := 4) C dX3_looseOnes_34 (by decide) ?_
          refine g_sub [2, 1, 0] (lv' := [(0, .ref u0), (1, .int (nI (q + 0))), (2, .int (nI (i + 1)))]) rfl ?_
          exact ih (i + 1) _ (by rw [hq]; first | exact (cnt_f (by assumption)).symm | exact (cnt_t (by assumption)).symm) (by omega) (by omega)
        · skip
          replace c_2 := gzn.mp c_2
          refine g_iconst (v := 1) C dX3_looseOnes_24 (by decide) ?_
          refine g_goto (tgt := 29) C dX3_looseOnes_25 (by decide) ?_
          refine g_iadd C dX3_looseOnes_29 ?_
          refine g_eqi (x := (nI q) + 1) (y := nI (q + 1)) (nI_add _ 1) ?_
          refine g_istore_n (lv' := [(1, .int (nI (q + 1))), (0, .ref u0), (2, .int (nI i))]) C dX3_looseOnes_30 rfl (by decide) rfl ?_
          refine g_iinc (v := nI (i + 1)) (lv' := [(2, .int (nI (i + 1))), (1, .int (nI (q + 1))), (0, .ref u0)]) C dX3_looseOnes_31 2 rfl (by exact nI_add _ 1) (by decide) rfl ?_
          refine g_goto (tgt := 4) C dX3_looseOnes_34 (by decide) ?_
          refine g_sub [2, 1, 0] (lv' := [(0, .ref u0), (1, .int (nI (q + 1))), (2, .int (nI (i + 1)))]) rfl ?_
          exact ih (i + 1) _ (by rw [hq]; first | exact (cnt_f (by assumption)).symm | exact (cnt_t (by assumption)).symm) (by omega) (by omega)
  refine g_sub [2, 1, 0] (lv' := [(0, .ref u0), (1, .int 0), (2, .int 0)]) rfl ?_
  exact lp4 (np + 1) 0 0 rfl (by omega) (by omega)

theorem k_X3_covered_inX3 : ∀ w ∈ wsX30, w ∈ wsX3_covered := by decide +kernel
theorem k_X3_covered_1 : Cond.fieldLink RX3 28 "WetMosaicModel" "cover" "[I" ∈ wsX3_covered := by decide +kernel
set_option maxHeartbeats 4000000 in
set_option maxRecDepth 100000 in
theorem c_X3_covered (l : Launch) (D : va_G) (tys : List (ClassId × FieldType)) (cI : ClassId) (ht0 : tys[0]? = some (cI, .int)) (W : va_W) (u0 u1 u2 u3 u4 u5 u6 u7 u8 u9 u10 u11 u12 u13 u14 np : Nat) (th : Int32) (fi le ac se hh ou : Nat → Int32) (P : Nat → Pd) (hr : Nat) (wet cover : Nat → Int32) (hnp : np ≤ 100) (hcv : CovOk np cover) (hm : (u0, .inr (3, [.int th, .int (nI np), .ref u1, .ref u2, .ref u3, .ref u4, .ref u5, .ref u6, .ref u7, .ref u8, .ref u9, .ref u10, .ref u11, .ref u13])) ∈ W) (hs1 : (u11, .inr (2, [.int (nI hr), .ref u12, .ref u0])) ∈ W) (hs2 : (u12, .inl (cI, 80, .inl (wet))) ∈ W) (h_fi : (u1, .inl (cI, 100, .inl (fi))) ∈ W) (h_le : (u2, .inl (cI, 100, .inl (le))) ∈ W) (h_ac : (u3, .inl (cI, 100, .inl (ac))) ∈ W) (h_se : (u4, .inl (cI, 100, .inl (se))) ∈ W) (h_hh : (u5, .inl (cI, 100, .inl (hh))) ∈ W) (h_ou : (u6, .inl (cI, 100, .inl (ou))) ∈ W) (h_cover : (u7, .inl (cI, 80, .inl (cover))) ∈ W) : gM l yX3_covered wsX3_covered ({ frames := 0, cells := 0, slots := 0, locals := 0 } : Room) D tys [.ref u0] W (gIs (some (.int (nI (cnt (fun c => decide (0 ≤ cover c)) 80)))) W) 0 0 := by
  refine gM_of (by decide +kernel) rfl (Nat.le_of_ble_eq_true rfl) ?_
  intro p e s m args below meth c A Q hin C hQ
  refine g_sub [0] (lv' := [(0, .ref u0)]) rfl ?_
  refine g_iconst (v := 0) C dX3_covered_0 (by decide) ?_
  refine g_istore_n (lv' := [(1, .int 0), (0, .ref u0)]) C dX3_covered_1 rfl (by decide) rfl ?_
  refine g_aload_n C dX3_covered_2 rfl 1 rfl ?_
  refine g_get (v := .ref u7) (ci := 3) (Cn := RX3) (T := TX3) (N := 14) C k_X3_covered_inX3 hm rfl 8 (by decide) k_X3_covered_1 rfl rfl dX3_covered_3 ?_
  refine g_astore_n (lv' := [(2, .ref u7), (1, .int 0), (0, .ref u0)]) C dX3_covered_6 rfl (by decide) rfl ?_
  refine g_aload_n C dX3_covered_7 rfl 0 rfl ?_
  refine g_alen (v := 80) C 0 h_cover ht0 rfl dX3_covered_8 ?_
  refine g_istore_n (lv' := [(3, .int 80), (2, .ref u7), (1, .int 0), (0, .ref u0)]) C dX3_covered_9 rfl (by decide) rfl ?_
  refine g_iconst (v := 0) C dX3_covered_10 (by decide) ?_
  refine g_istore (lv' := [(4, .int 0), (3, .int 80), (2, .ref u7), (1, .int 0), (0, .ref u0)]) C dX3_covered_11 (by decide) rfl ?_
  have lp13_1 : ∀ (n9 : Nat) (i q : Nat) (hq : q = cnt (fun c => decide (0 ≤ cover c)) i) (hi : i ≤ 80) (hn : 81 ≤ i + n9), G p l e ({ frames := 0, cells := 0, slots := 0, locals := 0 } : Room) s m args below meth c D A s.heap 6 0 0 Q 13 [(0, .ref u0), (1, .int (nI q)), (2, .ref u7), (3, .int 80), (4, .int (nI i))] [] W := by
    intro n9
    induction n9 with
    | zero =>
      intro i q hq hi hn
      exfalso; omega
    | succ n9 ih =>
      intro i q hq hi hn
      refine g_iload C dX3_covered_13 4 rfl ?_
      refine g_iload_n C dX3_covered_15 rfl 3 rfl ?_
      refine g_icmp_ge (tgt := 45) C dX3_covered_16 (by decide) (fun c_2 => ?_) (fun c_2 => ?_)
      · skip
        rw [show (80 : Int32) = nI 80 from rfl, nI_leI (by omega) (by omega)] at c_2
        refine g_iload_n C dX3_covered_45 rfl 1 rfl ?_
        refine g_iret C hQ (Nat.le_of_ble_eq_true rfl) (Nat.le_of_ble_eq_true rfl) dX3_covered_46 ?_
        exact ⟨by rw [hq, show i = 80 by omega], rfl⟩
      · skip
        rw [show (80 : Int32) = nI 80 from rfl, nI_leI (by omega) (by omega)] at c_2
        refine g_aload_n C dX3_covered_19 rfl 2 rfl ?_
        refine g_iload C dX3_covered_20 4 rfl ?_
        refine g_iald C 0 h_cover ht0 (vp_in_nI (by omega) (by omega)) dX3_covered_22 ?_
        refine g_eqi (x := cover (nI i).toNatClampNeg) (y := cover i) (by rw [nI_clamp (by omega)]) ?_
        refine g_istore (lv' := [(5, .int (cover i)), (0, .ref u0), (1, .int (nI q)), (2, .ref u7), (3, .int 80), (4, .int (nI i))]) C dX3_covered_23 (by decide) rfl ?_
        refine g_iload_n C dX3_covered_25 rfl 2 rfl ?_
        refine g_iload C dX3_covered_26 0 rfl ?_
        refine g_iconst (v := (-1)) C dX3_covered_28 (by decide) ?_
        refine g_icmp_ne (tgt := 36) C dX3_covered_29 (by decide) (fun c_3 => ?_) (fun c_3 => ?_)
        · skip
          refine g_iconst (v := 1) C dX3_covered_36 (by decide) ?_
          refine g_iadd C dX3_covered_37 ?_
          refine g_eqi (x := (nI q) + 1) (y := nI (q + 1)) (nI_add _ 1) ?_
          refine g_istore_n (lv' := [(1, .int (nI (q + 1))), (5, .int (cover i)), (0, .ref u0), (2, .ref u7), (3, .int 80), (4, .int (nI i))]) C dX3_covered_38 rfl (by decide) rfl ?_
          refine g_iinc (v := nI (i + 1)) (lv' := [(4, .int (nI (i + 1))), (1, .int (nI (q + 1))), (5, .int (cover i)), (0, .ref u0), (2, .ref u7), (3, .int 80)]) C dX3_covered_39 5 rfl (by exact nI_add _ 1) (by decide) rfl ?_
          refine g_goto (tgt := 13) C dX3_covered_42 (by decide) ?_
          refine g_sub [3, 1, 4, 5, 0] (lv' := [(0, .ref u0), (1, .int (nI (q + 1))), (2, .ref u7), (3, .int 80), (4, .int (nI (i + 1)))]) rfl ?_
          exact ih (i + 1) _ (by rw [hq]; first | exact (cnt_f ((cov_ge hnp (by omega) hcv).trans (decide_eq_false (by simp [*])))).symm | exact (cnt_t ((cov_ge hnp (by omega) hcv).trans (decide_eq_true (by assumption)))).symm) (by omega) (by omega)
        · skip
          refine g_iconst (v := 0) C dX3_covered_32 (by decide) ?_
          refine g_goto (tgt := 37) C dX3_covered_33 (by decide) ?_
          refine g_iadd C dX3_covered_37 ?_
          refine g_eqi (x := (nI q) + 0) (y := nI (q + 0)) (nI_add _ 0) ?_
          refine g_istore_n (lv' := [(1, .int (nI (q + 0))), (5, .int (cover i)), (0, .ref u0), (2, .ref u7), (3, .int 80), (4, .int (nI i))]) C dX3_covered_38 rfl (by decide) rfl ?_
          refine g_iinc (v := nI (i + 1)) (lv' := [(4, .int (nI (i + 1))), (1, .int (nI (q + 0))), (5, .int (cover i)), (0, .ref u0), (2, .ref u7), (3, .int 80)]) C dX3_covered_39 5 rfl (by exact nI_add _ 1) (by decide) rfl ?_
          refine g_goto (tgt := 13) C dX3_covered_42 (by decide) ?_
          refine g_sub [3, 1, 4, 5, 0] (lv' := [(0, .ref u0), (1, .int (nI (q + 0))), (2, .ref u7), (3, .int 80), (4, .int (nI (i + 1)))]) rfl ?_
          exact ih (i + 1) _ (by rw [hq]; first | exact (cnt_f ((cov_ge hnp (by omega) hcv).trans (decide_eq_false (by simp [*])))).symm | exact (cnt_t ((cov_ge hnp (by omega) hcv).trans (decide_eq_true (by assumption)))).symm) (by omega) (by omega)
  refine g_sub [4, 3, 2, 1, 0] (lv' := [(0, .ref u0), (1, .int 0), (2, .ref u7), (3, .int 80), (4, .int 0)]) rfl ?_
  exact lp13_1 81 0 0 rfl (by omega) (by omega)
