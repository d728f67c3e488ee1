set_option maxHeartbeats 4000000 in
set_option maxRecDepth 100000 in
theorem c_X1_within (l : Launch) (D : va_G) (tys : List (ClassId × FieldType)) (W : va_W) (v lo hi : Int32) : gM l yX1_within wsX1_within ({ frames := 0, cells := 0, slots := 0, locals := 0 } : Room) D tys [.int v, .int lo, .int hi] W (gIs (some (.int (gz (inR lo hi v)))) W) 0 0 := by
  refine gM_of (by decide) rfl (Nat.le_of_ble_eq_true rfl) ?_
  intro p e s m args below meth c A Q hin C hQ
  refine g_sub [0, 1, 2] (lv' := [(0, .int v), (1, .int lo), (2, .int hi)]) rfl ?_
  refine g_iload_n C dX1_within_0 rfl 0 rfl ?_
  refine g_iload_n C dX1_within_1 rfl 1 rfl ?_
  refine g_icmp_lt (tgt := 14) C dX1_within_2 (by decide) (fun c_1 => ?_) (fun c_1 => ?_)
  · skip
    refine g_iconst (v := 0) C dX1_within_14 (by decide) ?_
    refine g_zret C (by first | exact Or.inl rfl | exact Or.inr rfl | exact gz01 _) hQ (Nat.le_of_ble_eq_true rfl) (Nat.le_of_ble_eq_true rfl) dX1_within_15 ?_
    first | exact ⟨gz_e1 (inR_t (by assumption) (by assumption)), rfl⟩ | exact ⟨gz_e0 (inR_l (by assumption)), rfl⟩ | exact ⟨gz_e0 (inR_h (by assumption)), rfl⟩
  · skip
    refine g_iload_n C dX1_within_5 rfl 0 rfl ?_
    refine g_iload_n C dX1_within_6 rfl 2 rfl ?_
    refine g_icmp_gt (tgt := 14) C dX1_within_7 (by decide) (fun c_2 => ?_) (fun c_2 => ?_)
    · skip
      refine g_iconst (v := 0) C dX1_within_14 (by decide) ?_
      refine g_zret C (by first | exact Or.inl rfl | exact Or.inr rfl | exact gz01 _) hQ (Nat.le_of_ble_eq_true rfl) (Nat.le_of_ble_eq_true rfl) dX1_within_15 ?_
      first | exact ⟨gz_e1 (inR_t (by assumption) (by assumption)), rfl⟩ | exact ⟨gz_e0 (inR_l (by assumption)), rfl⟩ | exact ⟨gz_e0 (inR_h (by assumption)), rfl⟩
    · skip
      refine g_iconst (v := 1) C dX1_within_10 (by decide) ?_
      refine g_goto (tgt := 15) C dX1_within_11 (by decide) ?_
      refine g_zret C (by first | exact Or.inl rfl | exact Or.inr rfl | exact gz01 _) hQ (Nat.le_of_ble_eq_true rfl) (Nat.le_of_ble_eq_true rfl) dX1_within_15 ?_
      first | exact ⟨gz_e1 (inR_t (by assumption) (by assumption)), rfl⟩ | exact ⟨gz_e0 (inR_l (by assumption)), rfl⟩ | exact ⟨gz_e0 (inR_h (by assumption)), rfl⟩

set_option maxHeartbeats 4000000 in
set_option maxRecDepth 100000 in
theorem c_X1_isOnWall (l : Launch) (D : va_G) (tys : List (ClassId × FieldType)) (W : va_W) (x y : Int32) : gM l yX1_isOnWall wsX1_isOnWall ({ frames := 1, cells := 0, slots := 0, locals := 22 } : Room) D tys [.int x, .int y] W (gIs (some (.int (gz (onW x y)))) W) 0 0 := by
  refine gM_of (by decide) rfl (Nat.le_of_ble_eq_true rfl) ?_
  intro p e s m args below meth c A Q hin C hQ
  refine g_sub [0, 1] (lv' := [(0, .int x), (1, .int y)]) rfl ?_
  refine g_iload_n C dX1_isOnWall_0 rfl 0 rfl ?_
  refine g_iconst (v := 0) C dX1_isOnWall_1 (by decide) ?_
  refine g_bipush (v := 9) C dX1_isOnWall_2 (by decide) ?_
  refine g_callS (As := [.int x, .int 0, .int 9]) (rest := []) C (c_X1_within l D tys W x 0 9) (va_cwS 3 C.ts gX1_isOnWall_X1_within rfl rfl rfl (by decide +kernel) ⟨(Nat.le_of_ble_eq_true rfl), (Nat.le_of_ble_eq_true rfl)⟩) rfl rfl (Nat.le_of_ble_eq_true rfl) dX1_isOnWall_4 (Nat.le_of_ble_eq_true rfl) (Nat.le_of_ble_eq_true rfl) (g_is (x := .int (gz (inR 0 9 x))) (W1 := W) ?_)
  refine g_if_eq (tgt := 24) C dX1_isOnWall_7 (by decide) (fun c_1 => ?_) (fun c_1 => ?_)
  · skip
    replace c_1 := gz0.mp c_1
    refine g_iconst (v := 0) C dX1_isOnWall_24 (by decide) ?_
    refine g_zret C (by first | exact Or.inl rfl | exact Or.inr rfl | exact gz01 _) hQ (Nat.le_of_ble_eq_true rfl) (Nat.le_of_ble_eq_true rfl) dX1_isOnWall_25 ?_
    first | exact ⟨gz_e1 (by simp [onW, *]), rfl⟩ | exact ⟨gz_e0 (by simp [onW, *]), rfl⟩
  · skip
    replace c_1 := gzn.mp c_1
    refine g_iload_n C dX1_isOnWall_10 rfl 1 rfl ?_
    refine g_iconst (v := 0) C dX1_isOnWall_11 (by decide) ?_
    refine g_bipush (v := 7) C dX1_isOnWall_12 (by decide) ?_
    refine g_callS (As := [.int y, .int 0, .int 7]) (rest := []) C (c_X1_within l D tys W y 0 7) (va_cwS 3 C.ts gX1_isOnWall_X1_within rfl rfl rfl (by decide +kernel) ⟨(Nat.le_of_ble_eq_true rfl), (Nat.le_of_ble_eq_true rfl)⟩) rfl rfl (Nat.le_of_ble_eq_true rfl) dX1_isOnWall_14 (Nat.le_of_ble_eq_true rfl) (Nat.le_of_ble_eq_true rfl) (g_is (x := .int (gz (inR 0 7 y))) (W1 := W) ?_)
    refine g_if_eq (tgt := 24) C dX1_isOnWall_17 (by decide) (fun c_2 => ?_) (fun c_2 => ?_)
    · skip
      replace c_2 := gz0.mp c_2
      refine g_iconst (v := 0) C dX1_isOnWall_24 (by decide) ?_
      refine g_zret C (by first | exact Or.inl rfl | exact Or.inr rfl | exact gz01 _) hQ (Nat.le_of_ble_eq_true rfl) (Nat.le_of_ble_eq_true rfl) dX1_isOnWall_25 ?_
      first | exact ⟨gz_e1 (by simp [onW, *]), rfl⟩ | exact ⟨gz_e0 (by simp [onW, *]), rfl⟩
    · skip
      replace c_2 := gzn.mp c_2
      refine g_iconst (v := 1) C dX1_isOnWall_20 (by decide) ?_
      refine g_goto (tgt := 25) C dX1_isOnWall_21 (by decide) ?_
      refine g_zret C (by first | exact Or.inl rfl | exact Or.inr rfl | exact gz01 _) hQ (Nat.le_of_ble_eq_true rfl) (Nat.le_of_ble_eq_true rfl) dX1_isOnWall_25 ?_
      first | exact ⟨gz_e1 (by simp [onW, *]), rfl⟩ | exact ⟨gz_e0 (by simp [onW, *]), rfl⟩

set_option maxHeartbeats 4000000 in
set_option maxRecDepth 100000 in
theorem c_X1_isColour (l : Launch) (D : va_G) (tys : List (ClassId × FieldType)) (W : va_W) (v : Int32) : gM l yX1_isColour wsX1_isColour ({ frames := 1, cells := 0, slots := 0, locals := 22 } : Room) D tys [.int v] W (gIs (some (.int (gz (inR 0 6 v)))) W) 0 0 := by
  refine gM_of (by decide) rfl (Nat.le_of_ble_eq_true rfl) ?_
  intro p e s m args below meth c A Q hin C hQ
  refine g_sub [0] (lv' := [(0, .int v)]) rfl ?_
  refine g_iload_n C dX1_isColour_0 rfl 0 rfl ?_
  refine g_iconst (v := 0) C dX1_isColour_1 (by decide) ?_
  refine g_bipush (v := 6) C dX1_isColour_2 (by decide) ?_
  refine g_callS (As := [.int v, .int 0, .int 6]) (rest := []) C (c_X1_within l D tys W v 0 6) (va_cwS 3 C.ts gX1_isColour_X1_within rfl rfl rfl (by decide +kernel) ⟨(Nat.le_of_ble_eq_true rfl), (Nat.le_of_ble_eq_true rfl)⟩) rfl rfl (Nat.le_of_ble_eq_true rfl) dX1_isColour_4 (Nat.le_of_ble_eq_true rfl) (Nat.le_of_ble_eq_true rfl) (g_is (x := .int (gz (inR 0 6 v))) (W1 := W) ?_)
  refine g_zret C (by first | exact Or.inl rfl | exact Or.inr rfl | exact gz01 _) hQ (Nat.le_of_ble_eq_true rfl) (Nat.le_of_ble_eq_true rfl) dX1_isColour_7 ?_
  exact ⟨rfl, rfl⟩

set_option maxHeartbeats 4000000 in
set_option maxRecDepth 100000 in
theorem c_X1_cellOf (l : Launch) (D : va_G) (tys : List (ClassId × FieldType)) (W : va_W) (x y : Int32) : gM l yX1_cellOf wsX1_cellOf ({ frames := 0, cells := 0, slots := 0, locals := 0 } : Room) D tys [.int x, .int y] W (gIs (some (.int (10 * y + x))) W) 0 0 := by
  refine gM_of (by decide) rfl (Nat.le_of_ble_eq_true rfl) ?_
  intro p e s m args below meth c A Q hin C hQ
  refine g_sub [0, 1] (lv' := [(0, .int x), (1, .int y)]) rfl ?_
  refine g_bipush (v := 10) C dX1_cellOf_0 (by decide) ?_
  refine g_iload_n C dX1_cellOf_2 rfl 1 rfl ?_
  refine g_imul C dX1_cellOf_3 ?_
  refine g_iload_n C dX1_cellOf_4 rfl 0 rfl ?_
  refine g_iadd C dX1_cellOf_5 ?_
  refine g_iret C hQ (Nat.le_of_ble_eq_true rfl) (Nat.le_of_ble_eq_true rfl) dX1_cellOf_6 ?_
  exact ⟨rfl, rfl⟩

set_option maxHeartbeats 4000000 in
set_option maxRecDepth 100000 in
theorem c_X1_at (l : Launch) (D : va_G) (tys : List (ClassId × FieldType)) (cI : ClassId) (ht0 : tys[0]? = some (cI, .int)) (W : va_W) (a N : Nat) (f : Nat → Int32) (i : Int32) (hN0 : 0 < N) (hN : N < 2 ^ 31) (hm : (a, .inl (cI, N, .inl (f))) ∈ W) : gM l yX1_at wsX1_at ({ frames := 1, cells := 0, slots := 0, locals := 22 } : Room) D tys [.ref a, .int i] W (gIs (some (.int (atv N f i))) W) 0 0 := by
  refine gM_of (by decide) rfl (Nat.le_of_ble_eq_true rfl) ?_
  intro p e s m args below meth c A Q hin C hQ
  refine g_sub [0, 1] (lv' := [(0, .ref a), (1, .int i)]) rfl ?_
  refine g_iload_n C dX1_at_0 rfl 1 rfl ?_
  refine g_iconst (v := 0) C dX1_at_1 (by decide) ?_
  refine g_aload_n C dX1_at_2 rfl 0 rfl ?_
  refine g_alen (v := nI N) C 0 hm ht0 rfl dX1_at_3 ?_
  refine g_iconst (v := 1) C dX1_at_4 (by decide) ?_
  refine g_isub C dX1_at_5 ?_
  refine g_eqi (x := (nI N) - 1) (y := Int32.ofNat N - 1) (rfl) ?_
  refine g_callS (As := [.int i, .int 0, .int (Int32.ofNat N - 1)]) (rest := []) C (c_X1_within l D tys W i 0 (Int32.ofNat N - 1)) (va_cwS 3 C.ts gX1_at_X1_within rfl rfl rfl (by decide +kernel) ⟨(Nat.le_of_ble_eq_true rfl), (Nat.le_of_ble_eq_true rfl)⟩) rfl rfl (Nat.le_of_ble_eq_true rfl) dX1_at_6 (Nat.le_of_ble_eq_true rfl) (Nat.le_of_ble_eq_true rfl) (g_is (x := .int (gz (inR 0 (Int32.ofNat N - 1) i))) (W1 := W) ?_)
  refine g_if_eq (tgt := 18) C dX1_at_9 (by decide) (fun c_1 => ?_) (fun c_1 => ?_)
  · skip
    replace c_1 := gz0.mp c_1
    refine g_iconst (v := (-1)) C dX1_at_18 (by decide) ?_
    refine g_iret C hQ (Nat.le_of_ble_eq_true rfl) (Nat.le_of_ble_eq_true rfl) dX1_at_19 ?_
    exact ⟨by simp [atv, *], rfl⟩
  · skip
    replace c_1 := gzn.mp c_1
    refine g_aload_n C dX1_at_12 rfl 0 rfl ?_
    refine g_iload_n C dX1_at_13 rfl 1 rfl ?_
    refine g_iald C 0 hm ht0 (inR_in hN0 hN c_1) dX1_at_14 ?_
    refine g_goto (tgt := 19) C dX1_at_15 (by decide) ?_
    refine g_iret C hQ (Nat.le_of_ble_eq_true rfl) (Nat.le_of_ble_eq_true rfl) dX1_at_19 ?_
    exact ⟨by simp [atv, *], rfl⟩

set_option maxHeartbeats 4000000 in
set_option maxRecDepth 100000 in
theorem c_X1_put (l : Launch) (D : va_G) (tys : List (ClassId × FieldType)) (cI : ClassId) (ht0 : tys[0]? = some (cI, .int)) (W : va_W) (q0 a N : Nat) (f : Nat → Int32) (i v : Int32) (hN0 : 0 < N) (hN : N < 2 ^ 31) (hq : W[q0]? = some (a, .inl (cI, N, .inl (f)))) : gM l yX1_put wsX1_put ({ frames := 1, cells := 0, slots := 0, locals := 22 } : Room) D tys [.ref a, .int i, .int v] W (gIs none (W.set q0 (a, .inl (cI, N, .inl (putv N f i v))))) 0 0 := by
  refine gM_of (by decide) rfl (Nat.le_of_ble_eq_true rfl) ?_
  intro p e s m args below meth c A Q hin C hQ
  refine g_sub [0, 1, 2] (lv' := [(0, .ref a), (1, .int i), (2, .int v)]) rfl ?_
  have hm := List.mem_of_getElem? hq
  refine g_iload_n C dX1_put_0 rfl 1 rfl ?_
  refine g_iconst (v := 0) C dX1_put_1 (by decide) ?_
  refine g_aload_n C dX1_put_2 rfl 0 rfl ?_
  refine g_alen (v := nI N) C 0 hm ht0 rfl dX1_put_3 ?_
  refine g_iconst (v := 1) C dX1_put_4 (by decide) ?_
  refine g_isub C dX1_put_5 ?_
  refine g_eqi (x := (nI N) - 1) (y := Int32.ofNat N - 1) (rfl) ?_
  refine g_callS (As := [.int i, .int 0, .int (Int32.ofNat N - 1)]) (rest := []) C (c_X1_within l D tys W i 0 (Int32.ofNat N - 1)) (va_cwS 3 C.ts gX1_put_X1_within rfl rfl rfl (by decide +kernel) ⟨(Nat.le_of_ble_eq_true rfl), (Nat.le_of_ble_eq_true rfl)⟩) rfl rfl (Nat.le_of_ble_eq_true rfl) dX1_put_6 (Nat.le_of_ble_eq_true rfl) (Nat.le_of_ble_eq_true rfl) (g_is (x := .int (gz (inR 0 (Int32.ofNat N - 1) i))) (W1 := W) ?_)
  refine g_if_eq (tgt := 16) C dX1_put_9 (by decide) (fun c_1 => ?_) (fun c_1 => ?_)
  · skip
    replace c_1 := gz0.mp c_1
    refine g_vret C hQ (Nat.le_of_ble_eq_true rfl) (Nat.le_of_ble_eq_true rfl) dX1_put_16 ?_
    exact ⟨rfl, by simp [putv, *, set_self hq]⟩
  · skip
    replace c_1 := gzn.mp c_1
    refine g_aload_n C dX1_put_12 rfl 0 rfl ?_
    refine g_iload_n C dX1_put_13 rfl 1 rfl ?_
    refine g_iload_n C dX1_put_14 rfl 2 rfl ?_
    refine g_iast (ws' := (W.set q0 (a, .inl (cI, N, .inl (upd f (i).toNatClampNeg v))))) C q0 0 hq ht0 (inR_in hN0 hN c_1) dX1_put_15 rfl ?_
    refine g_vret C hQ (Nat.le_of_ble_eq_true rfl) (Nat.le_of_ble_eq_true rfl) dX1_put_16 ?_
    exact ⟨rfl, by simp [putv, *]⟩

set_option maxHeartbeats 4000000 in
set_option maxRecDepth 100000 in
theorem c_X1_cellsFrom (l : Launch) (D : va_G) (tys : List (ClassId × FieldType)) (cI : ClassId) (ht0 : tys[0]? = some (cI, .int)) (W : va_W) (a N : Nat) (f : Nat → Int32) (v : Int32) (hN : N < 2 ^ 30) (hm : (a, .inl (cI, N, .inl (f))) ∈ W) : gM l yX1_cellsFrom wsX1_cellsFrom ({ frames := 0, cells := 0, slots := 0, locals := 0 } : Room) D tys [.ref a, .int v] W (gIs (some (.int (nI (cnt (fun c => decide (v ≤ f c)) N)))) W) 0 0 := by
  refine gM_of (by decide) rfl (Nat.le_of_ble_eq_true rfl) ?_
  intro p e s m args below meth c A Q hin C hQ
  refine g_sub [0, 1] (lv' := [(0, .ref a), (1, .int v)]) rfl ?_
  refine g_iconst (v := 0) C dX1_cellsFrom_0 (by decide) ?_
  refine g_istore_n (lv' := [(2, .int 0), (0, .ref a), (1, .int v)]) C dX1_cellsFrom_1 rfl (by decide) rfl ?_
  refine g_iconst (v := 0) C dX1_cellsFrom_2 (by decide) ?_
  refine g_istore_n (lv' := [(3, .int 0), (2, .int 0), (0, .ref a), (1, .int v)]) C dX1_cellsFrom_3 rfl (by decide) rfl ?_
  have lp4 : ∀ (n9 : Nat) (i q : Nat) (hq : q = cnt (fun c => decide (v ≤ f c)) i) (hi : i ≤ N) (hn : N + 1 ≤ i + n9), G p l e ({ frames := 0, cells := 0, slots := 0, locals := 0 } : Room) s m args below meth c D A s.heap 4 0 0 Q 4 [(0, .ref a), (1, .int v), (2, .int (nI q)), (3, .int (nI i))] [] W := by
    intro n9
    induction n9 with
    | zero =>
      intro i q hq hi hn
      exfalso; omega
    | succ n9 ih =>
      intro i q hq hi hn
      refine g_iload_n C dX1_cellsFrom_4 rfl 3 rfl ?_
      refine g_aload_n C dX1_cellsFrom_5 rfl 0 rfl ?_
      refine g_alen (v := nI N) C 0 hm ht0 rfl dX1_cellsFrom_6 ?_
      refine g_icmp_ge (tgt := 26) C dX1_cellsFrom_7 (by decide) (fun c_1 => ?_) (fun c_1 => ?_)
      · skip
        rw [nI_leI (by omega) (by omega)] at c_1
        refine g_iload_n C dX1_cellsFrom_26 rfl 2 rfl ?_
        refine g_iret C hQ (Nat.le_of_ble_eq_true rfl) (Nat.le_of_ble_eq_true rfl) dX1_cellsFrom_27 ?_
        exact ⟨by rw [hq, show i = N by omega], rfl⟩
      · skip
        rw [nI_leI (by omega) (by omega)] at c_1
        refine g_aload_n C dX1_cellsFrom_10 rfl 0 rfl ?_
        refine g_iload_n C dX1_cellsFrom_11 rfl 3 rfl ?_
        refine g_iald C 0 hm ht0 (vp_in_nI (by omega) (by omega)) dX1_cellsFrom_12 ?_
        refine g_eqi (x := f (nI i).toNatClampNeg) (y := f i) (by rw [nI_clamp (by omega)]) ?_
        refine g_iload_n C dX1_cellsFrom_13 rfl 1 rfl ?_
        refine g_icmp_lt (tgt := 20) C dX1_cellsFrom_14 (by decide) (fun c_2 => ?_) (fun c_2 => ?_)
        · skip
          refine g_iinc (v := nI (i + 1)) (lv' := [(3, .int (nI (i + 1))), (0, .ref a), (1, .int v), (2, .int (nI q))]) C dX1_cellsFrom_20 3 rfl (by exact nI_add _ 1) (by decide) rfl ?_
          refine g_goto (tgt := 4) C dX1_cellsFrom_23 (by decide) ?_
          refine g_sub [1, 2, 3, 0] (lv' := [(0, .ref a), (1, .int v), (2, .int (nI q)), (3, .int (nI (i + 1)))]) rfl ?_
          exact ih (i + 1) _ (by rw [hq]; first | exact (cnt_f (dec_lt (by assumption))).symm | exact (cnt_t (dec_nlt (by assumption))).symm) (by omega) (by omega)
        · skip
          refine g_iinc (v := nI (q + 1)) (lv' := [(2, .int (nI (q + 1))), (0, .ref a), (1, .int v), (3, .int (nI i))]) C dX1_cellsFrom_17 2 rfl (by exact nI_add _ 1) (by decide) rfl ?_
          refine g_iinc (v := nI (i + 1)) (lv' := [(3, .int (nI (i + 1))), (2, .int (nI (q + 1))), (0, .ref a), (1, .int v)]) C dX1_cellsFrom_20 3 rfl (by exact nI_add _ 1) (by decide) rfl ?_
          refine g_goto (tgt := 4) C dX1_cellsFrom_23 (by decide) ?_
          refine g_sub [2, 3, 1, 0] (lv' := [(0, .ref a), (1, .int v), (2, .int (nI (q + 1))), (3, .int (nI (i + 1)))]) rfl ?_
          exact ih (i + 1) _ (by rw [hq]; first | exact (cnt_f (dec_lt (by assumption))).symm | exact (cnt_t (dec_nlt (by assumption))).symm) (by omega) (by omega)
  refine g_sub [2, 3, 1, 0] (lv' := [(0, .ref a), (1, .int v), (2, .int 0), (3, .int 0)]) rfl ?_
  exact lp4 (N + 1) 0 0 rfl (by omega) (by omega)

theorem k_X0_cellAt_inX0 : ∀ w ∈ wsX00, w ∈ wsX0_cellAt := by decide +kernel
theorem k_X0_cellAt_1 : Cond.fieldLink RX0 19 "WetMosaic$Piece" "across" "Z" ∈ wsX0_cellAt := by decide +kernel
theorem k_X0_cellAt_2 : Cond.fieldLink RX0 7 "WetMosaic$Piece" "x" "I" ∈ wsX0_cellAt := by decide +kernel
theorem k_X0_cellAt_3 : Cond.fieldLink RX0 13 "WetMosaic$Piece" "y" "I" ∈ wsX0_cellAt := by decide +kernel
theorem k_X0_cellAt_4 : Cond.initialized RX1 ∈ wsX0_cellAt := by decide +kernel
theorem k_X0_cellAt_5 : Cond.static yX1_cellOf ∈ wsX0_cellAt := by decide +kernel
set_option maxHeartbeats 4000000 in
set_option maxRecDepth 100000 in
theorem c_X0_cellAt (l : Launch) (D : va_G) (tys : List (ClassId × FieldType)) (W : va_W) (o x y ln : Nat) (fr bk : Int32) (ac sb ot : Bool) (hm : (o, .inr (0, [.int (nI x), .int (nI y), .int (nI ln), .int fr, .int bk, .int (gz ac), .int (gz sb), .int (gz ot)])) ∈ W) (j : Nat) : gM l yX0_cellAt wsX0_cellAt ({ frames := 1, cells := 0, slots := 0, locals := 21 } : Room) D tys [.ref o, .int (nI j)] W (gIs (some (.int (nI (cel x y ac j)))) W) 0 0 := by
  refine gM_of (by decide) rfl (Nat.le_of_ble_eq_true rfl) ?_
  intro p e s m args below meth c A Q hin C hQ
  refine g_sub [0, 1] (lv' := [(0, .ref o), (1, .int (nI j))]) rfl ?_
  cases ac with
  | false =>
    refine g_aload_n C dX0_cellAt_0 rfl 0 rfl ?_
    refine g_get (ci := 0) (Cn := RX0) (T := TX0) (N := 8) C k_X0_cellAt_inX0 hm rfl 5 (by decide) k_X0_cellAt_1 rfl rfl dX0_cellAt_1 ?_
    refine g_if_eq (tgt := 16) C dX0_cellAt_4 (by decide) (fun c_1 => ?_) (fun c_1 => by exfalso; revert c_1; decide)
    refine g_aload_n C dX0_cellAt_16 rfl 0 rfl ?_
    refine g_get (ci := 0) (Cn := RX0) (T := TX0) (N := 8) C k_X0_cellAt_inX0 hm rfl 0 (by decide) k_X0_cellAt_2 rfl rfl dX0_cellAt_17 ?_
    refine g_aload_n C dX0_cellAt_20 rfl 0 rfl ?_
    refine g_get (ci := 0) (Cn := RX0) (T := TX0) (N := 8) C k_X0_cellAt_inX0 hm rfl 5 (by decide) k_X0_cellAt_1 rfl rfl dX0_cellAt_21 ?_
    refine g_if_eq (tgt := 34) C dX0_cellAt_24 (by decide) (fun c_2 => ?_) (fun c_2 => by exfalso; revert c_2; decide)
    refine g_aload_n C dX0_cellAt_34 rfl 0 rfl ?_
    refine g_get (ci := 0) (Cn := RX0) (T := TX0) (N := 8) C k_X0_cellAt_inX0 hm rfl 1 (by decide) k_X0_cellAt_3 rfl rfl dX0_cellAt_35 ?_
    refine g_iload_n C dX0_cellAt_38 rfl 1 rfl ?_
    refine g_iadd C dX0_cellAt_39 ?_
    refine g_eqi (x := (nI y) + (nI j)) (y := nI (y + j)) (nI_add _ _) ?_
    refine g_callSN (As := [.int (nI x), .int (nI (y + j))]) (rest := []) C (c_X1_cellOf l D tys W (nI x) (nI (y + j))) ⟨(va_cnB (host := "WetMosaic") 2 C.ts gX0_cellAt_X1_cellOf_n32 rfl rfl rfl (C.E.2.2.1 _ (by decide +kernel)) (C.w _ k_X0_cellAt_4) (by decide +kernel) ⟨(Nat.le_of_ble_eq_true rfl), (Nat.le_of_ble_eq_true rfl)⟩), C.w _ k_X0_cellAt_5, trivial⟩ rfl rfl (Nat.le_of_ble_eq_true rfl) dX0_cellAt_40 (Nat.le_of_ble_eq_true rfl) (Nat.le_of_ble_eq_true rfl) (g_is (x := .int (10 * (nI (y + j)) + (nI x))) (W1 := W) ?_)
    refine g_iret C hQ (Nat.le_of_ble_eq_true rfl) (Nat.le_of_ble_eq_true rfl) dX0_cellAt_43 ?_
    exact ⟨by rw [cel_nI]; rfl, rfl⟩
  | true =>
    refine g_aload_n C dX0_cellAt_0 rfl 0 rfl ?_
    refine g_get (ci := 0) (Cn := RX0) (T := TX0) (N := 8) C k_X0_cellAt_inX0 hm rfl 5 (by decide) k_X0_cellAt_1 rfl rfl dX0_cellAt_1 ?_
    refine g_if_eq (tgt := 16) C dX0_cellAt_4 (by decide) (fun c_3 => by exfalso; revert c_3; decide) (fun c_3 => ?_)
    refine g_aload_n C dX0_cellAt_7 rfl 0 rfl ?_
    refine g_get (ci := 0) (Cn := RX0) (T := TX0) (N := 8) C k_X0_cellAt_inX0 hm rfl 0 (by decide) k_X0_cellAt_2 rfl rfl dX0_cellAt_8 ?_
    refine g_iload_n C dX0_cellAt_11 rfl 1 rfl ?_
    refine g_iadd C dX0_cellAt_12 ?_
    refine g_eqi (x := (nI x) + (nI j)) (y := nI (x + j)) (nI_add _ _) ?_
    refine g_goto (tgt := 20) C dX0_cellAt_13 (by decide) ?_
    refine g_aload_n C dX0_cellAt_20 rfl 0 rfl ?_
    refine g_get (ci := 0) (Cn := RX0) (T := TX0) (N := 8) C k_X0_cellAt_inX0 hm rfl 5 (by decide) k_X0_cellAt_1 rfl rfl dX0_cellAt_21 ?_
    refine g_if_eq (tgt := 34) C dX0_cellAt_24 (by decide) (fun c_4 => by exfalso; revert c_4; decide) (fun c_4 => ?_)
    refine g_aload_n C dX0_cellAt_27 rfl 0 rfl ?_
    refine g_get (ci := 0) (Cn := RX0) (T := TX0) (N := 8) C k_X0_cellAt_inX0 hm rfl 1 (by decide) k_X0_cellAt_3 rfl rfl dX0_cellAt_28 ?_
    refine g_goto (tgt := 40) C dX0_cellAt_31 (by decide) ?_
    refine g_callSN (As := [.int (nI (x + j)), .int (nI y)]) (rest := []) C (c_X1_cellOf l D tys W (nI (x + j)) (nI y)) ⟨(va_cnB (host := "WetMosaic") 2 C.ts gX0_cellAt_X1_cellOf_n32 rfl rfl rfl (C.E.2.2.1 _ (by decide +kernel)) (C.w _ k_X0_cellAt_4) (by decide +kernel) ⟨(Nat.le_of_ble_eq_true rfl), (Nat.le_of_ble_eq_true rfl)⟩), C.w _ k_X0_cellAt_5, trivial⟩ rfl rfl (Nat.le_of_ble_eq_true rfl) dX0_cellAt_40 (Nat.le_of_ble_eq_true rfl) (Nat.le_of_ble_eq_true rfl) (g_is (x := .int (10 * (nI y) + (nI (x + j)))) (W1 := W) ?_)
    refine g_iret C hQ (Nat.le_of_ble_eq_true rfl) (Nat.le_of_ble_eq_true rfl) dX0_cellAt_43 ?_
    exact ⟨by rw [cel_nI]; rfl, rfl⟩

theorem k_X0_shownColour_inX0 : ∀ w ∈ wsX00, w ∈ wsX0_shownColour := by decide +kernel
theorem k_X0_shownColour_1 : Cond.fieldLink RX0 29 "WetMosaic$Piece" "showsBack" "Z" ∈ wsX0_shownColour := by decide +kernel
theorem k_X0_shownColour_2 : Cond.fieldLink RX0 23 "WetMosaic$Piece" "front" "I" ∈ wsX0_shownColour := by decide +kernel
theorem k_X0_shownColour_3 : Cond.fieldLink RX0 26 "WetMosaic$Piece" "back" "I" ∈ wsX0_shownColour := by decide +kernel
set_option maxHeartbeats 4000000 in
set_option maxRecDepth 100000 in
theorem c_X0_shownColour (l : Launch) (D : va_G) (tys : List (ClassId × FieldType)) (W : va_W) (o x y ln : Nat) (fr bk : Int32) (ac sb ot : Bool) (hm : (o, .inr (0, [.int (nI x), .int (nI y), .int (nI ln), .int fr, .int bk, .int (gz ac), .int (gz sb), .int (gz ot)])) ∈ W) : gM l yX0_shownColour wsX0_shownColour ({ frames := 0, cells := 0, slots := 0, locals := 0 } : Room) D tys [.ref o] W (gIs (some (.int (if sb then bk else fr))) W) 0 0 := by
  refine gM_of (by decide) rfl (Nat.le_of_ble_eq_true rfl) ?_
  intro p e s m args below meth c A Q hin C hQ
  refine g_sub [0] (lv' := [(0, .ref o)]) rfl ?_
  cases sb with
  | false =>
    refine g_aload_n C dX0_shownColour_0 rfl 0 rfl ?_
    refine g_get (ci := 0) (Cn := RX0) (T := TX0) (N := 8) C k_X0_shownColour_inX0 hm rfl 6 (by decide) k_X0_shownColour_1 rfl rfl dX0_shownColour_1 ?_
    refine g_if_eq (tgt := 14) C dX0_shownColour_4 (by decide) (fun c_1 => ?_) (fun c_1 => by exfalso; revert c_1; decide)
    refine g_aload_n C dX0_shownColour_14 rfl 0 rfl ?_
    refine g_get (ci := 0) (Cn := RX0) (T := TX0) (N := 8) C k_X0_shownColour_inX0 hm rfl 3 (by decide) k_X0_shownColour_2 rfl rfl dX0_shownColour_15 ?_
    refine g_iret C hQ (Nat.le_of_ble_eq_true rfl) (Nat.le_of_ble_eq_true rfl) dX0_shownColour_18 ?_
    exact ⟨rfl, rfl⟩
  | true =>
    refine g_aload_n C dX0_shownColour_0 rfl 0 rfl ?_
    refine g_get (ci := 0) (Cn := RX0) (T := TX0) (N := 8) C k_X0_shownColour_inX0 hm rfl 6 (by decide) k_X0_shownColour_1 rfl rfl dX0_shownColour_1 ?_
    refine g_if_eq (tgt := 14) C dX0_shownColour_4 (by decide) (fun c_2 => by exfalso; revert c_2; decide) (fun c_2 => ?_)
    refine g_aload_n C dX0_shownColour_7 rfl 0 rfl ?_
    refine g_get (ci := 0) (Cn := RX0) (T := TX0) (N := 8) C k_X0_shownColour_inX0 hm rfl 4 (by decide) k_X0_shownColour_3 rfl rfl dX0_shownColour_8 ?_
    refine g_goto (tgt := 18) C dX0_shownColour_11 (by decide) ?_
    refine g_iret C hQ (Nat.le_of_ble_eq_true rfl) (Nat.le_of_ble_eq_true rfl) dX0_shownColour_18 ?_
    exact ⟨rfl, rfl⟩

theorem k_X0_otherColour_inX0 : ∀ w ∈ wsX00, w ∈ wsX0_otherColour := by decide +kernel
theorem k_X0_otherColour_1 : Cond.fieldLink RX0 29 "WetMosaic$Piece" "showsBack" "Z" ∈ wsX0_otherColour := by decide +kernel
theorem k_X0_otherColour_2 : Cond.fieldLink RX0 26 "WetMosaic$Piece" "back" "I" ∈ wsX0_otherColour := by decide +kernel
theorem k_X0_otherColour_3 : Cond.fieldLink RX0 23 "WetMosaic$Piece" "front" "I" ∈ wsX0_otherColour := by decide +kernel
set_option maxHeartbeats 4000000 in
set_option maxRecDepth 100000 in
theorem c_X0_otherColour (l : Launch) (D : va_G) (tys : List (ClassId × FieldType)) (W : va_W) (o x y ln : Nat) (fr bk : Int32) (ac sb ot : Bool) (hm : (o, .inr (0, [.int (nI x), .int (nI y), .int (nI ln), .int fr, .int bk, .int (gz ac), .int (gz sb), .int (gz ot)])) ∈ W) : gM l yX0_otherColour wsX0_otherColour ({ frames := 0, cells := 0, slots := 0, locals := 0 } : Room) D tys [.ref o] W (gIs (some (.int (if sb then fr else bk))) W) 0 0 := by
  refine gM_of (by decide) rfl (Nat.le_of_ble_eq_true rfl) ?_
  intro p e s m args below meth c A Q hin C hQ
  refine g_sub [0] (lv' := [(0, .ref o)]) rfl ?_
  cases sb with
  | false =>
    refine g_aload_n C dX0_otherColour_0 rfl 0 rfl ?_
    refine g_get (ci := 0) (Cn := RX0) (T := TX0) (N := 8) C k_X0_otherColour_inX0 hm rfl 6 (by decide) k_X0_otherColour_1 rfl rfl dX0_otherColour_1 ?_
    refine g_if_eq (tgt := 14) C dX0_otherColour_4 (by decide) (fun c_1 => ?_) (fun c_1 => by exfalso; revert c_1; decide)
    refine g_aload_n C dX0_otherColour_14 rfl 0 rfl ?_
    refine g_get (ci := 0) (Cn := RX0) (T := TX0) (N := 8) C k_X0_otherColour_inX0 hm rfl 4 (by decide) k_X0_otherColour_2 rfl rfl dX0_otherColour_15 ?_
    refine g_iret C hQ (Nat.le_of_ble_eq_true rfl) (Nat.le_of_ble_eq_true rfl) dX0_otherColour_18 ?_
    exact ⟨rfl, rfl⟩
  | true =>
    refine g_aload_n C dX0_otherColour_0 rfl 0 rfl ?_
    refine g_get (ci := 0) (Cn := RX0) (T := TX0) (N := 8) C k_X0_otherColour_inX0 hm rfl 6 (by decide) k_X0_otherColour_1 rfl rfl dX0_otherColour_1 ?_
    refine g_if_eq (tgt := 14) C dX0_otherColour_4 (by decide) (fun c_2 => by exfalso; revert c_2; decide) (fun c_2 => ?_)
    refine g_aload_n C dX0_otherColour_7 rfl 0 rfl ?_
    refine g_get (ci := 0) (Cn := RX0) (T := TX0) (N := 8) C k_X0_otherColour_inX0 hm rfl 3 (by decide) k_X0_otherColour_3 rfl rfl dX0_otherColour_8 ?_
    refine g_goto (tgt := 18) C dX0_otherColour_11 (by decide) ?_
    refine g_iret C hQ (Nat.le_of_ble_eq_true rfl) (Nat.le_of_ble_eq_true rfl) dX0_otherColour_18 ?_
    exact ⟨rfl, rfl⟩

theorem k_X1_find_inX1 : ∀ w ∈ wsX10, w ∈ wsX1_find := by decide +kernel
theorem k_X1_find_1 : Cond.fieldLink RX1 74 "WetMosaic" "pressed" "I" ∈ wsX1_find := by decide +kernel
theorem k_X1_find_2 : Cond.fieldLink RX1 21 "WetMosaic" "pieces" "[LWetMosaic$Piece;" ∈ wsX1_find := by decide +kernel
set_option maxHeartbeats 4000000 in
set_option maxRecDepth 100000 in
theorem c_X1_find (l : Launch) (D : va_G) (tys : List (ClassId × FieldType)) (cP : ClassId) (ht1 : tys[1]? = some (cP, .object RX0)) (W : va_W) (h a1 a2 a3 a4 a5 a6 a7 np hr : Nat) (pcs : Nat → Option Nat) (v : Int32) (hnp : np ≤ 100) (hm : (h, .inr (1, [.ref a1, .ref a2, .ref a3, .ref a4, .int (nI np), .int (nI hr), .ref a5, .ref a6, .ref a7])) ∈ W) (hm4 : (a4, .inl (cP, 100, .inr (.inr (.inr (.inr (pcs)))))) ∈ W) : gM l yX1_find wsX1_find ({ frames := 1, cells := 0, slots := 0, locals := 22 } : Room) D tys [.ref h, .int v] W (gIs (some (va_rf (fnd np pcs v))) W) 0 0 := by
  refine gM_of (by decide) rfl (Nat.le_of_ble_eq_true rfl) ?_
  intro p e s m args below meth c A Q hin C hQ
  refine g_sub [0, 1] (lv' := [(0, .ref h), (1, .int v)]) rfl ?_
  refine g_iload_n C dX1_find_0 rfl 1 rfl ?_
  refine g_iconst (v := 0) C dX1_find_1 (by decide) ?_
  refine g_aload_n C dX1_find_2 rfl 0 rfl ?_
  refine g_get (ci := 1) (Cn := RX1) (T := TX1) (N := 9) C k_X1_find_inX1 hm rfl 4 (by decide) k_X1_find_1 rfl rfl dX1_find_3 ?_
  refine g_iconst (v := 1) C dX1_find_6 (by decide) ?_
  refine g_isub C dX1_find_7 ?_
  refine g_callS (As := [.int v, .int 0, .int ((nI np) - 1)]) (rest := []) C (c_X1_within l D tys W v 0 ((nI np) - 1)) (va_cwS 3 C.ts gX1_find_X1_within rfl rfl rfl (by decide +kernel) ⟨(Nat.le_of_ble_eq_true rfl), (Nat.le_of_ble_eq_true rfl)⟩) rfl rfl (Nat.le_of_ble_eq_true rfl) dX1_find_8 (Nat.le_of_ble_eq_true rfl) (Nat.le_of_ble_eq_true rfl) (g_is (x := .int (gz (inR 0 ((nI np) - 1) v))) (W1 := W) ?_)
  refine g_if_eq (tgt := 32) C dX1_find_11 (by decide) (fun c_1 => ?_) (fun c_1 => ?_)
  · skip
    replace c_1 := gz0.mp c_1
    refine g_null C dX1_find_32 ?_
    refine g_aret C (Or.inl rfl) hQ (Nat.le_of_ble_eq_true rfl) (Nat.le_of_ble_eq_true rfl) dX1_find_33 ?_
    first | exact ⟨by rw [fnd, if_pos (by assumption)], rfl⟩ | exact ⟨by rw [fnd, if_neg (by simp [*])]; rfl, rfl⟩
  · skip
    replace c_1 := gzn.mp c_1
    obtain ⟨k, hk, hv⟩ := inR_np (by omega) c_1
    refine g_iload_n C dX1_find_14 rfl 1 rfl ?_
    refine g_aload_n C dX1_find_15 rfl 0 rfl ?_
    refine g_get (ci := 1) (Cn := RX1) (T := TX1) (N := 9) C k_X1_find_inX1 hm rfl 3 (by decide) k_X1_find_2 rfl rfl dX1_find_16 ?_
    refine g_alen (v := 100) C 1 hm4 ht1 rfl dX1_find_19 ?_
    refine g_icmp_ge (tgt := 32) C dX1_find_20 (by decide) (fun c_2 => by exfalso; rw [hv, show (100 : Int32) = nI 100 from rfl, nI_leI (by omega) (by omega)] at c_2; omega) (fun c_2 => ?_)
    refine g_aload_n C dX1_find_23 rfl 0 rfl ?_
    refine g_get (ci := 1) (Cn := RX1) (T := TX1) (N := 9) C k_X1_find_inX1 hm rfl 3 (by decide) k_X1_find_2 rfl rfl dX1_find_24 ?_
    refine g_iload_n C dX1_find_27 rfl 1 rfl ?_
    refine g_aald C 1 hm4 ht1 (by rw [hv]; exact vp_in_nI (by omega) (by omega)) dX1_find_28 ?_
    refine g_goto (tgt := 33) C dX1_find_29 (by decide) ?_
    refine g_aret C (va_rf_or _) hQ (Nat.le_of_ble_eq_true rfl) (Nat.le_of_ble_eq_true rfl) dX1_find_33 ?_
    first | exact ⟨by rw [fnd, if_pos (by assumption)], rfl⟩ | exact ⟨by rw [fnd, if_neg (by simp [*])]; rfl, rfl⟩

theorem k_X1_isLoose_inX0 : ∀ w ∈ wsX00, w ∈ wsX1_isLoose := by decide +kernel
theorem k_X1_isLoose_1 : Cond.fieldLink RX1 132 "WetMosaic$Piece" "out" "Z" ∈ wsX1_isLoose := by decide +kernel
theorem k_X1_isLoose_2 : Cond.fieldLink RX1 110 "WetMosaic$Piece" "length" "I" ∈ wsX1_isLoose := by decide +kernel
set_option maxHeartbeats 4000000 in
set_option maxRecDepth 100000 in
theorem c_X1_isLoose (l : Launch) (D : va_G) (tys : List (ClassId × FieldType)) (cI : ClassId) (ht0 : tys[0]? = some (cI, .int)) (W : va_W) (o x y ln : Nat) (fr bk : Int32) (ac sb ot : Bool) (r : Nat) (f : Nat → Int32) (hln : ln ≤ 3) (hc : ∀ j, j < ln → cel x y ac j < 80) (hm : (o, .inr (0, [.int (nI x), .int (nI y), .int (nI ln), .int fr, .int bk, .int (gz ac), .int (gz sb), .int (gz ot)])) ∈ W) (hr : (r, .inl (cI, 80, .inl (f))) ∈ W) : gM l yX1_isLoose wsX1_isLoose ({ frames := 2, cells := 0, slots := 0, locals := 43 } : Room) D tys [.ref o, .ref r] W (gIs (some (.int (gz (lse x y ln ac ot f)))) W) 0 0 := by
  refine gM_of (by decide) rfl (Nat.le_of_ble_eq_true rfl) ?_
  intro p e s m args below meth c A Q hin C hQ
  refine g_sub [0, 1] (lv' := [(0, .ref o), (1, .ref r)]) rfl ?_
  refine g_aload_n C dX1_isLoose_0 rfl 0 rfl ?_
  refine g_get (ci := 0) (Cn := RX0) (T := TX0) (N := 8) C k_X1_isLoose_inX0 hm rfl 7 (by decide) k_X1_isLoose_1 rfl rfl dX1_isLoose_1 ?_
  refine g_if_eq (tgt := 9) C dX1_isLoose_4 (by decide) (fun c_1 => ?_) (fun c_1 => ?_)
  · skip
    replace c_1 := gz0.mp c_1
    refine g_iconst (v := 0) C dX1_isLoose_9 (by decide) ?_
    refine g_istore_n (lv' := [(2, .int 0), (0, .ref o), (1, .ref r)]) C dX1_isLoose_10 rfl (by decide) rfl ?_
    have lp11 : ∀ (n9 : Nat) (j : Nat) (hj : allB (fun j => decide (1 ≤ f (cel x y ac j))) j = true) (hi : j ≤ ln) (hn : ln + 1 ≤ j + n9), G p l e ({ frames := 2, cells := 0, slots := 0, locals := 43 } : Room) s m args below meth c D A s.heap 3 0 0 Q 11 [(0, .ref o), (1, .ref r), (2, .int (nI j))] [] W := by
      intro n9
      induction n9 with
      | zero =>
        intro j hj hi hn
        exfalso; omega
      | succ n9 ih =>
        intro j hj hi hn
        refine g_iload_n C dX1_isLoose_11 rfl 2 rfl ?_
        refine g_aload_n C dX1_isLoose_12 rfl 0 rfl ?_
        refine g_get (ci := 0) (Cn := RX0) (T := TX0) (N := 8) C k_X1_isLoose_inX0 hm rfl 2 (by decide) k_X1_isLoose_2 rfl rfl dX1_isLoose_13 ?_
        refine g_icmp_ge (tgt := 40) C dX1_isLoose_16 (by decide) (fun c_2 => ?_) (fun c_2 => ?_)
        · skip
          rw [nI_leI (by omega) (by omega)] at c_2
          refine g_iconst (v := 1) C dX1_isLoose_40 (by decide) ?_
          refine g_zret C (by first | exact Or.inl rfl | exact Or.inr rfl | exact gz01 _) hQ (Nat.le_of_ble_eq_true rfl) (Nat.le_of_ble_eq_true rfl) dX1_isLoose_41 ?_
          exact ⟨gz_e1 (by rw [lse, show ln = j by omega, hj]; simp [*]), rfl⟩
        · skip
          rw [nI_leI (by omega) (by omega)] at c_2
          refine g_aload_n C dX1_isLoose_19 rfl 1 rfl ?_
          refine g_aload_n C dX1_isLoose_20 rfl 0 rfl ?_
          refine g_iload_n C dX1_isLoose_21 rfl 2 rfl ?_
          refine g_callV (ci := 0) (Cn := RX0) (As := [.int (nI j)]) (rest := [.ref r]) C hm rfl rfl (c_X0_cellAt l D tys W o x y ln fr bk ac sb ot hm j) (cwV 1 C.ts gX1_isLoose_X0_cellAt rfl rfl rfl (by decide +kernel) ⟨(Nat.le_of_ble_eq_true rfl), (Nat.le_of_ble_eq_true rfl)⟩) rfl rfl (Nat.le_of_ble_eq_true rfl) dX1_isLoose_22 (Nat.le_of_ble_eq_true rfl) (Nat.le_of_ble_eq_true rfl) (g_is (x := .int (nI (cel x y ac j))) (W1 := W) ?_)
          refine g_callS (As := [.ref r, .int (nI (cel x y ac j))]) (rest := []) C (c_X1_at l D tys cI ht0 W r 80 f (nI (cel x y ac j)) (by decide) (by decide) hr) (va_cwS 2 C.ts gX1_isLoose_X1_at rfl rfl rfl (by decide +kernel) ⟨(Nat.le_of_ble_eq_true rfl), (Nat.le_of_ble_eq_true rfl)⟩) rfl rfl (Nat.le_of_ble_eq_true rfl) dX1_isLoose_25 (Nat.le_of_ble_eq_true rfl) (Nat.le_of_ble_eq_true rfl) (g_is (x := .int (atv 80 f (nI (cel x y ac j)))) (W1 := W) ?_)
          refine g_eqi (x := atv 80 f (nI (cel x y ac j))) (y := f (cel x y ac j)) (atv_nI (hc j (by omega)) (by omega)) ?_
          refine g_iconst (v := 1) C dX1_isLoose_28 (by decide) ?_
          refine g_icmp_ge (tgt := 34) C dX1_isLoose_29 (by decide) (fun c_3 => ?_) (fun c_3 => ?_)
          · skip
            refine g_iinc (v := nI (j + 1)) (lv' := [(2, .int (nI (j + 1))), (0, .ref o), (1, .ref r)]) C dX1_isLoose_34 2 rfl (by exact nI_add _ 1) (by decide) rfl ?_
            refine g_goto (tgt := 11) C dX1_isLoose_37 (by decide) ?_
            refine g_sub [1, 2, 0] (lv' := [(0, .ref o), (1, .ref r), (2, .int (nI (j + 1)))]) rfl ?_
            exact ih (j + 1) (by rw [allB, hj, dec_le (by assumption)]; rfl) (by omega) (by omega)
          · skip
            refine g_iconst (v := 0) C dX1_isLoose_32 (by decide) ?_
            refine g_zret C (by first | exact Or.inl rfl | exact Or.inr rfl | exact gz01 _) hQ (Nat.le_of_ble_eq_true rfl) (Nat.le_of_ble_eq_true rfl) dX1_isLoose_33 ?_
            exact ⟨gz_e0 (by rw [lse, allB_false (show j < ln by omega) (dec_nle (by assumption))]; simp), rfl⟩
    refine g_sub [1, 2, 0] (lv' := [(0, .ref o), (1, .ref r), (2, .int 0)]) rfl ?_
    exact lp11 (ln + 1) 0 rfl (by omega) (by omega)
  · skip
    replace c_1 := gzn.mp c_1
    refine g_iconst (v := 0) C dX1_isLoose_7 (by decide) ?_
    refine g_zret C (by first | exact Or.inl rfl | exact Or.inr rfl | exact gz01 _) hQ (Nat.le_of_ble_eq_true rfl) (Nat.le_of_ble_eq_true rfl) dX1_isLoose_8 ?_
    exact ⟨gz_e0 (by simp [lse, *]), rfl⟩

theorem k_X1_isFree_inX1 : ∀ w ∈ wsX10, w ∈ wsX1_isFree := by decide +kernel
theorem k_X1_isFree_1 : Cond.fieldLink RX1 13 "WetMosaic" "cover" "[I" ∈ wsX1_isFree := by decide +kernel
theorem k_X1_isFree_2 : Cond.fieldLink RX1 9 "WetMosaic" "wet" "[I" ∈ wsX1_isFree := by decide +kernel
set_option maxHeartbeats 4000000 in
set_option maxRecDepth 100000 in
theorem c_X1_isFree (l : Launch) (D : va_G) (tys : List (ClassId × FieldType)) (cI : ClassId) (ht0 : tys[0]? = some (cI, .int)) (W : va_W) (h a1 a2 a3 a4 a5 a6 a7 np hr : Nat) (wet cover : Nat → Int32) (i own : Int32) (hm : (h, .inr (1, [.ref a1, .ref a2, .ref a3, .ref a4, .int (nI np), .int (nI hr), .ref a5, .ref a6, .ref a7])) ∈ W) (hm1 : (a1, .inl (cI, 80, .inl (wet))) ∈ W) (hm2 : (a2, .inl (cI, 80, .inl (cover))) ∈ W) : gM l yX1_isFree wsX1_isFree ({ frames := 2, cells := 0, slots := 0, locals := 43 } : Room) D tys [.ref h, .int i, .int own] W (gIs (some (.int (gz (fre wet cover own i)))) W) 0 0 := by
  refine gM_of (by decide) rfl (Nat.le_of_ble_eq_true rfl) ?_
  intro p e s m args below meth c A Q hin C hQ
  refine g_sub [0, 1, 2] (lv' := [(0, .ref h), (1, .int i), (2, .int own)]) rfl ?_
  refine g_aload_n C dX1_isFree_0 rfl 0 rfl ?_
  refine g_get (ci := 1) (Cn := RX1) (T := TX1) (N := 9) C k_X1_isFree_inX1 hm rfl 1 (by decide) k_X1_isFree_1 rfl rfl dX1_isFree_1 ?_
  refine g_iload_n C dX1_isFree_4 rfl 1 rfl ?_
  refine g_callS (As := [.ref a2, .int i]) (rest := []) C (c_X1_at l D tys cI ht0 W a2 80 cover i (by decide) (by decide) hm2) (va_cwS 2 C.ts gX1_isFree_X1_at rfl rfl rfl (by decide +kernel) ⟨(Nat.le_of_ble_eq_true rfl), (Nat.le_of_ble_eq_true rfl)⟩) rfl rfl (Nat.le_of_ble_eq_true rfl) dX1_isFree_5 (Nat.le_of_ble_eq_true rfl) (Nat.le_of_ble_eq_true rfl) (g_is (x := .int (atv 80 cover i)) (W1 := W) ?_)
  refine g_istore_n (lv' := [(3, .int (atv 80 cover i)), (0, .ref h), (1, .int i), (2, .int own)]) C dX1_isFree_8 rfl (by decide) rfl ?_
  refine g_aload_n C dX1_isFree_9 rfl 1 rfl ?_
  refine g_get (ci := 1) (Cn := RX1) (T := TX1) (N := 9) C k_X1_isFree_inX1 hm rfl 0 (by decide) k_X1_isFree_2 rfl rfl dX1_isFree_10 ?_
  refine g_iload_n C dX1_isFree_13 rfl 2 rfl ?_
  refine g_callS (As := [.ref a1, .int i]) (rest := []) C (c_X1_at l D tys cI ht0 W a1 80 wet i (by decide) (by decide) hm1) (va_cwS 2 C.ts gX1_isFree_X1_at rfl rfl rfl (by decide +kernel) ⟨(Nat.le_of_ble_eq_true rfl), (Nat.le_of_ble_eq_true rfl)⟩) rfl rfl (Nat.le_of_ble_eq_true rfl) dX1_isFree_14 (Nat.le_of_ble_eq_true rfl) (Nat.le_of_ble_eq_true rfl) (g_is (x := .int (atv 80 wet i)) (W1 := W) ?_)
  refine g_iconst (v := 1) C dX1_isFree_17 (by decide) ?_
  refine g_icmp_lt (tgt := 35) C dX1_isFree_18 (by decide) (fun c_1 => ?_) (fun c_1 => ?_)
  · skip
    refine g_iconst (v := 0) C dX1_isFree_35 (by decide) ?_
    refine g_zret C (by first | exact Or.inl rfl | exact Or.inr rfl | exact gz01 _) hQ (Nat.le_of_ble_eq_true rfl) (Nat.le_of_ble_eq_true rfl) dX1_isFree_36 ?_
    first | exact ⟨gz_e0 (by simp [fre, *, dec_le, dec_nle, dec_lt, dec_nlt]), rfl⟩ | exact ⟨gz_e1 (by simp [fre, *, dec_le, dec_nle, dec_lt, dec_nlt]), rfl⟩
  · skip
    refine g_iload_n C dX1_isFree_21 rfl 0 rfl ?_
    refine g_iconst (v := (-1)) C dX1_isFree_22 (by decide) ?_
    refine g_icmp_eq (tgt := 31) C dX1_isFree_23 (by decide) (fun c_2 => ?_) (fun c_2 => ?_)
    · skip
      refine g_iconst (v := 1) C dX1_isFree_31 (by decide) ?_
      refine g_goto (tgt := 36) C dX1_isFree_32 (by decide) ?_
      refine g_zret C (by first | exact Or.inl rfl | exact Or.inr rfl | exact gz01 _) hQ (Nat.le_of_ble_eq_true rfl) (Nat.le_of_ble_eq_true rfl) dX1_isFree_36 ?_
      first | exact ⟨gz_e0 (by simp [fre, *, dec_le, dec_nle, dec_lt, dec_nlt]), rfl⟩ | exact ⟨gz_e1 (by simp [fre, *, dec_le, dec_nle, dec_lt, dec_nlt]), rfl⟩
    · skip
      refine g_iload_n C dX1_isFree_26 rfl 0 rfl ?_
      refine g_iload_n C dX1_isFree_27 rfl 3 rfl ?_
      refine g_icmp_ne (tgt := 35) C dX1_isFree_28 (by decide) (fun c_3 => ?_) (fun c_3 => ?_)
      · skip
        refine g_iconst (v := 0) C dX1_isFree_35 (by decide) ?_
        refine g_zret C (by first | exact Or.inl rfl | exact Or.inr rfl | exact gz01 _) hQ (Nat.le_of_ble_eq_true rfl) (Nat.le_of_ble_eq_true rfl) dX1_isFree_36 ?_
        first | exact ⟨gz_e0 (by simp [fre, *, dec_le, dec_nle, dec_lt, dec_nlt]), rfl⟩ | exact ⟨gz_e1 (by simp [fre, *, dec_le, dec_nle, dec_lt, dec_nlt]), rfl⟩
      · skip
        refine g_iconst (v := 1) C dX1_isFree_31 (by decide) ?_
        refine g_goto (tgt := 36) C dX1_isFree_32 (by decide) ?_
        refine g_zret C (by first | exact Or.inl rfl | exact Or.inr rfl | exact gz01 _) hQ (Nat.le_of_ble_eq_true rfl) (Nat.le_of_ble_eq_true rfl) dX1_isFree_36 ?_
        first | exact ⟨gz_e0 (by simp [fre, *, dec_le, dec_nle, dec_lt, dec_nlt]), rfl⟩ | exact ⟨gz_e1 (by simp [fre, *, dec_le, dec_nle, dec_lt, dec_nlt]), rfl⟩

set_option maxHeartbeats 4000000 in
set_option maxRecDepth 100000 in
theorem c_X1_hasRoom (l : Launch) (D : va_G) (tys : List (ClassId × FieldType)) (cI : ClassId) (ht0 : tys[0]? = some (cI, .int)) (W : va_W) (h a1 a2 a3 a4 a5 a6 a7 np hr : Nat) (wet cover : Nat → Int32) (x y ln : Nat) (ac : Bool) (own : Int32) (hx : x ≤ 9) (hy : y ≤ 7) (hln : ln ≤ 3) (hm : (h, .inr (1, [.ref a1, .ref a2, .ref a3, .ref a4, .int (nI np), .int (nI hr), .ref a5, .ref a6, .ref a7])) ∈ W) (hm1 : (a1, .inl (cI, 80, .inl (wet))) ∈ W) (hm2 : (a2, .inl (cI, 80, .inl (cover))) ∈ W) : gM l yX1_hasRoom wsX1_hasRoom ({ frames := 3, cells := 0, slots := 0, locals := 66 } : Room) D tys [.ref h, .int (nI x), .int (nI y), .int (nI ln), .int (gz ac), .int own] W (gIs (some (.int (gz (hrm wet cover x y ln ac own)))) W) 0 0 := by
  refine gM_of (by decide) rfl (Nat.le_of_ble_eq_true rfl) ?_
  intro p e s m args below meth c A Q hin C hQ
  refine g_sub [0, 1, 2, 3, 4, 5] (lv' := [(0, .ref h), (1, .int (nI x)), (2, .int (nI y)), (3, .int (nI ln)), (4, .int (gz ac)), (5, .int own)]) rfl ?_
  cases ac with
  | false =>
    refine g_iconst (v := 0) C dX1_hasRoom_0 (by decide) ?_
    refine g_istore (lv' := [(6, .int 0), (0, .ref h), (1, .int (nI x)), (2, .int (nI y)), (3, .int (nI ln)), (4, .int (gz false)), (5, .int own)]) C dX1_hasRoom_1 (by decide) rfl ?_
    have lp3 : ∀ (n9 : Nat) (j : Nat) (hj : allB (hr1 wet cover x y false own) j = true) (hi : j ≤ ln) (hn : ln + 1 ≤ j + n9), G p l e ({ frames := 3, cells := 0, slots := 0, locals := 66 } : Room) s m args below meth c D A s.heap 9 0 0 Q 3 [(0, .ref h), (1, .int (nI x)), (2, .int (nI y)), (3, .int (nI ln)), (4, .int (gz false)), (5, .int own), (6, .int (nI j))] [] W := by
      intro n9
      induction n9 with
      | zero =>
        intro j hj hi hn
        exfalso; omega
      | succ n9 ih =>
        intro j hj hi hn
        refine g_iload C dX1_hasRoom_3 6 rfl ?_
        refine g_iload_n C dX1_hasRoom_5 rfl 3 rfl ?_
        refine g_icmp_ge (tgt := 73) C dX1_hasRoom_6 (by decide) (fun c_1 => ?_) (fun c_1 => ?_)
        · skip
          rw [nI_leI (by omega) (by omega)] at c_1
          refine g_iconst (v := 1) C dX1_hasRoom_73 (by decide) ?_
          refine g_zret C (by first | exact Or.inl rfl | exact Or.inr rfl | exact gz01 _) hQ (Nat.le_of_ble_eq_true rfl) (Nat.le_of_ble_eq_true rfl) dX1_hasRoom_74 ?_
          exact ⟨gz_e1 (by rw [hrm, show ln = j by omega]; exact hj), rfl⟩
        · skip
          rw [nI_leI (by omega) (by omega)] at c_1
          refine g_iload C dX1_hasRoom_9 4 rfl ?_
          refine g_if_eq (tgt := 21) C dX1_hasRoom_11 (by decide) (fun c_2 => ?_) (fun c_2 => by exfalso; revert c_2; decide)
          refine g_iload_n C dX1_hasRoom_21 rfl 1 rfl ?_
          refine g_istore (lv' := [(7, .int (nI x)), (0, .ref h), (1, .int (nI x)), (2, .int (nI y)), (3, .int (nI ln)), (4, .int (gz false)), (5, .int own), (6, .int (nI j))]) C dX1_hasRoom_22 (by decide) rfl ?_
          refine g_iload C dX1_hasRoom_24 5 rfl ?_
          refine g_if_eq (tgt := 33) C dX1_hasRoom_26 (by decide) (fun c_3 => ?_) (fun c_3 => by exfalso; revert c_3; decide)
          refine g_iload_n C dX1_hasRoom_33 rfl 3 rfl ?_
          refine g_iload C dX1_hasRoom_34 7 rfl ?_
          refine g_iadd C dX1_hasRoom_36 ?_
          refine g_eqi (x := (nI y) + (nI j)) (y := nI (y + j)) (nI_add _ _) ?_
          refine g_istore (lv' := [(8, .int (nI (y + j))), (7, .int (nI x)), (0, .ref h), (1, .int (nI x)), (2, .int (nI y)), (3, .int (nI ln)), (4, .int (gz false)), (5, .int own), (6, .int (nI j))]) C dX1_hasRoom_37 (by decide) rfl ?_
          refine g_iload C dX1_hasRoom_39 1 rfl ?_
          refine g_iload C dX1_hasRoom_41 0 rfl ?_
          refine g_callS (As := [.int (nI x), .int (nI (y + j))]) (rest := []) C (c_X1_isOnWall l D tys W (nI x) (nI (y + j))) (va_cwS 2 C.ts gX1_hasRoom_X1_isOnWall rfl rfl rfl (by decide +kernel) ⟨(Nat.le_of_ble_eq_true rfl), (Nat.le_of_ble_eq_true rfl)⟩) rfl rfl (Nat.le_of_ble_eq_true rfl) dX1_hasRoom_43 (Nat.le_of_ble_eq_true rfl) (Nat.le_of_ble_eq_true rfl) (g_is (x := .int (gz (onW (nI x) (nI (y + j))))) (W1 := W) ?_)
          refine g_if_eq (tgt := 65) C dX1_hasRoom_46 (by decide) (fun c_4 => ?_) (fun c_4 => ?_)
          · skip
            replace c_4 := gz0.mp c_4
            refine g_iconst (v := 0) C dX1_hasRoom_65 (by decide) ?_
            refine g_zret C (by first | exact Or.inl rfl | exact Or.inr rfl | exact gz01 _) hQ (Nat.le_of_ble_eq_true rfl) (Nat.le_of_ble_eq_true rfl) dX1_hasRoom_66 ?_
            exact ⟨gz_e0 (allB_false (show j < ln by omega) (by simp [hr1, cel, *])), rfl⟩
          · skip
            replace c_4 := gzn.mp c_4
            refine g_aload_n C dX1_hasRoom_49 rfl 2 rfl ?_
            refine g_iload C dX1_hasRoom_50 1 rfl ?_
            refine g_iload C dX1_hasRoom_52 0 rfl ?_
            refine g_callS (As := [.int (nI x), .int (nI (y + j))]) (rest := [.ref h]) C (c_X1_cellOf l D tys W (nI x) (nI (y + j))) (va_cwS 2 C.ts gX1_hasRoom_X1_cellOf rfl rfl rfl (by decide +kernel) ⟨(Nat.le_of_ble_eq_true rfl), (Nat.le_of_ble_eq_true rfl)⟩) rfl rfl (Nat.le_of_ble_eq_true rfl) dX1_hasRoom_54 (Nat.le_of_ble_eq_true rfl) (Nat.le_of_ble_eq_true rfl) (g_is (x := .int (10 * (nI (y + j)) + (nI x))) (W1 := W) ?_)
            refine g_eqi (x := 10 * (nI (y + j)) + (nI x)) (y := nI (10 * (y + j) + x)) (cel_nI _ _) ?_
            refine g_iload C dX1_hasRoom_57 7 rfl ?_
            refine g_callV (ci := 1) (Cn := RX1) (As := [.int (nI (10 * (y + j) + x)), .int own]) (rest := []) C hm rfl rfl (c_X1_isFree l D tys cI ht0 W h a1 a2 a3 a4 a5 a6 a7 np hr wet cover (nI (10 * (y + j) + x)) own hm hm1 hm2) (cwV 2 C.ts gX1_hasRoom_X1_isFree rfl rfl rfl (by decide +kernel) ⟨(Nat.le_of_ble_eq_true rfl), (Nat.le_of_ble_eq_true rfl)⟩) rfl rfl (Nat.le_of_ble_eq_true rfl) dX1_hasRoom_59 (Nat.le_of_ble_eq_true rfl) (Nat.le_of_ble_eq_true rfl) (g_is (x := .int (gz (fre wet cover own (nI (10 * (y + j) + x))))) (W1 := W) ?_)
            refine g_if_ne (tgt := 67) C dX1_hasRoom_62 (by decide) (fun c_5 => ?_) (fun c_5 => ?_)
            · skip
              replace c_5 := gzn.mp c_5
              refine g_iinc (v := nI (j + 1)) (lv' := [(6, .int (nI (j + 1))), (8, .int (nI (y + j))), (7, .int (nI x)), (0, .ref h), (1, .int (nI x)), (2, .int (nI y)), (3, .int (nI ln)), (4, .int (gz false)), (5, .int own)]) C dX1_hasRoom_67 8 rfl (by exact nI_add _ 1) (by decide) rfl ?_
              refine g_goto (tgt := 3) C dX1_hasRoom_70 (by decide) ?_
              refine g_sub [3, 4, 5, 6, 7, 8, 0] (lv' := [(0, .ref h), (1, .int (nI x)), (2, .int (nI y)), (3, .int (nI ln)), (4, .int (gz false)), (5, .int own), (6, .int (nI (j + 1)))]) rfl ?_
              exact ih (j + 1) (by rw [allB, hj]; simp [hr1, cel, *]) (by omega) (by omega)
            · skip
              replace c_5 := gz0.mp c_5
              refine g_iconst (v := 0) C dX1_hasRoom_65 (by decide) ?_
              refine g_zret C (by first | exact Or.inl rfl | exact Or.inr rfl | exact gz01 _) hQ (Nat.le_of_ble_eq_true rfl) (Nat.le_of_ble_eq_true rfl) dX1_hasRoom_66 ?_
              exact ⟨gz_e0 (allB_false (show j < ln by omega) (by simp [hr1, cel, *])), rfl⟩
    refine g_sub [1, 2, 3, 4, 5, 6, 0] (lv' := [(0, .ref h), (1, .int (nI x)), (2, .int (nI y)), (3, .int (nI ln)), (4, .int (gz false)), (5, .int own), (6, .int 0)]) rfl ?_
    exact lp3 (ln + 1) 0 rfl (by omega) (by omega)
  | true =>
    refine g_iconst (v := 0) C dX1_hasRoom_0 (by decide) ?_
    refine g_istore (lv' := [(6, .int 0), (0, .ref h), (1, .int (nI x)), (2, .int (nI y)), (3, .int (nI ln)), (4, .int (gz true)), (5, .int own)]) C dX1_hasRoom_1 (by decide) rfl ?_
    have lp3_6 : ∀ (n9 : Nat) (j : Nat) (hj : allB (hr1 wet cover x y true own) j = true) (hi : j ≤ ln) (hn : ln + 1 ≤ j + n9), G p l e ({ frames := 3, cells := 0, slots := 0, locals := 66 } : Room) s m args below meth c D A s.heap 9 0 0 Q 3 [(0, .ref h), (1, .int (nI x)), (2, .int (nI y)), (3, .int (nI ln)), (4, .int (gz true)), (5, .int own), (6, .int (nI j))] [] W := by
      intro n9
      induction n9 with
      | zero =>
        intro j hj hi hn
        exfalso; omega
      | succ n9 ih =>
        intro j hj hi hn
        refine g_iload C dX1_hasRoom_3 6 rfl ?_
        refine g_iload_n C dX1_hasRoom_5 rfl 3 rfl ?_
        refine g_icmp_ge (tgt := 73) C dX1_hasRoom_6 (by decide) (fun c_7 => ?_) (fun c_7 => ?_)
        · skip
          rw [nI_leI (by omega) (by omega)] at c_7
          refine g_iconst (v := 1) C dX1_hasRoom_73 (by decide) ?_
          refine g_zret C (by first | exact Or.inl rfl | exact Or.inr rfl | exact gz01 _) hQ (Nat.le_of_ble_eq_true rfl) (Nat.le_of_ble_eq_true rfl) dX1_hasRoom_74 ?_
          exact ⟨gz_e1 (by rw [hrm, show ln = j by omega]; exact hj), rfl⟩
        · skip
          rw [nI_leI (by omega) (by omega)] at c_7
          refine g_iload C dX1_hasRoom_9 4 rfl ?_
          refine g_if_eq (tgt := 21) C dX1_hasRoom_11 (by decide) (fun c_8 => by exfalso; revert c_8; decide) (fun c_8 => ?_)
          refine g_iload_n C dX1_hasRoom_14 rfl 1 rfl ?_
          refine g_iload C dX1_hasRoom_15 6 rfl ?_
          refine g_iadd C dX1_hasRoom_17 ?_
          refine g_eqi (x := (nI x) + (nI j)) (y := nI (x + j)) (nI_add _ _) ?_
          refine g_goto (tgt := 22) C dX1_hasRoom_18 (by decide) ?_
          refine g_istore (lv' := [(7, .int (nI (x + j))), (0, .ref h), (1, .int (nI x)), (2, .int (nI y)), (3, .int (nI ln)), (4, .int (gz true)), (5, .int own), (6, .int (nI j))]) C dX1_hasRoom_22 (by decide) rfl ?_
          refine g_iload C dX1_hasRoom_24 5 rfl ?_
          refine g_if_eq (tgt := 33) C dX1_hasRoom_26 (by decide) (fun c_9 => by exfalso; revert c_9; decide) (fun c_9 => ?_)
          refine g_iload_n C dX1_hasRoom_29 rfl 3 rfl ?_
          refine g_goto (tgt := 37) C dX1_hasRoom_30 (by decide) ?_
          refine g_istore (lv' := [(8, .int (nI y)), (7, .int (nI (x + j))), (0, .ref h), (1, .int (nI x)), (2, .int (nI y)), (3, .int (nI ln)), (4, .int (gz true)), (5, .int own), (6, .int (nI j))]) C dX1_hasRoom_37 (by decide) rfl ?_
          refine g_iload C dX1_hasRoom_39 1 rfl ?_
          refine g_iload C dX1_hasRoom_41 0 rfl ?_
          refine g_callS (As := [.int (nI (x + j)), .int (nI y)]) (rest := []) C (c_X1_isOnWall l D tys W (nI (x + j)) (nI y)) (va_cwS 2 C.ts gX1_hasRoom_X1_isOnWall rfl rfl rfl (by decide +kernel) ⟨(Nat.le_of_ble_eq_true rfl), (Nat.le_of_ble_eq_true rfl)⟩) rfl rfl (Nat.le_of_ble_eq_true rfl) dX1_hasRoom_43 (Nat.le_of_ble_eq_true rfl) (Nat.le_of_ble_eq_true rfl) (g_is (x := .int (gz (onW (nI (x + j)) (nI y)))) (W1 := W) ?_)
          refine g_if_eq (tgt := 65) C dX1_hasRoom_46 (by decide) (fun c_10 => ?_) (fun c_10 => ?_)
          · skip
            replace c_10 := gz0.mp c_10
            refine g_iconst (v := 0) C dX1_hasRoom_65 (by decide) ?_
            refine g_zret C (by first | exact Or.inl rfl | exact Or.inr rfl | exact gz01 _) hQ (Nat.le_of_ble_eq_true rfl) (Nat.le_of_ble_eq_true rfl) dX1_hasRoom_66 ?_
            exact ⟨gz_e0 (allB_false (show j < ln by omega) (by simp [hr1, cel, *])), rfl⟩
          · skip
            replace c_10 := gzn.mp c_10
            refine g_aload_n C dX1_hasRoom_49 rfl 2 rfl ?_
            refine g_iload C dX1_hasRoom_50 1 rfl ?_
            refine g_iload C dX1_hasRoom_52 0 rfl ?_
            refine g_callS (As := [.int (nI (x + j)), .int (nI y)]) (rest := [.ref h]) C (c_X1_cellOf l D tys W (nI (x + j)) (nI y)) (va_cwS 2 C.ts gX1_hasRoom_X1_cellOf rfl rfl rfl (by decide +kernel) ⟨(Nat.le_of_ble_eq_true rfl), (Nat.le_of_ble_eq_true rfl)⟩) rfl rfl (Nat.le_of_ble_eq_true rfl) dX1_hasRoom_54 (Nat.le_of_ble_eq_true rfl) (Nat.le_of_ble_eq_true rfl) (g_is (x := .int (10 * (nI y) + (nI (x + j)))) (W1 := W) ?_)
            refine g_eqi (x := 10 * (nI y) + (nI (x + j))) (y := nI (10 * y + (x + j))) (cel_nI _ _) ?_
            refine g_iload C dX1_hasRoom_57 7 rfl ?_
            refine g_callV (ci := 1) (Cn := RX1) (As := [.int (nI (10 * y + (x + j))), .int own]) (rest := []) C hm rfl rfl (c_X1_isFree l D tys cI ht0 W h a1 a2 a3 a4 a5 a6 a7 np hr wet cover (nI (10 * y + (x + j))) own hm hm1 hm2) (cwV 2 C.ts gX1_hasRoom_X1_isFree rfl rfl rfl (by decide +kernel) ⟨(Nat.le_of_ble_eq_true rfl), (Nat.le_of_ble_eq_true rfl)⟩) rfl rfl (Nat.le_of_ble_eq_true rfl) dX1_hasRoom_59 (Nat.le_of_ble_eq_true rfl) (Nat.le_of_ble_eq_true rfl) (g_is (x := .int (gz (fre wet cover own (nI (10 * y + (x + j)))))) (W1 := W) ?_)
            refine g_if_ne (tgt := 67) C dX1_hasRoom_62 (by decide) (fun c_11 => ?_) (fun c_11 => ?_)
            · skip
              replace c_11 := gzn.mp c_11
              refine g_iinc (v := nI (j + 1)) (lv' := [(6, .int (nI (j + 1))), (8, .int (nI y)), (7, .int (nI (x + j))), (0, .ref h), (1, .int (nI x)), (2, .int (nI y)), (3, .int (nI ln)), (4, .int (gz true)), (5, .int own)]) C dX1_hasRoom_67 8 rfl (by exact nI_add _ 1) (by decide) rfl ?_
              refine g_goto (tgt := 3) C dX1_hasRoom_70 (by decide) ?_
              refine g_sub [3, 4, 5, 6, 7, 8, 0] (lv' := [(0, .ref h), (1, .int (nI x)), (2, .int (nI y)), (3, .int (nI ln)), (4, .int (gz true)), (5, .int own), (6, .int (nI (j + 1)))]) rfl ?_
              exact ih (j + 1) (by rw [allB, hj]; simp [hr1, cel, *]) (by omega) (by omega)
            · skip
              replace c_11 := gz0.mp c_11
              refine g_iconst (v := 0) C dX1_hasRoom_65 (by decide) ?_
              refine g_zret C (by first | exact Or.inl rfl | exact Or.inr rfl | exact gz01 _) hQ (Nat.le_of_ble_eq_true rfl) (Nat.le_of_ble_eq_true rfl) dX1_hasRoom_66 ?_
              exact ⟨gz_e0 (allB_false (show j < ln by omega) (by simp [hr1, cel, *])), rfl⟩
    refine g_sub [1, 2, 3, 4, 5, 6, 0] (lv' := [(0, .ref h), (1, .int (nI x)), (2, .int (nI y)), (3, .int (nI ln)), (4, .int (gz true)), (5, .int own), (6, .int 0)]) rfl ?_
    exact lp3_6 (ln + 1) 0 rfl (by omega) (by omega)
