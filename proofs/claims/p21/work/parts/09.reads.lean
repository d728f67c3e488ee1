theorem k_X1_piecesIn_inX1 : ∀ w ∈ wsX10, w ∈ wsX1_piecesIn := by decide +kernel
theorem k_X1_piecesIn_1 : Cond.fieldLink RX1 74 "WetMosaic" "pressed" "I" ∈ wsX1_piecesIn := by decide +kernel
theorem k_X1_piecesIn_inX0 : ∀ w ∈ wsX00, w ∈ wsX1_piecesIn := by decide +kernel
theorem k_X1_piecesIn_3 : Cond.fieldLink RX1 132 "WetMosaic$Piece" "out" "Z" ∈ wsX1_piecesIn := by decide +kernel
set_option maxHeartbeats 4000000 in
set_option maxRecDepth 100000 in
theorem c_X1_piecesIn (l : Launch) (D : va_G) (tys : List (ClassId × FieldType)) (cP : ClassId) (ht1 : tys[1]? = some (cP, .object RX0)) (W : va_W) (h a1 a2 a3 a4 a5 a6 a7 np hr : Nat) (pcs : Nat → Option Nat) (pa : Nat → Nat) (P : Nat → Pd) (hnp : np ≤ 100) (hp : Pin W np pcs pa P) (hm : (h, .inr (1, [.ref a1, .ref a2, .ref a3, .ref a4, .int (nI np), .int (nI hr), .ref a5, .ref a6, .ref a7])) ∈ W) (hm4 : (a4, .inl (cP, 100, .inr (.inr (.inr (.inr (pcs)))))) ∈ W) : gM l yX1_piecesIn wsX1_piecesIn ({ frames := 2, cells := 0, slots := 0, locals := 43 } : Room) D tys [.ref h] W (gIs (some (.int (nI (cnt (fun k => !qo (P k)) np)))) W) 0 0 := by
  refine gM_of (by decide) rfl (Nat.le_of_ble_eq_true rfl) ?_
  intro p e s m args below meth c A Q hin C hQ
  refine g_sub [0] (lv' := [(0, .ref h)]) rfl ?_
  refine g_iconst (v := 0) C dX1_piecesIn_0 (by decide) ?_
  refine g_istore_n (lv' := [(1, .int 0), (0, .ref h)]) C dX1_piecesIn_1 rfl (by decide) rfl ?_
  refine g_iconst (v := 0) C dX1_piecesIn_2 (by decide) ?_
  refine g_istore_n (lv' := [(2, .int 0), (1, .int 0), (0, .ref h)]) C dX1_piecesIn_3 rfl (by decide) rfl ?_
  have lp4 : ∀ (n9 : Nat) (i q : Nat) (hq : q = cnt (fun k => !qo (P k)) i) (hi : i ≤ np) (hn : np + 1 ≤ i + n9), G p l e ({ frames := 2, cells := 0, slots := 0, locals := 43 } : Room) s m args below meth c D A s.heap 4 0 0 Q 4 [(0, .ref h), (1, .int (nI q)), (2, .int (nI i))] [] W := by
    intro n9
    induction n9 with
    | zero =>
      intro i q hq hi hn
      exfalso; omega
    | succ n9 ih =>
      intro i q hq hi hn
      refine g_iload_n C dX1_piecesIn_4 rfl 2 rfl ?_
      refine g_aload_n C dX1_piecesIn_5 rfl 0 rfl ?_
      refine g_get (ci := 1) (Cn := RX1) (T := TX1) (N := 9) C k_X1_piecesIn_inX1 hm rfl 4 (by decide) k_X1_piecesIn_1 rfl rfl dX1_piecesIn_6 ?_
      refine g_icmp_ge (tgt := 38) C dX1_piecesIn_9 (by decide) (fun c_1 => ?_) (fun c_1 => ?_)
      · skip
        rw [nI_leI (by omega) (by omega)] at c_1
        refine g_iload_n C dX1_piecesIn_38 rfl 1 rfl ?_
        refine g_iret C hQ (Nat.le_of_ble_eq_true rfl) (Nat.le_of_ble_eq_true rfl) dX1_piecesIn_39 ?_
        exact ⟨by rw [hq, show i = np by omega], rfl⟩
      · skip
        rw [nI_leI (by omega) (by omega)] at c_1
        refine g_aload_n C dX1_piecesIn_12 rfl 0 rfl ?_
        refine g_iload_n C dX1_piecesIn_13 rfl 2 rfl ?_
        refine g_callV (ci := 1) (Cn := RX1) (As := [.int (nI i)]) (rest := []) C hm rfl rfl (c_X1_find l D tys cP ht1 W h a1 a2 a3 a4 a5 a6 a7 np hr pcs (nI i) hnp hm hm4) (cwV 1 C.ts gX1_piecesIn_X1_find rfl rfl rfl (by decide +kernel) ⟨(Nat.le_of_ble_eq_true rfl), (Nat.le_of_ble_eq_true rfl)⟩) rfl rfl (Nat.le_of_ble_eq_true rfl) dX1_piecesIn_14 (Nat.le_of_ble_eq_true rfl) (Nat.le_of_ble_eq_true rfl) (g_is (x := va_rf (fnd np pcs (nI i))) (W1 := W) ?_)
        refine g_eqv (x := va_rf (fnd np pcs (nI i))) (y := .ref (pa i)) (fnd_nI (by omega) hnp (hp i (by omega)).1) ?_
        refine g_astore_n (lv' := [(3, .ref (pa i)), (0, .ref h), (1, .int (nI q)), (2, .int (nI i))]) C dX1_piecesIn_17 rfl (by decide) rfl ?_
        refine g_aload_n C dX1_piecesIn_18 rfl 0 rfl ?_
        refine g_ifnull C dX1_piecesIn_19 ?_
        refine g_aload_n C dX1_piecesIn_22 rfl 0 rfl ?_
        refine g_get (ci := 0) (Cn := RX0) (T := TX0) (N := 8) C k_X1_piecesIn_inX0 (hp i (by omega)).2 rfl 7 (by decide) k_X1_piecesIn_3 rfl rfl dX1_piecesIn_23 ?_
        refine g_if_ne (tgt := 32) C dX1_piecesIn_26 (by decide) (fun c_2 => ?_) (fun c_2 => ?_)
        · skip
          replace c_2 := gzn.mp c_2
          refine g_iinc (v := nI (i + 1)) (lv' := [(2, .int (nI (i + 1))), (3, .ref (pa i)), (0, .ref h), (1, .int (nI q))]) C dX1_piecesIn_32 3 rfl (by exact nI_add _ 1) (by decide) rfl ?_
          refine g_goto (tgt := 4) C dX1_piecesIn_35 (by decide) ?_
          refine g_sub [2, 3, 0] (lv' := [(0, .ref h), (1, .int (nI q)), (2, .int (nI (i + 1)))]) rfl ?_
          exact ih (i + 1) _ (by rw [hq]; first | exact (cnt_f (by simp [*])).symm | exact (cnt_t (by simp [*])).symm) (by omega) (by omega)
        · skip
          replace c_2 := gz0.mp c_2
          refine g_iinc (v := nI (q + 1)) (lv' := [(1, .int (nI (q + 1))), (3, .ref (pa i)), (0, .ref h), (2, .int (nI i))]) C dX1_piecesIn_29 2 rfl (by exact nI_add _ 1) (by decide) rfl ?_
          refine g_iinc (v := nI (i + 1)) (lv' := [(2, .int (nI (i + 1))), (1, .int (nI (q + 1))), (3, .ref (pa i)), (0, .ref h)]) C dX1_piecesIn_32 3 rfl (by exact nI_add _ 1) (by decide) rfl ?_
          refine g_goto (tgt := 4) C dX1_piecesIn_35 (by decide) ?_
          refine g_sub [3, 1, 0] (lv' := [(0, .ref h), (1, .int (nI (q + 1))), (2, .int (nI (i + 1)))]) rfl ?_
          exact ih (i + 1) _ (by rw [hq]; first | exact (cnt_f (by simp [*])).symm | exact (cnt_t (by simp [*])).symm) (by omega) (by omega)
  refine g_sub [2, 1, 0] (lv' := [(0, .ref h), (1, .int 0), (2, .int 0)]) rfl ?_
  exact lp4 (np + 1) 0 0 rfl (by omega) (by omega)

theorem k_X1_loosePieces_inX1 : ∀ w ∈ wsX10, w ∈ wsX1_loosePieces := by decide +kernel
theorem k_X1_loosePieces_1 : Cond.fieldLink RX1 74 "WetMosaic" "pressed" "I" ∈ wsX1_loosePieces := by decide +kernel
theorem k_X1_loosePieces_2 : Cond.fieldLink RX1 9 "WetMosaic" "wet" "[I" ∈ wsX1_loosePieces := by decide +kernel
set_option maxHeartbeats 4000000 in
set_option maxRecDepth 100000 in
theorem c_X1_loosePieces (l : Launch) (D : va_G) (tys : List (ClassId × FieldType)) (cI : ClassId) (ht0 : tys[0]? = some (cI, .int)) (cP : ClassId) (ht1 : tys[1]? = some (cP, .object RX0)) (W : va_W) (h a1 a2 a3 a4 a5 a6 a7 np hr : Nat) (wet : Nat → Int32) (pcs : Nat → Option Nat) (pa : Nat → Nat) (P : Nat → Pd) (hnp : np ≤ 100) (hp : Pin W np pcs pa P) (hg : Pok np P) (hm : (h, .inr (1, [.ref a1, .ref a2, .ref a3, .ref a4, .int (nI np), .int (nI hr), .ref a5, .ref a6, .ref a7])) ∈ W) (hm4 : (a4, .inl (cP, 100, .inr (.inr (.inr (.inr (pcs)))))) ∈ W) (hm1 : (a1, .inl (cI, 80, .inl (wet))) ∈ W) : gM l yX1_loosePieces wsX1_loosePieces ({ frames := 3, cells := 0, slots := 0, locals := 65 } : Room) D tys [.ref h] W (gIs (some (.int (nI (cnt (fun k => lsp (P k) wet) np)))) W) 0 0 := by
  refine gM_of (by decide) rfl (Nat.le_of_ble_eq_true rfl) ?_
  intro p e s m args below meth c A Q hin C hQ
  refine g_sub [0] (lv' := [(0, .ref h)]) rfl ?_
  refine g_iconst (v := 0) C dX1_loosePieces_0 (by decide) ?_
  refine g_istore_n (lv' := [(1, .int 0), (0, .ref h)]) C dX1_loosePieces_1 rfl (by decide) rfl ?_
  refine g_iconst (v := 0) C dX1_loosePieces_2 (by decide) ?_
  refine g_istore_n (lv' := [(2, .int 0), (1, .int 0), (0, .ref h)]) C dX1_loosePieces_3 rfl (by decide) rfl ?_
  have lp4_1 : ∀ (n9 : Nat) (i q : Nat) (hq : q = cnt (fun k => lsp (P k) wet) i) (hi : i ≤ np) (hn : np + 1 ≤ i + n9), G p l e ({ frames := 3, cells := 0, slots := 0, locals := 65 } : Room) s m args below meth c D A s.heap 4 0 0 Q 4 [(0, .ref h), (1, .int (nI q)), (2, .int (nI i))] [] W := by
    intro n9
    induction n9 with
    | zero =>
      intro i q hq hi hn
      exfalso; omega
    | succ n9 ih =>
      intro i q hq hi hn
      refine g_iload_n C dX1_loosePieces_4 rfl 2 rfl ?_
      refine g_aload_n C dX1_loosePieces_5 rfl 0 rfl ?_
      refine g_get (ci := 1) (Cn := RX1) (T := TX1) (N := 9) C k_X1_loosePieces_inX1 hm rfl 4 (by decide) k_X1_loosePieces_1 rfl rfl dX1_loosePieces_6 ?_
      refine g_icmp_ge (tgt := 42) C dX1_loosePieces_9 (by decide) (fun c_2 => ?_) (fun c_2 => ?_)
      · skip
        rw [nI_leI (by omega) (by omega)] at c_2
        refine g_iload_n C dX1_loosePieces_42 rfl 1 rfl ?_
        refine g_iret C hQ (Nat.le_of_ble_eq_true rfl) (Nat.le_of_ble_eq_true rfl) dX1_loosePieces_43 ?_
        exact ⟨by rw [hq, show i = np by omega], rfl⟩
      · skip
        rw [nI_leI (by omega) (by omega)] at c_2
        refine g_aload_n C dX1_loosePieces_12 rfl 0 rfl ?_
        refine g_iload_n C dX1_loosePieces_13 rfl 2 rfl ?_
        refine g_callV (ci := 1) (Cn := RX1) (As := [.int (nI i)]) (rest := []) C hm rfl rfl (c_X1_find l D tys cP ht1 W h a1 a2 a3 a4 a5 a6 a7 np hr pcs (nI i) hnp hm hm4) (cwV 1 C.ts gX1_loosePieces_X1_find rfl rfl rfl (by decide +kernel) ⟨(Nat.le_of_ble_eq_true rfl), (Nat.le_of_ble_eq_true rfl)⟩) rfl rfl (Nat.le_of_ble_eq_true rfl) dX1_loosePieces_14 (Nat.le_of_ble_eq_true rfl) (Nat.le_of_ble_eq_true rfl) (g_is (x := va_rf (fnd np pcs (nI i))) (W1 := W) ?_)
        refine g_eqv (x := va_rf (fnd np pcs (nI i))) (y := .ref (pa i)) (fnd_nI (by omega) hnp (hp i (by omega)).1) ?_
        refine g_astore_n (lv' := [(3, .ref (pa i)), (0, .ref h), (1, .int (nI q)), (2, .int (nI i))]) C dX1_loosePieces_17 rfl (by decide) rfl ?_
        refine g_aload_n C dX1_loosePieces_18 rfl 0 rfl ?_
        refine g_ifnull C dX1_loosePieces_19 ?_
        refine g_aload_n C dX1_loosePieces_22 rfl 0 rfl ?_
        refine g_aload_n C dX1_loosePieces_23 rfl 1 rfl ?_
        refine g_get (ci := 1) (Cn := RX1) (T := TX1) (N := 9) C k_X1_loosePieces_inX1 hm rfl 0 (by decide) k_X1_loosePieces_2 rfl rfl dX1_loosePieces_24 ?_
        refine g_callS (As := [.ref (pa i), .ref a1]) (rest := []) C (c_X1_isLoose l D tys cI ht0 W (pa i) (qx (P i)) (qy (P i)) (ql (P i)) (qf (P i)) (qb (P i)) (qc (P i)) (qs (P i)) (qo (P i)) a1 wet (hg i (by omega)).2.1 (hg i (by omega)).2.2.2.2 (hp i (by omega)).2 hm1) (va_cwS 2 C.ts gX1_loosePieces_X1_isLoose rfl rfl rfl (by decide +kernel) ⟨(Nat.le_of_ble_eq_true rfl), (Nat.le_of_ble_eq_true rfl)⟩) rfl rfl (Nat.le_of_ble_eq_true rfl) dX1_loosePieces_27 (Nat.le_of_ble_eq_true rfl) (Nat.le_of_ble_eq_true rfl) (g_is (x := .int (gz (lsp (P i) wet))) (W1 := W) ?_)
        refine g_if_eq (tgt := 36) C dX1_loosePieces_30 (by decide) (fun c_3 => ?_) (fun c_3 => ?_)
        · skip
          replace c_3 := gz0.mp c_3
          refine g_iinc (v := nI (i + 1)) (lv' := [(2, .int (nI (i + 1))), (3, .ref (pa i)), (0, .ref h), (1, .int (nI q))]) C dX1_loosePieces_36 3 rfl (by exact nI_add _ 1) (by decide) rfl ?_
          refine g_goto (tgt := 4) C dX1_loosePieces_39 (by decide) ?_
          refine g_sub [2, 3, 0] (lv' := [(0, .ref h), (1, .int (nI q)), (2, .int (nI (i + 1)))]) rfl ?_
          exact ih (i + 1) _ (by rw [hq]; first | exact (cnt_f (by assumption)).symm | exact (cnt_t (by assumption)).symm) (by omega) (by omega)
        · skip
          replace c_3 := gzn.mp c_3
          refine g_iinc (v := nI (q + 1)) (lv' := [(1, .int (nI (q + 1))), (3, .ref (pa i)), (0, .ref h), (2, .int (nI i))]) C dX1_loosePieces_33 2 rfl (by exact nI_add _ 1) (by decide) rfl ?_
          refine g_iinc (v := nI (i + 1)) (lv' := [(2, .int (nI (i + 1))), (1, .int (nI (q + 1))), (3, .ref (pa i)), (0, .ref h)]) C dX1_loosePieces_36 3 rfl (by exact nI_add _ 1) (by decide) rfl ?_
          refine g_goto (tgt := 4) C dX1_loosePieces_39 (by decide) ?_
          refine g_sub [3, 1, 0] (lv' := [(0, .ref h), (1, .int (nI (q + 1))), (2, .int (nI (i + 1)))]) rfl ?_
          exact ih (i + 1) _ (by rw [hq]; first | exact (cnt_f (by assumption)).symm | exact (cnt_t (by assumption)).symm) (by omega) (by omega)
  refine g_sub [2, 1, 0] (lv' := [(0, .ref h), (1, .int 0), (2, .int 0)]) rfl ?_
  exact lp4_1 (np + 1) 0 0 rfl (by omega) (by omega)

theorem k_X1_colourAt_inX1 : ∀ w ∈ wsX10, w ∈ wsX1_colourAt := by decide +kernel
theorem k_X1_colourAt_1 : Cond.fieldLink RX1 13 "WetMosaic" "cover" "[I" ∈ wsX1_colourAt := by decide +kernel
set_option maxHeartbeats 4000000 in
set_option maxRecDepth 100000 in
theorem c_X1_colourAt (l : Launch) (D : va_G) (tys : List (ClassId × FieldType)) (cI : ClassId) (ht0 : tys[0]? = some (cI, .int)) (cP : ClassId) (ht1 : tys[1]? = some (cP, .object RX0)) (W : va_W) (h a1 a2 a3 a4 a5 a6 a7 np hr : Nat) (cover : Nat → Int32) (pcs : Nat → Option Nat) (pa : Nat → Nat) (P : Nat → Pd) (c9 : Nat) (hc : c9 < 80) (hnp : np ≤ 100) (hp : Pin W np pcs pa P) (hm : (h, .inr (1, [.ref a1, .ref a2, .ref a3, .ref a4, .int (nI np), .int (nI hr), .ref a5, .ref a6, .ref a7])) ∈ W) (hm2 : (a2, .inl (cI, 80, .inl (cover))) ∈ W) (hm4 : (a4, .inl (cP, 100, .inr (.inr (.inr (.inr (pcs)))))) ∈ W) : gM l yX1_colourAt wsX1_colourAt ({ frames := 2, cells := 0, slots := 0, locals := 43 } : Room) D tys [.ref h, .int (nI c9)] W (gIs (some (.int (colv np P cover c9))) W) 0 0 := by
  refine gM_of (by decide) rfl (Nat.le_of_ble_eq_true rfl) ?_
  intro p e s m args below meth c A Q hin C hQ
  refine g_sub [0, 1] (lv' := [(0, .ref h), (1, .int (nI c9))]) rfl ?_
  refine g_aload_n C dX1_colourAt_0 rfl 0 rfl ?_
  refine g_aload_n C dX1_colourAt_1 rfl 0 rfl ?_
  refine g_get (ci := 1) (Cn := RX1) (T := TX1) (N := 9) C k_X1_colourAt_inX1 hm rfl 1 (by decide) k_X1_colourAt_1 rfl rfl dX1_colourAt_2 ?_
  refine g_iload_n C dX1_colourAt_5 rfl 1 rfl ?_
  refine g_callS (As := [.ref a2, .int (nI c9)]) (rest := [.ref h]) C (c_X1_at l D tys cI ht0 W a2 80 cover (nI c9) (by decide) (by decide) hm2) (va_cwS 2 C.ts gX1_colourAt_X1_at rfl rfl rfl (by decide +kernel) ⟨(Nat.le_of_ble_eq_true rfl), (Nat.le_of_ble_eq_true rfl)⟩) rfl rfl (Nat.le_of_ble_eq_true rfl) dX1_colourAt_6 (Nat.le_of_ble_eq_true rfl) (Nat.le_of_ble_eq_true rfl) (g_is (x := .int (atv 80 cover (nI c9))) (W1 := W) ?_)
  refine g_eqi (x := atv 80 cover (nI c9)) (y := cover c9) (atv_nI (by omega) (by omega)) ?_
  refine g_callV (ci := 1) (Cn := RX1) (As := [.int (cover c9)]) (rest := []) C hm rfl rfl (c_X1_find l D tys cP ht1 W h a1 a2 a3 a4 a5 a6 a7 np hr pcs (cover c9) hnp hm hm4) (cwV 1 C.ts gX1_colourAt_X1_find rfl rfl rfl (by decide +kernel) ⟨(Nat.le_of_ble_eq_true rfl), (Nat.le_of_ble_eq_true rfl)⟩) rfl rfl (Nat.le_of_ble_eq_true rfl) dX1_colourAt_9 (Nat.le_of_ble_eq_true rfl) (Nat.le_of_ble_eq_true rfl) (g_is (x := va_rf (fnd np pcs (cover c9))) (W1 := W) ?_)
  cases hv : inR 0 (nI np - 1) (cover c9) with
  | false =>
    refine g_eqv (x := va_rf (fnd np pcs (cover c9))) (y := .null) (by rw [fnd, if_neg (by simp [hv])]; rfl) ?_
    refine g_astore_nN (lv' := [(2, .null), (0, .ref h), (1, .int (nI c9))]) C dX1_colourAt_12 rfl (by decide) rfl ?_
    refine g_aload_nN C dX1_colourAt_13 rfl 0 rfl ?_
    refine g_ifnonnullN C dX1_colourAt_14 ?_
    refine g_iconst (v := (-1)) C dX1_colourAt_17 (by decide) ?_
    refine g_goto (tgt := 25) C dX1_colourAt_18 (by decide) ?_
    refine g_iret C hQ (Nat.le_of_ble_eq_true rfl) (Nat.le_of_ble_eq_true rfl) dX1_colourAt_25 ?_
    first | exact ⟨by rw [colv, hv, hk2, nI_clamp (by omega)]; rfl, rfl⟩ | exact ⟨by rw [colv, hv]; rfl, rfl⟩
  | true =>
    obtain ⟨k, hk, hk2⟩ := inR_np (by omega) hv
    refine g_eqv (x := va_rf (fnd np pcs (cover c9))) (y := .ref (pa k)) (by rw [hk2]; exact fnd_nI hk hnp (hp k hk).1) ?_
    refine g_astore_n (lv' := [(2, .ref (pa k)), (0, .ref h), (1, .int (nI c9))]) C dX1_colourAt_12 rfl (by decide) rfl ?_
    refine g_aload_n C dX1_colourAt_13 rfl 0 rfl ?_
    refine g_ifnonnull (tgt := 21) C dX1_colourAt_14 (by decide) ?_
    refine g_aload_n C dX1_colourAt_21 rfl 0 rfl ?_
    refine g_callV (ci := 0) (Cn := RX0) (As := []) (rest := []) C (hp k (by omega)).2 rfl rfl (c_X0_shownColour l D tys W (pa k) (qx (P k)) (qy (P k)) (ql (P k)) (qf (P k)) (qb (P k)) (qc (P k)) (qs (P k)) (qo (P k)) (hp k (by omega)).2) (cwV 0 C.ts gX1_colourAt_X0_shownColour rfl rfl rfl (by decide +kernel) ⟨(Nat.le_of_ble_eq_true rfl), (Nat.le_of_ble_eq_true rfl)⟩) rfl rfl (Nat.le_of_ble_eq_true rfl) dX1_colourAt_22 (Nat.le_of_ble_eq_true rfl) (Nat.le_of_ble_eq_true rfl) (g_is (x := .int (shw (P k))) (W1 := W) ?_)
    refine g_iret C hQ (Nat.le_of_ble_eq_true rfl) (Nat.le_of_ble_eq_true rfl) dX1_colourAt_25 ?_
    first | exact ⟨by rw [colv, hv, hk2, nI_clamp (by omega)]; rfl, rfl⟩ | exact ⟨by rw [colv, hv]; rfl, rfl⟩

theorem k_X1_cellFact_inX1 : ∀ w ∈ wsX10, w ∈ wsX1_cellFact := by decide +kernel
theorem k_X1_cellFact_1 : Cond.fieldLink RX1 9 "WetMosaic" "wet" "[I" ∈ wsX1_cellFact := by decide +kernel
theorem k_X1_cellFact_2 : Cond.fieldLink RX1 13 "WetMosaic" "cover" "[I" ∈ wsX1_cellFact := by decide +kernel
set_option maxHeartbeats 4000000 in
set_option maxRecDepth 100000 in
theorem c_X1_cellFact (l : Launch) (D : va_G) (tys : List (ClassId × FieldType)) (cI : ClassId) (ht0 : tys[0]? = some (cI, .int)) (cP : ClassId) (ht1 : tys[1]? = some (cP, .object RX0)) (W : va_W) (h a1 a2 a3 a4 a5 a6 a7 np hr : Nat) (wet cover : Nat → Int32) (pcs : Nat → Option Nat) (pa : Nat → Nat) (P : Nat → Pd) (c9 w : Nat) (hc : c9 < 80) (hw : w ≤ 2) (hnp : np ≤ 100) (hp : Pin W np pcs pa P) (hm : (h, .inr (1, [.ref a1, .ref a2, .ref a3, .ref a4, .int (nI np), .int (nI hr), .ref a5, .ref a6, .ref a7])) ∈ W) (hm1 : (a1, .inl (cI, 80, .inl (wet))) ∈ W) (hm2 : (a2, .inl (cI, 80, .inl (cover))) ∈ W) (hm4 : (a4, .inl (cP, 100, .inr (.inr (.inr (.inr (pcs)))))) ∈ W) : gM l yX1_cellFact wsX1_cellFact ({ frames := 3, cells := 0, slots := 0, locals := 65 } : Room) D tys [.ref h, .int (nI c9), .int (nI w)] W (gIs (some (.int (cfact np P wet cover c9 w))) W) 0 0 := by
  refine gM_of (by decide) rfl (Nat.le_of_ble_eq_true rfl) ?_
  intro p e s m args below meth c A Q hin C hQ
  refine g_sub [0, 1, 2] (lv' := [(0, .ref h), (1, .int (nI c9)), (2, .int (nI w))]) rfl ?_
  rcases (show w = 0 ∨ w = 1 ∨ w = 2 by omega) with rfl | rfl | rfl
  · skip
    refine g_iload_n C dX1_cellFact_0 rfl 2 rfl ?_
    refine g_lookup (off := 27) (tgt := 28) C dX1_cellFact_1 (by decide) (by decide) (by decide) ?_
    refine g_aload_n C dX1_cellFact_28 rfl 0 rfl ?_
    refine g_get (ci := 1) (Cn := RX1) (T := TX1) (N := 9) C k_X1_cellFact_inX1 hm rfl 0 (by decide) k_X1_cellFact_1 rfl rfl dX1_cellFact_29 ?_
    refine g_iload_n C dX1_cellFact_32 rfl 1 rfl ?_
    refine g_callS (As := [.ref a1, .int (nI c9)]) (rest := []) C (c_X1_at l D tys cI ht0 W a1 80 wet (nI c9) (by decide) (by decide) hm1) (va_cwS 2 C.ts gX1_cellFact_X1_at rfl rfl rfl (by decide +kernel) ⟨(Nat.le_of_ble_eq_true rfl), (Nat.le_of_ble_eq_true rfl)⟩) rfl rfl (Nat.le_of_ble_eq_true rfl) dX1_cellFact_33 (Nat.le_of_ble_eq_true rfl) (Nat.le_of_ble_eq_true rfl) (g_is (x := .int (atv 80 wet (nI c9))) (W1 := W) ?_)
    refine g_eqi (x := atv 80 wet (nI c9)) (y := wet c9) (atv_nI (by omega) (by omega)) ?_
    refine g_iret C hQ (Nat.le_of_ble_eq_true rfl) (Nat.le_of_ble_eq_true rfl) dX1_cellFact_36 ?_
    exact ⟨by simp [cfact], rfl⟩
  · skip
    refine g_iload_n C dX1_cellFact_0 rfl 2 rfl ?_
    refine g_lookup (off := 36) (tgt := 37) C dX1_cellFact_1 (by decide) (by decide) (by decide) ?_
    refine g_aload_n C dX1_cellFact_37 rfl 0 rfl ?_
    refine g_get (ci := 1) (Cn := RX1) (T := TX1) (N := 9) C k_X1_cellFact_inX1 hm rfl 1 (by decide) k_X1_cellFact_2 rfl rfl dX1_cellFact_38 ?_
    refine g_iload_n C dX1_cellFact_41 rfl 1 rfl ?_
    refine g_callS (As := [.ref a2, .int (nI c9)]) (rest := []) C (c_X1_at l D tys cI ht0 W a2 80 cover (nI c9) (by decide) (by decide) hm2) (va_cwS 2 C.ts gX1_cellFact_X1_at rfl rfl rfl (by decide +kernel) ⟨(Nat.le_of_ble_eq_true rfl), (Nat.le_of_ble_eq_true rfl)⟩) rfl rfl (Nat.le_of_ble_eq_true rfl) dX1_cellFact_42 (Nat.le_of_ble_eq_true rfl) (Nat.le_of_ble_eq_true rfl) (g_is (x := .int (atv 80 cover (nI c9))) (W1 := W) ?_)
    refine g_eqi (x := atv 80 cover (nI c9)) (y := cover c9) (atv_nI (by omega) (by omega)) ?_
    refine g_iret C hQ (Nat.le_of_ble_eq_true rfl) (Nat.le_of_ble_eq_true rfl) dX1_cellFact_45 ?_
    exact ⟨by simp [cfact], rfl⟩
  · skip
    refine g_iload_n C dX1_cellFact_0 rfl 2 rfl ?_
    refine g_lookup (off := 45) (tgt := 46) C dX1_cellFact_1 (by decide) (by decide) (by decide) ?_
    refine g_aload_n C dX1_cellFact_46 rfl 0 rfl ?_
    refine g_iload_n C dX1_cellFact_47 rfl 1 rfl ?_
    refine g_callV (ci := 1) (Cn := RX1) (As := [.int (nI c9)]) (rest := []) C hm rfl rfl (c_X1_colourAt l D tys cI ht0 cP ht1 W h a1 a2 a3 a4 a5 a6 a7 np hr  cover pcs pa P c9 (by omega) hnp hp hm hm2 hm4) (cwV 1 C.ts gX1_cellFact_X1_colourAt rfl rfl rfl (by decide +kernel) ⟨(Nat.le_of_ble_eq_true rfl), (Nat.le_of_ble_eq_true rfl)⟩) rfl rfl (Nat.le_of_ble_eq_true rfl) dX1_cellFact_48 (Nat.le_of_ble_eq_true rfl) (Nat.le_of_ble_eq_true rfl) (g_is (x := .int (colv np P cover c9)) (W1 := W) ?_)
    refine g_iret C hQ (Nat.le_of_ble_eq_true rfl) (Nat.le_of_ble_eq_true rfl) dX1_cellFact_51 ?_
    exact ⟨by simp [cfact], rfl⟩

theorem k_X1_pieceFact_inX0 : ∀ w ∈ wsX00, w ∈ wsX1_pieceFact := by decide +kernel
theorem k_X1_pieceFact_1 : Cond.fieldLink RX1 121 "WetMosaic$Piece" "x" "I" ∈ wsX1_pieceFact := by decide +kernel
theorem k_X1_pieceFact_2 : Cond.fieldLink RX1 124 "WetMosaic$Piece" "y" "I" ∈ wsX1_pieceFact := by decide +kernel
theorem k_X1_pieceFact_3 : Cond.fieldLink RX1 110 "WetMosaic$Piece" "length" "I" ∈ wsX1_pieceFact := by decide +kernel
theorem k_X1_pieceFact_4 : Cond.fieldLink RX1 127 "WetMosaic$Piece" "across" "Z" ∈ wsX1_pieceFact := by decide +kernel
theorem k_X1_pieceFact_inX1 : ∀ w ∈ wsX10, w ∈ wsX1_pieceFact := by decide +kernel
theorem k_X1_pieceFact_6 : Cond.fieldLink RX1 9 "WetMosaic" "wet" "[I" ∈ wsX1_pieceFact := by decide +kernel
theorem k_X1_pieceFact_7 : Cond.fieldLink RX1 132 "WetMosaic$Piece" "out" "Z" ∈ wsX1_pieceFact := by decide +kernel
set_option maxHeartbeats 4000000 in
set_option maxRecDepth 100000 in
theorem c_X1_pieceFact (l : Launch) (D : va_G) (tys : List (ClassId × FieldType)) (cI : ClassId) (ht0 : tys[0]? = some (cI, .int)) (W : va_W) (h a1 a2 a3 a4 a5 a6 a7 np hr : Nat) (wet : Nat → Int32) (o : Nat) (p9 : Pd) (w : Nat) (hw : w ≤ 7) (hg : Pg p9) (hm : (h, .inr (1, [.ref a1, .ref a2, .ref a3, .ref a4, .int (nI np), .int (nI hr), .ref a5, .ref a6, .ref a7])) ∈ W) (hm1 : (a1, .inl (cI, 80, .inl (wet))) ∈ W) (hm5 : (o, .inr (0, [.int (nI (qx p9)), .int (nI (qy p9)), .int (nI (ql p9)), .int (qf p9), .int (qb p9), .int (gz (qc p9)), .int (gz (qs p9)), .int (gz (qo p9))])) ∈ W) : gM l yX1_pieceFact wsX1_pieceFact ({ frames := 3, cells := 0, slots := 0, locals := 65 } : Room) D tys [.ref h, .ref o, .int (nI w)] W (gIs (some (.int (pfact p9 wet w))) W) 0 0 := by
  refine gM_of (by decide) rfl (Nat.le_of_ble_eq_true rfl) ?_
  intro p e s m args below meth c A Q hin C hQ
  refine g_sub [0, 1, 2] (lv' := [(0, .ref h), (1, .ref o), (2, .int (nI w))]) rfl ?_
  rcases (show w = 0 ∨ w = 1 ∨ w = 2 ∨ w = 3 ∨ w = 4 ∨ w = 5 ∨ w = 6 ∨ w = 7 by omega) with rfl | rfl | rfl | rfl | rfl | rfl | rfl | rfl
  · skip
    refine g_iload_n C dX1_pieceFact_0 rfl 2 rfl ?_
    refine g_tableIn (off := 43) (tgt := 44) C dX1_pieceFact_1 (by decide) (by decide) (by decide) (by decide) ?_
    refine g_aload_n C dX1_pieceFact_44 rfl 1 rfl ?_
    refine g_get (ci := 0) (Cn := RX0) (T := TX0) (N := 8) C k_X1_pieceFact_inX0 hm5 rfl 0 (by decide) k_X1_pieceFact_1 rfl rfl dX1_pieceFact_45 ?_
    refine g_iret C hQ (Nat.le_of_ble_eq_true rfl) (Nat.le_of_ble_eq_true rfl) dX1_pieceFact_48 ?_
    first | exact ⟨rfl, rfl⟩ | exact ⟨gz_e0 (by assumption), rfl⟩ | exact ⟨gz_e1 (by assumption), rfl⟩
  · skip
    refine g_iload_n C dX1_pieceFact_0 rfl 2 rfl ?_
    refine g_tableIn (off := 48) (tgt := 49) C dX1_pieceFact_1 (by decide) (by decide) (by decide) (by decide) ?_
    refine g_aload_n C dX1_pieceFact_49 rfl 1 rfl ?_
    refine g_get (ci := 0) (Cn := RX0) (T := TX0) (N := 8) C k_X1_pieceFact_inX0 hm5 rfl 1 (by decide) k_X1_pieceFact_2 rfl rfl dX1_pieceFact_50 ?_
    refine g_iret C hQ (Nat.le_of_ble_eq_true rfl) (Nat.le_of_ble_eq_true rfl) dX1_pieceFact_53 ?_
    first | exact ⟨rfl, rfl⟩ | exact ⟨gz_e0 (by assumption), rfl⟩ | exact ⟨gz_e1 (by assumption), rfl⟩
  · skip
    refine g_iload_n C dX1_pieceFact_0 rfl 2 rfl ?_
    refine g_tableIn (off := 53) (tgt := 54) C dX1_pieceFact_1 (by decide) (by decide) (by decide) (by decide) ?_
    refine g_aload_n C dX1_pieceFact_54 rfl 1 rfl ?_
    refine g_get (ci := 0) (Cn := RX0) (T := TX0) (N := 8) C k_X1_pieceFact_inX0 hm5 rfl 2 (by decide) k_X1_pieceFact_3 rfl rfl dX1_pieceFact_55 ?_
    refine g_iret C hQ (Nat.le_of_ble_eq_true rfl) (Nat.le_of_ble_eq_true rfl) dX1_pieceFact_58 ?_
    first | exact ⟨rfl, rfl⟩ | exact ⟨gz_e0 (by assumption), rfl⟩ | exact ⟨gz_e1 (by assumption), rfl⟩
  · skip
    refine g_iload_n C dX1_pieceFact_0 rfl 2 rfl ?_
    refine g_tableIn (off := 58) (tgt := 59) C dX1_pieceFact_1 (by decide) (by decide) (by decide) (by decide) ?_
    refine g_aload_n C dX1_pieceFact_59 rfl 1 rfl ?_
    refine g_get (ci := 0) (Cn := RX0) (T := TX0) (N := 8) C k_X1_pieceFact_inX0 hm5 rfl 5 (by decide) k_X1_pieceFact_4 rfl rfl dX1_pieceFact_60 ?_
    refine g_if_eq (tgt := 70) C dX1_pieceFact_63 (by decide) (fun c_1 => ?_) (fun c_1 => ?_)
    · skip
      replace c_1 := gz0.mp c_1
      refine g_iconst (v := 0) C dX1_pieceFact_70 (by decide) ?_
      refine g_iret C hQ (Nat.le_of_ble_eq_true rfl) (Nat.le_of_ble_eq_true rfl) dX1_pieceFact_71 ?_
      first | exact ⟨rfl, rfl⟩ | exact ⟨gz_e0 (by assumption), rfl⟩ | exact ⟨gz_e1 (by assumption), rfl⟩
    · skip
      replace c_1 := gzn.mp c_1
      refine g_iconst (v := 1) C dX1_pieceFact_66 (by decide) ?_
      refine g_goto (tgt := 71) C dX1_pieceFact_67 (by decide) ?_
      refine g_iret C hQ (Nat.le_of_ble_eq_true rfl) (Nat.le_of_ble_eq_true rfl) dX1_pieceFact_71 ?_
      first | exact ⟨rfl, rfl⟩ | exact ⟨gz_e0 (by assumption), rfl⟩ | exact ⟨gz_e1 (by assumption), rfl⟩
  · skip
    refine g_iload_n C dX1_pieceFact_0 rfl 2 rfl ?_
    refine g_tableIn (off := 71) (tgt := 72) C dX1_pieceFact_1 (by decide) (by decide) (by decide) (by decide) ?_
    refine g_aload_n C dX1_pieceFact_72 rfl 1 rfl ?_
    refine g_callV (ci := 0) (Cn := RX0) (As := []) (rest := []) C hm5 rfl rfl (c_X0_shownColour l D tys W o (qx p9) (qy p9) (ql p9) (qf p9) (qb p9) (qc p9) (qs p9) (qo p9) hm5) (cwV 0 C.ts gX1_pieceFact_X0_shownColour rfl rfl rfl (by decide +kernel) ⟨(Nat.le_of_ble_eq_true rfl), (Nat.le_of_ble_eq_true rfl)⟩) rfl rfl (Nat.le_of_ble_eq_true rfl) dX1_pieceFact_73 (Nat.le_of_ble_eq_true rfl) (Nat.le_of_ble_eq_true rfl) (g_is (x := .int (shw p9)) (W1 := W) ?_)
    refine g_iret C hQ (Nat.le_of_ble_eq_true rfl) (Nat.le_of_ble_eq_true rfl) dX1_pieceFact_76 ?_
    first | exact ⟨rfl, rfl⟩ | exact ⟨gz_e0 (by assumption), rfl⟩ | exact ⟨gz_e1 (by assumption), rfl⟩
  · skip
    refine g_iload_n C dX1_pieceFact_0 rfl 2 rfl ?_
    refine g_tableIn (off := 76) (tgt := 77) C dX1_pieceFact_1 (by decide) (by decide) (by decide) (by decide) ?_
    refine g_aload_n C dX1_pieceFact_77 rfl 1 rfl ?_
    refine g_callV (ci := 0) (Cn := RX0) (As := []) (rest := []) C hm5 rfl rfl (c_X0_otherColour l D tys W o (qx p9) (qy p9) (ql p9) (qf p9) (qb p9) (qc p9) (qs p9) (qo p9) hm5) (cwV 0 C.ts gX1_pieceFact_X0_otherColour rfl rfl rfl (by decide +kernel) ⟨(Nat.le_of_ble_eq_true rfl), (Nat.le_of_ble_eq_true rfl)⟩) rfl rfl (Nat.le_of_ble_eq_true rfl) dX1_pieceFact_78 (Nat.le_of_ble_eq_true rfl) (Nat.le_of_ble_eq_true rfl) (g_is (x := .int (oth p9)) (W1 := W) ?_)
    refine g_iret C hQ (Nat.le_of_ble_eq_true rfl) (Nat.le_of_ble_eq_true rfl) dX1_pieceFact_81 ?_
    first | exact ⟨rfl, rfl⟩ | exact ⟨gz_e0 (by assumption), rfl⟩ | exact ⟨gz_e1 (by assumption), rfl⟩
  · skip
    refine g_iload_n C dX1_pieceFact_0 rfl 2 rfl ?_
    refine g_tableIn (off := 81) (tgt := 82) C dX1_pieceFact_1 (by decide) (by decide) (by decide) (by decide) ?_
    refine g_aload_n C dX1_pieceFact_82 rfl 1 rfl ?_
    refine g_aload_n C dX1_pieceFact_83 rfl 0 rfl ?_
    refine g_get (ci := 1) (Cn := RX1) (T := TX1) (N := 9) C k_X1_pieceFact_inX1 hm rfl 0 (by decide) k_X1_pieceFact_6 rfl rfl dX1_pieceFact_84 ?_
    refine g_callS (As := [.ref o, .ref a1]) (rest := []) C (c_X1_isLoose l D tys cI ht0 W o (qx p9) (qy p9) (ql p9) (qf p9) (qb p9) (qc p9) (qs p9) (qo p9) a1 wet hg.2.1 hg.2.2.2.2 hm5 hm1) (va_cwS 2 C.ts gX1_pieceFact_X1_isLoose rfl rfl rfl (by decide +kernel) ⟨(Nat.le_of_ble_eq_true rfl), (Nat.le_of_ble_eq_true rfl)⟩) rfl rfl (Nat.le_of_ble_eq_true rfl) dX1_pieceFact_87 (Nat.le_of_ble_eq_true rfl) (Nat.le_of_ble_eq_true rfl) (g_is (x := .int (gz (lsp p9 wet))) (W1 := W) ?_)
    refine g_if_eq (tgt := 97) C dX1_pieceFact_90 (by decide) (fun c_2 => ?_) (fun c_2 => ?_)
    · skip
      replace c_2 := gz0.mp c_2
      refine g_iconst (v := 0) C dX1_pieceFact_97 (by decide) ?_
      refine g_iret C hQ (Nat.le_of_ble_eq_true rfl) (Nat.le_of_ble_eq_true rfl) dX1_pieceFact_98 ?_
      first | exact ⟨rfl, rfl⟩ | exact ⟨gz_e0 (by assumption), rfl⟩ | exact ⟨gz_e1 (by assumption), rfl⟩
    · skip
      replace c_2 := gzn.mp c_2
      refine g_iconst (v := 1) C dX1_pieceFact_93 (by decide) ?_
      refine g_goto (tgt := 98) C dX1_pieceFact_94 (by decide) ?_
      refine g_iret C hQ (Nat.le_of_ble_eq_true rfl) (Nat.le_of_ble_eq_true rfl) dX1_pieceFact_98 ?_
      first | exact ⟨rfl, rfl⟩ | exact ⟨gz_e0 (by assumption), rfl⟩ | exact ⟨gz_e1 (by assumption), rfl⟩
  · skip
    refine g_iload_n C dX1_pieceFact_0 rfl 2 rfl ?_
    refine g_tableOut (tgt := 99) C dX1_pieceFact_1 (by decide) (by decide) ?_
    refine g_aload_n C dX1_pieceFact_99 rfl 1 rfl ?_
    refine g_get (ci := 0) (Cn := RX0) (T := TX0) (N := 8) C k_X1_pieceFact_inX0 hm5 rfl 7 (by decide) k_X1_pieceFact_7 rfl rfl dX1_pieceFact_100 ?_
    refine g_if_eq (tgt := 110) C dX1_pieceFact_103 (by decide) (fun c_3 => ?_) (fun c_3 => ?_)
    · skip
      replace c_3 := gz0.mp c_3
      refine g_iconst (v := 0) C dX1_pieceFact_110 (by decide) ?_
      refine g_iret C hQ (Nat.le_of_ble_eq_true rfl) (Nat.le_of_ble_eq_true rfl) dX1_pieceFact_111 ?_
      first | exact ⟨rfl, rfl⟩ | exact ⟨gz_e0 (by assumption), rfl⟩ | exact ⟨gz_e1 (by assumption), rfl⟩
    · skip
      replace c_3 := gzn.mp c_3
      refine g_iconst (v := 1) C dX1_pieceFact_106 (by decide) ?_
      refine g_goto (tgt := 111) C dX1_pieceFact_107 (by decide) ?_
      refine g_iret C hQ (Nat.le_of_ble_eq_true rfl) (Nat.le_of_ble_eq_true rfl) dX1_pieceFact_111 ?_
      first | exact ⟨rfl, rfl⟩ | exact ⟨gz_e0 (by assumption), rfl⟩ | exact ⟨gz_e1 (by assumption), rfl⟩

set_option maxHeartbeats 4000000 in
set_option maxRecDepth 100000 in
theorem c_X1_fits (l : Launch) (D : va_G) (tys : List (ClassId × FieldType)) (cI : ClassId) (ht0 : tys[0]? = some (cI, .int)) (cP : ClassId) (ht1 : tys[1]? = some (cP, .object RX0)) (W : va_W) (h a1 a2 a3 a4 a5 a6 a7 np hr : Nat) (cover : Nat → Int32) (pcs : Nat → Option Nat) (pa : Nat → Nat) (P : Nat → Pd) (x y k9 : Nat) (a b : Int32) (hx : x ≤ 9) (hy : y ≤ 7) (hk : k9 ≤ 3) (hnp : np ≤ 100) (hp : Pin W np pcs pa P) (hm : (h, .inr (1, [.ref a1, .ref a2, .ref a3, .ref a4, .int (nI np), .int (nI hr), .ref a5, .ref a6, .ref a7])) ∈ W) (hm2 : (a2, .inl (cI, 80, .inl (cover))) ∈ W) (hm4 : (a4, .inl (cP, 100, .inr (.inr (.inr (.inr (pcs)))))) ∈ W) : gM l yX1_fits wsX1_fits ({ frames := 3, cells := 0, slots := 0, locals := 65 } : Room) D tys [.ref h, .int (nI x), .int (nI y), .int (nI k9), .int a, .int b] W (gIs (some (.int (gz (fitB np P cover x y k9 a b)))) W) 0 0 := by
  refine gM_of (by decide) rfl (Nat.le_of_ble_eq_true rfl) ?_
  intro p e s m args below meth c A Q hin C hQ
  refine g_sub [0, 1, 2, 3, 4, 5] (lv' := [(0, .ref h), (1, .int (nI x)), (2, .int (nI y)), (3, .int (nI k9)), (4, .int a), (5, .int b)]) rfl ?_
  rcases (show k9 = 0 ∨ k9 = 1 ∨ k9 = 2 ∨ k9 = 3 by omega) with rfl | rfl | rfl | rfl
  · skip
    refine g_aload_n C dX1_fits_0 rfl 0 rfl ?_
    refine g_iload_n C dX1_fits_1 rfl 1 rfl ?_
    refine g_iload_n C dX1_fits_2 rfl 2 rfl ?_
    refine g_callS (As := [.int (nI x), .int (nI y)]) (rest := [.ref h]) C (c_X1_cellOf l D tys W (nI x) (nI y)) (va_cwS 2 C.ts gX1_fits_X1_cellOf rfl rfl rfl (by decide +kernel) ⟨(Nat.le_of_ble_eq_true rfl), (Nat.le_of_ble_eq_true rfl)⟩) rfl rfl (Nat.le_of_ble_eq_true rfl) dX1_fits_3 (Nat.le_of_ble_eq_true rfl) (Nat.le_of_ble_eq_true rfl) (g_is (x := .int (10 * (nI y) + (nI x))) (W1 := W) ?_)
    refine g_eqi (x := 10 * (nI y) + (nI x)) (y := nI (10 * y + x)) (cel_nI _ _) ?_
    refine g_callV (ci := 1) (Cn := RX1) (As := [.int (nI (10 * y + x))]) (rest := []) C hm rfl rfl (c_X1_colourAt l D tys cI ht0 cP ht1 W h a1 a2 a3 a4 a5 a6 a7 np hr  cover pcs pa P (10 * y + x) (by omega) hnp hp hm hm2 hm4) (cwV 1 C.ts gX1_fits_X1_colourAt rfl rfl rfl (by decide +kernel) ⟨(Nat.le_of_ble_eq_true rfl), (Nat.le_of_ble_eq_true rfl)⟩) rfl rfl (Nat.le_of_ble_eq_true rfl) dX1_fits_6 (Nat.le_of_ble_eq_true rfl) (Nat.le_of_ble_eq_true rfl) (g_is (x := .int (colv np P cover (10 * y + x))) (W1 := W) ?_)
    refine g_istore (lv' := [(6, .int (colv np P cover (10 * y + x))), (0, .ref h), (1, .int (nI x)), (2, .int (nI y)), (3, .int (nI 0)), (4, .int a), (5, .int b)]) C dX1_fits_9 (by decide) rfl ?_
    refine g_iload_n C dX1_fits_11 rfl 4 rfl ?_
    refine g_tableIn (off := 28) (tgt := 40) C dX1_fits_12 (by decide) (by decide) (by decide) (by decide) ?_
    refine g_iload C dX1_fits_40 0 rfl ?_
    refine g_iload C dX1_fits_42 5 rfl ?_
    refine g_icmp_ne (tgt := 51) C dX1_fits_44 (by decide) (fun c_1 => ?_) (fun c_1 => ?_)
    · skip
      refine g_iconst (v := 0) C dX1_fits_51 (by decide) ?_
      refine g_zret C (by first | exact Or.inl rfl | exact Or.inr rfl | exact gz01 _) hQ (Nat.le_of_ble_eq_true rfl) (Nat.le_of_ble_eq_true rfl) dX1_fits_52 ?_
      first | exact ⟨gz_e0 (by simp [fitB, *]), rfl⟩ | exact ⟨gz_e1 (by simp [fitB, *]), rfl⟩
    · skip
      refine g_iconst (v := 1) C dX1_fits_47 (by decide) ?_
      refine g_goto (tgt := 52) C dX1_fits_48 (by decide) ?_
      refine g_zret C (by first | exact Or.inl rfl | exact Or.inr rfl | exact gz01 _) hQ (Nat.le_of_ble_eq_true rfl) (Nat.le_of_ble_eq_true rfl) dX1_fits_52 ?_
      first | exact ⟨gz_e0 (by simp [fitB, *]), rfl⟩ | exact ⟨gz_e1 (by simp [fitB, *]), rfl⟩
  · skip
    refine g_aload_n C dX1_fits_0 rfl 0 rfl ?_
    refine g_iload_n C dX1_fits_1 rfl 1 rfl ?_
    refine g_iload_n C dX1_fits_2 rfl 2 rfl ?_
    refine g_callS (As := [.int (nI x), .int (nI y)]) (rest := [.ref h]) C (c_X1_cellOf l D tys W (nI x) (nI y)) (va_cwS 2 C.ts gX1_fits_X1_cellOf rfl rfl rfl (by decide +kernel) ⟨(Nat.le_of_ble_eq_true rfl), (Nat.le_of_ble_eq_true rfl)⟩) rfl rfl (Nat.le_of_ble_eq_true rfl) dX1_fits_3 (Nat.le_of_ble_eq_true rfl) (Nat.le_of_ble_eq_true rfl) (g_is (x := .int (10 * (nI y) + (nI x))) (W1 := W) ?_)
    refine g_eqi (x := 10 * (nI y) + (nI x)) (y := nI (10 * y + x)) (cel_nI _ _) ?_
    refine g_callV (ci := 1) (Cn := RX1) (As := [.int (nI (10 * y + x))]) (rest := []) C hm rfl rfl (c_X1_colourAt l D tys cI ht0 cP ht1 W h a1 a2 a3 a4 a5 a6 a7 np hr  cover pcs pa P (10 * y + x) (by omega) hnp hp hm hm2 hm4) (cwV 1 C.ts gX1_fits_X1_colourAt rfl rfl rfl (by decide +kernel) ⟨(Nat.le_of_ble_eq_true rfl), (Nat.le_of_ble_eq_true rfl)⟩) rfl rfl (Nat.le_of_ble_eq_true rfl) dX1_fits_6 (Nat.le_of_ble_eq_true rfl) (Nat.le_of_ble_eq_true rfl) (g_is (x := .int (colv np P cover (10 * y + x))) (W1 := W) ?_)
    refine g_istore (lv' := [(6, .int (colv np P cover (10 * y + x))), (0, .ref h), (1, .int (nI x)), (2, .int (nI y)), (3, .int (nI 1)), (4, .int a), (5, .int b)]) C dX1_fits_9 (by decide) rfl ?_
    refine g_iload_n C dX1_fits_11 rfl 4 rfl ?_
    refine g_tableIn (off := 41) (tgt := 53) C dX1_fits_12 (by decide) (by decide) (by decide) (by decide) ?_
    refine g_iload C dX1_fits_53 0 rfl ?_
    refine g_iload_n C dX1_fits_55 rfl 3 rfl ?_
    refine g_iconst (v := 2) C dX1_fits_56 (by decide) ?_
    refine g_irem C dX1_fits_57 (by decide) ?_
    refine g_eqi (x := (nI y) - (nI y) / 2 * 2) (y := nI (y % 2)) (remI y 2 (by omega) (by omega) (by omega) rfl) ?_
    refine g_if_ne (tgt := 66) C dX1_fits_58 (by decide) (fun c_2 => ?_) (fun c_2 => ?_)
    · skip
      rw [show (0 : Int32) = nI 0 from rfl, nI_eq (by omega) (by omega)] at c_2
      refine g_iload C dX1_fits_66 6 rfl ?_
      refine g_icmp_ne (tgt := 75) C dX1_fits_68 (by decide) (fun c_3 => ?_) (fun c_3 => ?_)
      · skip
        refine g_iconst (v := 0) C dX1_fits_75 (by decide) ?_
        refine g_zret C (by first | exact Or.inl rfl | exact Or.inr rfl | exact gz01 _) hQ (Nat.le_of_ble_eq_true rfl) (Nat.le_of_ble_eq_true rfl) dX1_fits_76 ?_
        first | exact ⟨gz_e0 (by simp [fitB, *]), rfl⟩ | exact ⟨gz_e1 (by simp [fitB, *]), rfl⟩
      · skip
        refine g_iconst (v := 1) C dX1_fits_71 (by decide) ?_
        refine g_goto (tgt := 76) C dX1_fits_72 (by decide) ?_
        refine g_zret C (by first | exact Or.inl rfl | exact Or.inr rfl | exact gz01 _) hQ (Nat.le_of_ble_eq_true rfl) (Nat.le_of_ble_eq_true rfl) dX1_fits_76 ?_
        first | exact ⟨gz_e0 (by simp [fitB, *]), rfl⟩ | exact ⟨gz_e1 (by simp [fitB, *]), rfl⟩
    · skip
      rw [show (0 : Int32) = nI 0 from rfl, nI_eq (by omega) (by omega)] at c_2
      refine g_iload C dX1_fits_61 5 rfl ?_
      refine g_goto (tgt := 68) C dX1_fits_63 (by decide) ?_
      refine g_icmp_ne (tgt := 75) C dX1_fits_68 (by decide) (fun c_4 => ?_) (fun c_4 => ?_)
      · skip
        refine g_iconst (v := 0) C dX1_fits_75 (by decide) ?_
        refine g_zret C (by first | exact Or.inl rfl | exact Or.inr rfl | exact gz01 _) hQ (Nat.le_of_ble_eq_true rfl) (Nat.le_of_ble_eq_true rfl) dX1_fits_76 ?_
        first | exact ⟨gz_e0 (by simp [fitB, *]), rfl⟩ | exact ⟨gz_e1 (by simp [fitB, *]), rfl⟩
      · skip
        refine g_iconst (v := 1) C dX1_fits_71 (by decide) ?_
        refine g_goto (tgt := 76) C dX1_fits_72 (by decide) ?_
        refine g_zret C (by first | exact Or.inl rfl | exact Or.inr rfl | exact gz01 _) hQ (Nat.le_of_ble_eq_true rfl) (Nat.le_of_ble_eq_true rfl) dX1_fits_76 ?_
        first | exact ⟨gz_e0 (by simp [fitB, *]), rfl⟩ | exact ⟨gz_e1 (by simp [fitB, *]), rfl⟩
  · skip
    refine g_aload_n C dX1_fits_0 rfl 0 rfl ?_
    refine g_iload_n C dX1_fits_1 rfl 1 rfl ?_
    refine g_iload_n C dX1_fits_2 rfl 2 rfl ?_
    refine g_callS (As := [.int (nI x), .int (nI y)]) (rest := [.ref h]) C (c_X1_cellOf l D tys W (nI x) (nI y)) (va_cwS 2 C.ts gX1_fits_X1_cellOf rfl rfl rfl (by decide +kernel) ⟨(Nat.le_of_ble_eq_true rfl), (Nat.le_of_ble_eq_true rfl)⟩) rfl rfl (Nat.le_of_ble_eq_true rfl) dX1_fits_3 (Nat.le_of_ble_eq_true rfl) (Nat.le_of_ble_eq_true rfl) (g_is (x := .int (10 * (nI y) + (nI x))) (W1 := W) ?_)
    refine g_eqi (x := 10 * (nI y) + (nI x)) (y := nI (10 * y + x)) (cel_nI _ _) ?_
    refine g_callV (ci := 1) (Cn := RX1) (As := [.int (nI (10 * y + x))]) (rest := []) C hm rfl rfl (c_X1_colourAt l D tys cI ht0 cP ht1 W h a1 a2 a3 a4 a5 a6 a7 np hr  cover pcs pa P (10 * y + x) (by omega) hnp hp hm hm2 hm4) (cwV 1 C.ts gX1_fits_X1_colourAt rfl rfl rfl (by decide +kernel) ⟨(Nat.le_of_ble_eq_true rfl), (Nat.le_of_ble_eq_true rfl)⟩) rfl rfl (Nat.le_of_ble_eq_true rfl) dX1_fits_6 (Nat.le_of_ble_eq_true rfl) (Nat.le_of_ble_eq_true rfl) (g_is (x := .int (colv np P cover (10 * y + x))) (W1 := W) ?_)
    refine g_istore (lv' := [(6, .int (colv np P cover (10 * y + x))), (0, .ref h), (1, .int (nI x)), (2, .int (nI y)), (3, .int (nI 2)), (4, .int a), (5, .int b)]) C dX1_fits_9 (by decide) rfl ?_
    refine g_iload_n C dX1_fits_11 rfl 4 rfl ?_
    refine g_tableIn (off := 65) (tgt := 77) C dX1_fits_12 (by decide) (by decide) (by decide) (by decide) ?_
    refine g_iload C dX1_fits_77 0 rfl ?_
    refine g_iload_n C dX1_fits_79 rfl 2 rfl ?_
    refine g_iload_n C dX1_fits_80 rfl 3 rfl ?_
    refine g_iadd C dX1_fits_81 ?_
    refine g_eqi (x := (nI x) + (nI y)) (y := nI (x + y)) (nI_add _ _) ?_
    refine g_iconst (v := 2) C dX1_fits_82 (by decide) ?_
    refine g_irem C dX1_fits_83 (by decide) ?_
    refine g_eqi (x := (nI (x + y)) - (nI (x + y)) / 2 * 2) (y := nI ((x + y) % 2)) (remI (x + y) 2 (by omega) (by omega) (by omega) rfl) ?_
    refine g_if_ne (tgt := 92) C dX1_fits_84 (by decide) (fun c_5 => ?_) (fun c_5 => ?_)
    · skip
      rw [show (0 : Int32) = nI 0 from rfl, nI_eq (by omega) (by omega)] at c_5
      refine g_iload C dX1_fits_92 6 rfl ?_
      refine g_icmp_ne (tgt := 101) C dX1_fits_94 (by decide) (fun c_6 => ?_) (fun c_6 => ?_)
      · skip
        refine g_iconst (v := 0) C dX1_fits_101 (by decide) ?_
        refine g_zret C (by first | exact Or.inl rfl | exact Or.inr rfl | exact gz01 _) hQ (Nat.le_of_ble_eq_true rfl) (Nat.le_of_ble_eq_true rfl) dX1_fits_102 ?_
        first | exact ⟨gz_e0 (by simp [fitB, *]), rfl⟩ | exact ⟨gz_e1 (by simp [fitB, *]), rfl⟩
      · skip
        refine g_iconst (v := 1) C dX1_fits_97 (by decide) ?_
        refine g_goto (tgt := 102) C dX1_fits_98 (by decide) ?_
        refine g_zret C (by first | exact Or.inl rfl | exact Or.inr rfl | exact gz01 _) hQ (Nat.le_of_ble_eq_true rfl) (Nat.le_of_ble_eq_true rfl) dX1_fits_102 ?_
        first | exact ⟨gz_e0 (by simp [fitB, *]), rfl⟩ | exact ⟨gz_e1 (by simp [fitB, *]), rfl⟩
    · skip
      rw [show (0 : Int32) = nI 0 from rfl, nI_eq (by omega) (by omega)] at c_5
      refine g_iload C dX1_fits_87 5 rfl ?_
      refine g_goto (tgt := 94) C dX1_fits_89 (by decide) ?_
      refine g_icmp_ne (tgt := 101) C dX1_fits_94 (by decide) (fun c_7 => ?_) (fun c_7 => ?_)
      · skip
        refine g_iconst (v := 0) C dX1_fits_101 (by decide) ?_
        refine g_zret C (by first | exact Or.inl rfl | exact Or.inr rfl | exact gz01 _) hQ (Nat.le_of_ble_eq_true rfl) (Nat.le_of_ble_eq_true rfl) dX1_fits_102 ?_
        first | exact ⟨gz_e0 (by simp [fitB, *]), rfl⟩ | exact ⟨gz_e1 (by simp [fitB, *]), rfl⟩
      · skip
        refine g_iconst (v := 1) C dX1_fits_97 (by decide) ?_
        refine g_goto (tgt := 102) C dX1_fits_98 (by decide) ?_
        refine g_zret C (by first | exact Or.inl rfl | exact Or.inr rfl | exact gz01 _) hQ (Nat.le_of_ble_eq_true rfl) (Nat.le_of_ble_eq_true rfl) dX1_fits_102 ?_
        first | exact ⟨gz_e0 (by simp [fitB, *]), rfl⟩ | exact ⟨gz_e1 (by simp [fitB, *]), rfl⟩
  · skip
    refine g_aload_n C dX1_fits_0 rfl 0 rfl ?_
    refine g_iload_n C dX1_fits_1 rfl 1 rfl ?_
    refine g_iload_n C dX1_fits_2 rfl 2 rfl ?_
    refine g_callS (As := [.int (nI x), .int (nI y)]) (rest := [.ref h]) C (c_X1_cellOf l D tys W (nI x) (nI y)) (va_cwS 2 C.ts gX1_fits_X1_cellOf rfl rfl rfl (by decide +kernel) ⟨(Nat.le_of_ble_eq_true rfl), (Nat.le_of_ble_eq_true rfl)⟩) rfl rfl (Nat.le_of_ble_eq_true rfl) dX1_fits_3 (Nat.le_of_ble_eq_true rfl) (Nat.le_of_ble_eq_true rfl) (g_is (x := .int (10 * (nI y) + (nI x))) (W1 := W) ?_)
    refine g_eqi (x := 10 * (nI y) + (nI x)) (y := nI (10 * y + x)) (cel_nI _ _) ?_
    refine g_callV (ci := 1) (Cn := RX1) (As := [.int (nI (10 * y + x))]) (rest := []) C hm rfl rfl (c_X1_colourAt l D tys cI ht0 cP ht1 W h a1 a2 a3 a4 a5 a6 a7 np hr  cover pcs pa P (10 * y + x) (by omega) hnp hp hm hm2 hm4) (cwV 1 C.ts gX1_fits_X1_colourAt rfl rfl rfl (by decide +kernel) ⟨(Nat.le_of_ble_eq_true rfl), (Nat.le_of_ble_eq_true rfl)⟩) rfl rfl (Nat.le_of_ble_eq_true rfl) dX1_fits_6 (Nat.le_of_ble_eq_true rfl) (Nat.le_of_ble_eq_true rfl) (g_is (x := .int (colv np P cover (10 * y + x))) (W1 := W) ?_)
    refine g_istore (lv' := [(6, .int (colv np P cover (10 * y + x))), (0, .ref h), (1, .int (nI x)), (2, .int (nI y)), (3, .int (nI 3)), (4, .int a), (5, .int b)]) C dX1_fits_9 (by decide) rfl ?_
    refine g_iload_n C dX1_fits_11 rfl 4 rfl ?_
    refine g_tableOut (tgt := 103) C dX1_fits_12 (by decide) (by decide) ?_
    refine g_iload C dX1_fits_103 0 rfl ?_
    refine g_aload_n C dX1_fits_105 rfl 1 rfl ?_
    refine g_bipush (v := 9) C dX1_fits_106 (by decide) ?_
    refine g_iload_n C dX1_fits_108 rfl 2 rfl ?_
    refine g_isub C dX1_fits_109 ?_
    refine g_eqi (x := 9 - (nI x)) (y := nI (9 - x)) (sub9 hx) ?_
    refine g_iload_n C dX1_fits_110 rfl 3 rfl ?_
    refine g_callS (As := [.int (nI (9 - x)), .int (nI y)]) (rest := [.ref h, .int (colv np P cover (10 * y + x))]) C (c_X1_cellOf l D tys W (nI (9 - x)) (nI y)) (va_cwS 2 C.ts gX1_fits_X1_cellOf rfl rfl rfl (by decide +kernel) ⟨(Nat.le_of_ble_eq_true rfl), (Nat.le_of_ble_eq_true rfl)⟩) rfl rfl (Nat.le_of_ble_eq_true rfl) dX1_fits_111 (Nat.le_of_ble_eq_true rfl) (Nat.le_of_ble_eq_true rfl) (g_is (x := .int (10 * (nI y) + (nI (9 - x)))) (W1 := W) ?_)
    refine g_eqi (x := 10 * (nI y) + (nI (9 - x))) (y := nI (10 * y + (9 - x))) (cel_nI _ _) ?_
    refine g_callV (ci := 1) (Cn := RX1) (As := [.int (nI (10 * y + (9 - x)))]) (rest := [.int (colv np P cover (10 * y + x))]) C hm rfl rfl (c_X1_colourAt l D tys cI ht0 cP ht1 W h a1 a2 a3 a4 a5 a6 a7 np hr  cover pcs pa P ((10 * y + (9 - x))) (by omega) hnp hp hm hm2 hm4) (cwV 1 C.ts gX1_fits_X1_colourAt rfl rfl rfl (by decide +kernel) ⟨(Nat.le_of_ble_eq_true rfl), (Nat.le_of_ble_eq_true rfl)⟩) rfl rfl (Nat.le_of_ble_eq_true rfl) dX1_fits_114 (Nat.le_of_ble_eq_true rfl) (Nat.le_of_ble_eq_true rfl) (g_is (x := .int (colv np P cover ((10 * y + (9 - x))))) (W1 := W) ?_)
    refine g_icmp_ne (tgt := 124) C dX1_fits_117 (by decide) (fun c_8 => ?_) (fun c_8 => ?_)
    · skip
      refine g_iconst (v := 0) C dX1_fits_124 (by decide) ?_
      refine g_zret C (by first | exact Or.inl rfl | exact Or.inr rfl | exact gz01 _) hQ (Nat.le_of_ble_eq_true rfl) (Nat.le_of_ble_eq_true rfl) dX1_fits_125 ?_
      first | exact ⟨gz_e0 (by simp [fitB, *]), rfl⟩ | exact ⟨gz_e1 (by simp [fitB, *]), rfl⟩
    · skip
      refine g_iconst (v := 1) C dX1_fits_120 (by decide) ?_
      refine g_goto (tgt := 125) C dX1_fits_121 (by decide) ?_
      refine g_zret C (by first | exact Or.inl rfl | exact Or.inr rfl | exact gz01 _) hQ (Nat.le_of_ble_eq_true rfl) (Nat.le_of_ble_eq_true rfl) dX1_fits_125 ?_
      first | exact ⟨gz_e0 (by simp [fitB, *]), rfl⟩ | exact ⟨gz_e1 (by simp [fitB, *]), rfl⟩

set_option maxHeartbeats 4000000 in
set_option maxRecDepth 100000 in
theorem c_X1_cellsOff (l : Launch) (D : va_G) (tys : List (ClassId × FieldType)) (cI : ClassId) (ht0 : tys[0]? = some (cI, .int)) (cP : ClassId) (ht1 : tys[1]? = some (cP, .object RX0)) (W : va_W) (h a1 a2 a3 a4 a5 a6 a7 np hr : Nat) (cover : Nat → Int32) (pcs : Nat → Option Nat) (pa : Nat → Nat) (P : Nat → Pd) (k9 : Nat) (a b : Int32) (hk : k9 ≤ 3) (hnp : np ≤ 100) (hp : Pin W np pcs pa P) (hm : (h, .inr (1, [.ref a1, .ref a2, .ref a3, .ref a4, .int (nI np), .int (nI hr), .ref a5, .ref a6, .ref a7])) ∈ W) (hm2 : (a2, .inl (cI, 80, .inl (cover))) ∈ W) (hm4 : (a4, .inl (cP, 100, .inr (.inr (.inr (.inr (pcs)))))) ∈ W) : gM l yX1_cellsOff wsX1_cellsOff ({ frames := 4, cells := 0, slots := 0, locals := 91 } : Room) D tys [.ref h, .int (nI k9), .int a, .int b] W (gIs (some (.int (nI (cnt (offB np P cover k9 a b) 80)))) W) 0 0 := by
  refine gM_of (by decide) rfl (Nat.le_of_ble_eq_true rfl) ?_
  intro p e s m args below meth c A Q hin C hQ
  refine g_sub [0, 1, 2, 3] (lv' := [(0, .ref h), (1, .int (nI k9)), (2, .int a), (3, .int b)]) rfl ?_
  refine g_iconst (v := 0) C dX1_cellsOff_0 (by decide) ?_
  refine g_istore (lv' := [(4, .int 0), (0, .ref h), (1, .int (nI k9)), (2, .int a), (3, .int b)]) C dX1_cellsOff_1 (by decide) rfl ?_
  refine g_iconst (v := 0) C dX1_cellsOff_3 (by decide) ?_
  refine g_istore (lv' := [(5, .int 0), (4, .int 0), (0, .ref h), (1, .int (nI k9)), (2, .int a), (3, .int b)]) C dX1_cellsOff_4 (by decide) rfl ?_
  have lp6 : ∀ (n9 : Nat) (y q : Nat) (hq : q = cnt (offB np P cover k9 a b) (10 * y)) (hi : y ≤ 8) (hn : 9 ≤ y + n9), G p l e ({ frames := 4, cells := 0, slots := 0, locals := 91 } : Room) s m args below meth c D A s.heap 7 0 0 Q 6 [(0, .ref h), (1, .int (nI k9)), (2, .int a), (3, .int b), (4, .int (nI q)), (5, .int (nI y))] [] W := by
    intro n9
    induction n9 with
    | zero =>
      intro y q hq hi hn
      exfalso; omega
    | succ n9 ih =>
      intro y q hq hi hn
      refine g_iload C dX1_cellsOff_6 5 rfl ?_
      refine g_bipush (v := 8) C dX1_cellsOff_8 (by decide) ?_
      refine g_icmp_ge (tgt := 52) C dX1_cellsOff_10 (by decide) (fun c_1 => ?_) (fun c_1 => ?_)
      · skip
        rw [show (8 : Int32) = nI 8 from rfl, nI_leI (by omega) (by omega)] at c_1
        refine g_iload C dX1_cellsOff_52 4 rfl ?_
        refine g_iret C hQ (Nat.le_of_ble_eq_true rfl) (Nat.le_of_ble_eq_true rfl) dX1_cellsOff_54 ?_
        exact ⟨by rw [hq, show y = 8 by omega], rfl⟩
      · skip
        rw [show (8 : Int32) = nI 8 from rfl, nI_leI (by omega) (by omega)] at c_1
        refine g_iconst (v := 0) C dX1_cellsOff_13 (by decide) ?_
        refine g_istore (lv' := [(6, .int 0), (0, .ref h), (1, .int (nI k9)), (2, .int a), (3, .int b), (4, .int (nI q)), (5, .int (nI y))]) C dX1_cellsOff_14 (by decide) rfl ?_
        have lp16 : ∀ (n9 : Nat) (x q : Nat) (hq2 : q = cnt (offB np P cover k9 a b) (10 * y + x)) (hi2 : x ≤ 10) (hn2 : 11 ≤ x + n9), G p l e ({ frames := 4, cells := 0, slots := 0, locals := 91 } : Room) s m args below meth c D A s.heap 7 0 0 Q 16 [(0, .ref h), (1, .int (nI k9)), (2, .int a), (3, .int b), (4, .int (nI q)), (5, .int (nI y)), (6, .int (nI x))] [] W := by
          intro n9
          induction n9 with
          | zero =>
            intro x q hq2 hi2 hn2
            exfalso; omega
          | succ n9 ih2 =>
            intro x q hq2 hi2 hn2
            refine g_iload C dX1_cellsOff_16 6 rfl ?_
            refine g_bipush (v := 10) C dX1_cellsOff_18 (by decide) ?_
            refine g_icmp_ge (tgt := 46) C dX1_cellsOff_20 (by decide) (fun c_2 => ?_) (fun c_2 => ?_)
            · skip
              rw [show (10 : Int32) = nI 10 from rfl, nI_leI (by omega) (by omega)] at c_2
              refine g_iinc (v := nI (y + 1)) (lv' := [(5, .int (nI (y + 1))), (0, .ref h), (1, .int (nI k9)), (2, .int a), (3, .int b), (4, .int (nI q)), (6, .int (nI x))]) C dX1_cellsOff_46 5 rfl (by exact nI_add _ 1) (by decide) rfl ?_
              refine g_goto (tgt := 6) C dX1_cellsOff_49 (by decide) ?_
              refine g_sub [1, 2, 3, 4, 5, 0] (lv' := [(0, .ref h), (1, .int (nI k9)), (2, .int a), (3, .int b), (4, .int (nI q)), (5, .int (nI (y + 1)))]) rfl ?_
              exact ih (y + 1) _ (by rw [hq2, show x = 10 by omega]; rfl) (by omega) (by omega)
            · skip
              rw [show (10 : Int32) = nI 10 from rfl, nI_leI (by omega) (by omega)] at c_2
              refine g_aload_n C dX1_cellsOff_23 rfl 0 rfl ?_
              refine g_iload C dX1_cellsOff_24 6 rfl ?_
              refine g_iload C dX1_cellsOff_26 5 rfl ?_
              refine g_iload_n C dX1_cellsOff_28 rfl 1 rfl ?_
              refine g_iload_n C dX1_cellsOff_29 rfl 2 rfl ?_
              refine g_iload_n C dX1_cellsOff_30 rfl 3 rfl ?_
              refine g_callV (ci := 1) (Cn := RX1) (As := [.int (nI x), .int (nI y), .int (nI k9), .int a, .int b]) (rest := []) C hm rfl rfl (c_X1_fits l D tys cI ht0 cP ht1 W h a1 a2 a3 a4 a5 a6 a7 np hr cover pcs pa P x y k9 a b (by omega) (by omega) (by omega) hnp hp hm hm2 hm4) (cwV 5 C.ts gX1_cellsOff_X1_fits rfl rfl rfl (by decide +kernel) ⟨(Nat.le_of_ble_eq_true rfl), (Nat.le_of_ble_eq_true rfl)⟩) rfl rfl (Nat.le_of_ble_eq_true rfl) dX1_cellsOff_31 (Nat.le_of_ble_eq_true rfl) (Nat.le_of_ble_eq_true rfl) (g_is (x := .int (gz (fitB np P cover x y k9 a b))) (W1 := W) ?_)
              refine g_if_ne (tgt := 40) C dX1_cellsOff_34 (by decide) (fun c_3 => ?_) (fun c_3 => ?_)
              · skip
                replace c_3 := gzn.mp c_3
                refine g_iinc (v := nI (x + 1)) (lv' := [(6, .int (nI (x + 1))), (0, .ref h), (1, .int (nI k9)), (2, .int a), (3, .int b), (4, .int (nI q)), (5, .int (nI y))]) C dX1_cellsOff_40 6 rfl (by exact nI_add _ 1) (by decide) rfl ?_
                refine g_goto (tgt := 16) C dX1_cellsOff_43 (by decide) ?_
                refine g_sub [1, 2, 3, 4, 5, 6, 0] (lv' := [(0, .ref h), (1, .int (nI k9)), (2, .int a), (3, .int b), (4, .int (nI q)), (5, .int (nI y)), (6, .int (nI (x + 1)))]) rfl ?_
                exact ih2 (x + 1) _ (by rw [hq2]; first | exact (cnt_f (by simp [offB, show (10 * y + x) % 10 = x by omega, show (10 * y + x) / 10 = y by omega, *])).symm | exact (cnt_t (by simp [offB, show (10 * y + x) % 10 = x by omega, show (10 * y + x) / 10 = y by omega, *])).symm) (by omega) (by omega)
              · skip
                replace c_3 := gz0.mp c_3
                refine g_iinc (v := nI (q + 1)) (lv' := [(4, .int (nI (q + 1))), (0, .ref h), (1, .int (nI k9)), (2, .int a), (3, .int b), (5, .int (nI y)), (6, .int (nI x))]) C dX1_cellsOff_37 4 rfl (by exact nI_add _ 1) (by decide) rfl ?_
                refine g_iinc (v := nI (x + 1)) (lv' := [(6, .int (nI (x + 1))), (4, .int (nI (q + 1))), (0, .ref h), (1, .int (nI k9)), (2, .int a), (3, .int b), (5, .int (nI y))]) C dX1_cellsOff_40 6 rfl (by exact nI_add _ 1) (by decide) rfl ?_
                refine g_goto (tgt := 16) C dX1_cellsOff_43 (by decide) ?_
                refine g_sub [2, 3, 4, 5, 1, 6, 0] (lv' := [(0, .ref h), (1, .int (nI k9)), (2, .int a), (3, .int b), (4, .int (nI (q + 1))), (5, .int (nI y)), (6, .int (nI (x + 1)))]) rfl ?_
                exact ih2 (x + 1) _ (by rw [hq2]; first | exact (cnt_f (by simp [offB, show (10 * y + x) % 10 = x by omega, show (10 * y + x) / 10 = y by omega, *])).symm | exact (cnt_t (by simp [offB, show (10 * y + x) % 10 = x by omega, show (10 * y + x) / 10 = y by omega, *])).symm) (by omega) (by omega)
        refine g_sub [1, 2, 3, 4, 5, 6, 0] (lv' := [(0, .ref h), (1, .int (nI k9)), (2, .int a), (3, .int b), (4, .int (nI q)), (5, .int (nI y)), (6, .int 0)]) rfl ?_
        exact lp16 11 0 q (by rw [hq]; rfl) (by omega) (by omega)
  refine g_sub [2, 3, 4, 5, 1, 0] (lv' := [(0, .ref h), (1, .int (nI k9)), (2, .int a), (3, .int b), (4, .int 0), (5, .int 0)]) rfl ?_
  exact lp6 9 0 0 rfl (by omega) (by omega)
