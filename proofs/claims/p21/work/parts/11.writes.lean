theorem k_X1_clearMarks_inX1 : ∀ w ∈ wsX10, w ∈ wsX1_clearMarks := by decide +kernel
theorem k_X1_clearMarks_1 : Cond.fieldLink RX1 28 "WetMosaic" "marks" "[I" ∈ wsX1_clearMarks := by decide +kernel
set_option maxHeartbeats 4000000 in
set_option maxRecDepth 100000 in
theorem c_X1_clearMarks (l : Launch) (D : va_G) (tys : List (ClassId × FieldType)) (cI cP : ClassId) (ht0 : tys[0]? = some (cI, .int)) (h a1 a2 a3 a4 a5 a6 a7 np hr : Nat) (wet cover sun fs mk fd : Nat → Int32) (pcs : Nat → Option Nat) (Z : va_W) : gM l yX1_clearMarks wsX1_clearMarks ({ frames := 0, cells := 0, slots := 0, locals := 0 } : Room) D tys [.ref h] ((h, .inr (1, [.ref a1, .ref a2, .ref a3, .ref a4, .int (nI np), .int (nI hr), .ref a5, .ref a6, .ref a7])) :: (a1, .inl (cI, 80, .inl (wet))) :: (a2, .inl (cI, 80, .inl (cover))) :: (a3, .inl (cI, 8, .inl (sun))) :: (a4, .inl (cP, 100, .inr (.inr (.inr (.inr (pcs)))))) :: (a5, .inl (cI, 80, .inl (fs))) :: (a6, .inl (cI, 80, .inl (mk))) :: (a7, .inl (cI, 80, .inl (fd))) :: Z) (gIs none ((h, .inr (1, [.ref a1, .ref a2, .ref a3, .ref a4, .int (nI np), .int (nI hr), .ref a5, .ref a6, .ref a7])) :: (a1, .inl (cI, 80, .inl (wet))) :: (a2, .inl (cI, 80, .inl (cover))) :: (a3, .inl (cI, 8, .inl (sun))) :: (a4, .inl (cP, 100, .inr (.inr (.inr (.inr (pcs)))))) :: (a5, .inl (cI, 80, .inl (fs))) :: (a6, .inl (cI, 80, .inl (fun _ => 0))) :: (a7, .inl (cI, 80, .inl (fd))) :: Z)) 0 0 := by
  refine gM_of (by decide +kernel) rfl (Nat.le_of_ble_eq_true rfl) ?_
  intro p e s m args below meth c A Q hin C hQ
  refine g_sub [0] (lv' := [(0, .ref h)]) rfl ?_
  refine g_iconst (v := 0) C dX1_clearMarks_0 (by decide) ?_
  refine g_istore_n (lv' := [(1, .int 0), (0, .ref h)]) C dX1_clearMarks_1 rfl (by decide) rfl ?_
  have lp2 : ∀ (n9 : Nat) (i : Nat) (g : Nat → Int32) (hg : ∀ c, c < i → g c = 0) (hi : i ≤ 80) (hn : 81 ≤ i + n9), G p l e ({ frames := 0, cells := 0, slots := 0, locals := 0 } : Room) s m args below meth c D A s.heap 2 0 0 Q 2 [(0, .ref h), (1, .int (nI i))] [] ((h, .inr (1, [.ref a1, .ref a2, .ref a3, .ref a4, .int (nI np), .int (nI hr), .ref a5, .ref a6, .ref a7])) :: (a1, .inl (cI, 80, .inl (wet))) :: (a2, .inl (cI, 80, .inl (cover))) :: (a3, .inl (cI, 8, .inl (sun))) :: (a4, .inl (cP, 100, .inr (.inr (.inr (.inr (pcs)))))) :: (a5, .inl (cI, 80, .inl (fs))) :: (a6, .inl (cI, 80, .inl (g))) :: (a7, .inl (cI, 80, .inl (fd))) :: Z) := by
    intro n9
    induction n9 with
    | zero =>
      intro i g hg hi hn
      exfalso; omega
    | succ n9 ih =>
      intro i g hg hi hn
      refine g_iload_n C dX1_clearMarks_2 rfl 1 rfl ?_
      refine g_bipush (v := 80) C dX1_clearMarks_3 (by decide) ?_
      refine g_icmp_ge (tgt := 21) C dX1_clearMarks_5 (by decide) (fun c_1 => ?_) (fun c_1 => ?_)
      · skip
        rw [show (80 : Int32) = nI 80 from rfl, nI_leI (by omega) (by omega)] at c_1
        refine g_cong (g := fun _ => 0) (ws' := ((h, .inr (1, [.ref a1, .ref a2, .ref a3, .ref a4, .int (nI np), .int (nI hr), .ref a5, .ref a6, .ref a7])) :: (a1, .inl (cI, 80, .inl (wet))) :: (a2, .inl (cI, 80, .inl (cover))) :: (a3, .inl (cI, 8, .inl (sun))) :: (a4, .inl (cP, 100, .inr (.inr (.inr (.inr (pcs)))))) :: (a5, .inl (cI, 80, .inl (fs))) :: (a6, .inl (cI, 80, .inl (fun _ => 0))) :: (a7, .inl (cI, 80, .inl (fd))) :: Z)) 6 rfl (fun j hj => hg j (by omega)) rfl ?_
        refine g_vret C hQ (Nat.le_of_ble_eq_true rfl) (Nat.le_of_ble_eq_true rfl) dX1_clearMarks_21 ?_
        exact ⟨rfl, rfl⟩
      · skip
        rw [show (80 : Int32) = nI 80 from rfl, nI_leI (by omega) (by omega)] at c_1
        refine g_aload_n C dX1_clearMarks_8 rfl 0 rfl ?_
        refine g_get (ci := 1) (Cn := RX1) (T := TX1) (N := 9) C k_X1_clearMarks_inX1 gm0 rfl 7 (by decide) k_X1_clearMarks_1 rfl rfl dX1_clearMarks_9 ?_
        refine g_iload_n C dX1_clearMarks_12 rfl 1 rfl ?_
        refine g_iconst (v := 0) C dX1_clearMarks_13 (by decide) ?_
        refine g_iast (ws' := ((h, .inr (1, [.ref a1, .ref a2, .ref a3, .ref a4, .int (nI np), .int (nI hr), .ref a5, .ref a6, .ref a7])) :: (a1, .inl (cI, 80, .inl (wet))) :: (a2, .inl (cI, 80, .inl (cover))) :: (a3, .inl (cI, 8, .inl (sun))) :: (a4, .inl (cP, 100, .inr (.inr (.inr (.inr (pcs)))))) :: (a5, .inl (cI, 80, .inl (fs))) :: (a6, .inl (cI, 80, .inl (upd g (nI i).toNatClampNeg 0))) :: (a7, .inl (cI, 80, .inl (fd))) :: Z)) C 6 0 rfl ht0 (vp_in_nI (by omega) (by omega)) dX1_clearMarks_14 rfl ?_
        rw [nI_clamp (n := i) (by omega)]
        refine g_iinc (v := nI (i + 1)) (lv' := [(1, .int (nI (i + 1))), (0, .ref h)]) C dX1_clearMarks_15 1 rfl (by exact nI_add _ 1) (by decide) rfl ?_
        refine g_goto (tgt := 2) C dX1_clearMarks_18 (by decide) ?_
        refine g_sub [1, 0] (lv' := [(0, .ref h), (1, .int (nI (i + 1)))]) rfl ?_
        exact ih (i + 1) _ (upd_z hg) (by omega) (by omega)
  refine g_sub [1, 0] (lv' := [(0, .ref h), (1, .int 0)]) rfl ?_
  exact lp2 81 0 mk (fun c hc => absurd hc (Nat.not_lt_zero c)) (by omega) (by omega)

theorem k_X1_reach_inX1 : ∀ w ∈ wsX10, w ∈ wsX1_reach := by decide +kernel
theorem k_X1_reach_1 : Cond.fieldLink RX1 13 "WetMosaic" "cover" "[I" ∈ wsX1_reach := by decide +kernel
theorem k_X1_reach_2 : Cond.fieldLink RX1 28 "WetMosaic" "marks" "[I" ∈ wsX1_reach := by decide +kernel
theorem k_X1_reach_3 : Cond.fieldLink RX1 31 "WetMosaic" "found" "[I" ∈ wsX1_reach := by decide +kernel
set_option maxHeartbeats 4000000 in
set_option maxRecDepth 100000 in
theorem c_X1_reach (l : Launch) (D : va_G) (tys : List (ClassId × FieldType)) (cI cP : ClassId) (ht0 : tys[0]? = some (cI, .int)) (h a1 a2 a3 a4 a5 a6 a7 np hr : Nat) (wet cover sun fs : Nat → Int32) (pcs : Nat → Option Nat) (Z : va_W) (S : Sg) (x y : Int32) : gM l yX1_reach wsX1_reach ({ frames := 2, cells := 0, slots := 0, locals := 44 } : Room) D tys [.ref h, .int x, .int y, .int (nI S.2.2)] ((h, .inr (1, [.ref a1, .ref a2, .ref a3, .ref a4, .int (nI np), .int (nI hr), .ref a5, .ref a6, .ref a7])) :: (a1, .inl (cI, 80, .inl (wet))) :: (a2, .inl (cI, 80, .inl (cover))) :: (a3, .inl (cI, 8, .inl (sun))) :: (a4, .inl (cP, 100, .inr (.inr (.inr (.inr (pcs)))))) :: (a5, .inl (cI, 80, .inl (fs))) :: (a6, .inl (cI, 80, .inl (S.1))) :: (a7, .inl (cI, 80, .inl (S.2.1))) :: Z) (gIs (some (.int (nI (rch cover x y S).2.2))) ((h, .inr (1, [.ref a1, .ref a2, .ref a3, .ref a4, .int (nI np), .int (nI hr), .ref a5, .ref a6, .ref a7])) :: (a1, .inl (cI, 80, .inl (wet))) :: (a2, .inl (cI, 80, .inl (cover))) :: (a3, .inl (cI, 8, .inl (sun))) :: (a4, .inl (cP, 100, .inr (.inr (.inr (.inr (pcs)))))) :: (a5, .inl (cI, 80, .inl (fs))) :: (a6, .inl (cI, 80, .inl ((rch cover x y S).1))) :: (a7, .inl (cI, 80, .inl ((rch cover x y S).2.1))) :: Z)) 0 0 := by
  refine gM_of (by decide +kernel) rfl (Nat.le_of_ble_eq_true rfl) ?_
  intro p e s m args below meth c A Q hin C hQ
  refine g_sub [0, 1, 2, 3] (lv' := [(0, .ref h), (1, .int x), (2, .int y), (3, .int (nI S.2.2))]) rfl ?_
  refine g_iload_n C dX1_reach_0 rfl 1 rfl ?_
  refine g_iload_n C dX1_reach_1 rfl 2 rfl ?_
  refine g_callS (As := [.int x, .int y]) (rest := []) C (c_X1_cellOf l D tys ((h, .inr (1, [.ref a1, .ref a2, .ref a3, .ref a4, .int (nI np), .int (nI hr), .ref a5, .ref a6, .ref a7])) :: (a1, .inl (cI, 80, .inl (wet))) :: (a2, .inl (cI, 80, .inl (cover))) :: (a3, .inl (cI, 8, .inl (sun))) :: (a4, .inl (cP, 100, .inr (.inr (.inr (.inr (pcs)))))) :: (a5, .inl (cI, 80, .inl (fs))) :: (a6, .inl (cI, 80, .inl (S.1))) :: (a7, .inl (cI, 80, .inl (S.2.1))) :: Z) x y) (va_cwS 2 C.ts gX1_reach_X1_cellOf rfl rfl rfl (by decide +kernel) ⟨(Nat.le_of_ble_eq_true rfl), (Nat.le_of_ble_eq_true rfl)⟩) rfl rfl (Nat.le_of_ble_eq_true rfl) dX1_reach_2 (Nat.le_of_ble_eq_true rfl) (Nat.le_of_ble_eq_true rfl) (g_is (x := .int (10 * y + x)) (W1 := ((h, .inr (1, [.ref a1, .ref a2, .ref a3, .ref a4, .int (nI np), .int (nI hr), .ref a5, .ref a6, .ref a7])) :: (a1, .inl (cI, 80, .inl (wet))) :: (a2, .inl (cI, 80, .inl (cover))) :: (a3, .inl (cI, 8, .inl (sun))) :: (a4, .inl (cP, 100, .inr (.inr (.inr (.inr (pcs)))))) :: (a5, .inl (cI, 80, .inl (fs))) :: (a6, .inl (cI, 80, .inl (S.1))) :: (a7, .inl (cI, 80, .inl (S.2.1))) :: Z)) ?_)
  refine g_istore (lv' := [(4, .int (10 * y + x)), (0, .ref h), (1, .int x), (2, .int y), (3, .int (nI S.2.2))]) C dX1_reach_5 (by decide) rfl ?_
  refine g_iload_n C dX1_reach_7 rfl 2 rfl ?_
  refine g_iload_n C dX1_reach_8 rfl 3 rfl ?_
  refine g_callS (As := [.int x, .int y]) (rest := []) C (c_X1_isOnWall l D tys ((h, .inr (1, [.ref a1, .ref a2, .ref a3, .ref a4, .int (nI np), .int (nI hr), .ref a5, .ref a6, .ref a7])) :: (a1, .inl (cI, 80, .inl (wet))) :: (a2, .inl (cI, 80, .inl (cover))) :: (a3, .inl (cI, 8, .inl (sun))) :: (a4, .inl (cP, 100, .inr (.inr (.inr (.inr (pcs)))))) :: (a5, .inl (cI, 80, .inl (fs))) :: (a6, .inl (cI, 80, .inl (S.1))) :: (a7, .inl (cI, 80, .inl (S.2.1))) :: Z) x y) (va_cwS 2 C.ts gX1_reach_X1_isOnWall rfl rfl rfl (by decide +kernel) ⟨(Nat.le_of_ble_eq_true rfl), (Nat.le_of_ble_eq_true rfl)⟩) rfl rfl (Nat.le_of_ble_eq_true rfl) dX1_reach_9 (Nat.le_of_ble_eq_true rfl) (Nat.le_of_ble_eq_true rfl) (g_is (x := .int (gz (onW x y))) (W1 := ((h, .inr (1, [.ref a1, .ref a2, .ref a3, .ref a4, .int (nI np), .int (nI hr), .ref a5, .ref a6, .ref a7])) :: (a1, .inl (cI, 80, .inl (wet))) :: (a2, .inl (cI, 80, .inl (cover))) :: (a3, .inl (cI, 8, .inl (sun))) :: (a4, .inl (cP, 100, .inr (.inr (.inr (.inr (pcs)))))) :: (a5, .inl (cI, 80, .inl (fs))) :: (a6, .inl (cI, 80, .inl (S.1))) :: (a7, .inl (cI, 80, .inl (S.2.1))) :: Z)) ?_)
  refine g_if_eq (tgt := 40) C dX1_reach_12 (by decide) (fun c_1 => ?_) (fun c_1 => ?_)
  · skip
    replace c_1 := gz0.mp c_1
    refine g_iload_n C dX1_reach_40 rfl 4 rfl ?_
    refine g_iret C hQ (Nat.le_of_ble_eq_true rfl) (Nat.le_of_ble_eq_true rfl) dX1_reach_41 ?_
    have e : rch cover x y S = S := by rw [rch, if_neg (by simp [rchT, *])]
    exact ⟨by rw [e], by rw [e]⟩
  · skip
    replace c_1 := gzn.mp c_1
    refine g_aload_n C dX1_reach_15 rfl 1 rfl ?_
    refine g_get (ci := 1) (Cn := RX1) (T := TX1) (N := 9) C k_X1_reach_inX1 gm0 rfl 1 (by decide) k_X1_reach_1 rfl rfl dX1_reach_16 ?_
    refine g_iload C dX1_reach_19 0 rfl ?_
    refine g_callS (As := [.ref a2, .int (10 * y + x)]) (rest := []) C (c_X1_at l D tys cI ht0 ((h, .inr (1, [.ref a1, .ref a2, .ref a3, .ref a4, .int (nI np), .int (nI hr), .ref a5, .ref a6, .ref a7])) :: (a1, .inl (cI, 80, .inl (wet))) :: (a2, .inl (cI, 80, .inl (cover))) :: (a3, .inl (cI, 8, .inl (sun))) :: (a4, .inl (cP, 100, .inr (.inr (.inr (.inr (pcs)))))) :: (a5, .inl (cI, 80, .inl (fs))) :: (a6, .inl (cI, 80, .inl (S.1))) :: (a7, .inl (cI, 80, .inl (S.2.1))) :: Z) a2 80 cover (10 * y + x) (by decide) (by decide) (gmT (gmT gm0))) (va_cwS 2 C.ts gX1_reach_X1_at rfl rfl rfl (by decide +kernel) ⟨(Nat.le_of_ble_eq_true rfl), (Nat.le_of_ble_eq_true rfl)⟩) rfl rfl (Nat.le_of_ble_eq_true rfl) dX1_reach_21 (Nat.le_of_ble_eq_true rfl) (Nat.le_of_ble_eq_true rfl) (g_is (x := .int (atv 80 cover (10 * y + x))) (W1 := ((h, .inr (1, [.ref a1, .ref a2, .ref a3, .ref a4, .int (nI np), .int (nI hr), .ref a5, .ref a6, .ref a7])) :: (a1, .inl (cI, 80, .inl (wet))) :: (a2, .inl (cI, 80, .inl (cover))) :: (a3, .inl (cI, 8, .inl (sun))) :: (a4, .inl (cP, 100, .inr (.inr (.inr (.inr (pcs)))))) :: (a5, .inl (cI, 80, .inl (fs))) :: (a6, .inl (cI, 80, .inl (S.1))) :: (a7, .inl (cI, 80, .inl (S.2.1))) :: Z)) ?_)
    refine g_iconst (v := (-1)) C dX1_reach_24 (by decide) ?_
    refine g_icmp_ne (tgt := 40) C dX1_reach_25 (by decide) (fun c_2 => ?_) (fun c_2 => ?_)
    · skip
      refine g_iload_n C dX1_reach_40 rfl 4 rfl ?_
      refine g_iret C hQ (Nat.le_of_ble_eq_true rfl) (Nat.le_of_ble_eq_true rfl) dX1_reach_41 ?_
      have e : rch cover x y S = S := by rw [rch, if_neg (by simp [rchT, *])]
      exact ⟨by rw [e], by rw [e]⟩
    · skip
      refine g_aload_n C dX1_reach_28 rfl 1 rfl ?_
      refine g_get (ci := 1) (Cn := RX1) (T := TX1) (N := 9) C k_X1_reach_inX1 gm0 rfl 7 (by decide) k_X1_reach_2 rfl rfl dX1_reach_29 ?_
      refine g_iload C dX1_reach_32 0 rfl ?_
      refine g_callS (As := [.ref a6, .int (10 * y + x)]) (rest := []) C (c_X1_at l D tys cI ht0 ((h, .inr (1, [.ref a1, .ref a2, .ref a3, .ref a4, .int (nI np), .int (nI hr), .ref a5, .ref a6, .ref a7])) :: (a1, .inl (cI, 80, .inl (wet))) :: (a2, .inl (cI, 80, .inl (cover))) :: (a3, .inl (cI, 8, .inl (sun))) :: (a4, .inl (cP, 100, .inr (.inr (.inr (.inr (pcs)))))) :: (a5, .inl (cI, 80, .inl (fs))) :: (a6, .inl (cI, 80, .inl (S.1))) :: (a7, .inl (cI, 80, .inl (S.2.1))) :: Z) a6 80 S.1 (10 * y + x) (by decide) (by decide) (gmT (gmT (gmT (gmT (gmT (gmT gm0))))))) (va_cwS 2 C.ts gX1_reach_X1_at rfl rfl rfl (by decide +kernel) ⟨(Nat.le_of_ble_eq_true rfl), (Nat.le_of_ble_eq_true rfl)⟩) rfl rfl (Nat.le_of_ble_eq_true rfl) dX1_reach_34 (Nat.le_of_ble_eq_true rfl) (Nat.le_of_ble_eq_true rfl) (g_is (x := .int (atv 80 S.1 (10 * y + x))) (W1 := ((h, .inr (1, [.ref a1, .ref a2, .ref a3, .ref a4, .int (nI np), .int (nI hr), .ref a5, .ref a6, .ref a7])) :: (a1, .inl (cI, 80, .inl (wet))) :: (a2, .inl (cI, 80, .inl (cover))) :: (a3, .inl (cI, 8, .inl (sun))) :: (a4, .inl (cP, 100, .inr (.inr (.inr (.inr (pcs)))))) :: (a5, .inl (cI, 80, .inl (fs))) :: (a6, .inl (cI, 80, .inl (S.1))) :: (a7, .inl (cI, 80, .inl (S.2.1))) :: Z)) ?_)
      refine g_if_eq (tgt := 42) C dX1_reach_37 (by decide) (fun c_3 => ?_) (fun c_3 => ?_)
      · skip
        refine g_aload_n C dX1_reach_42 rfl 1 rfl ?_
        refine g_get (ci := 1) (Cn := RX1) (T := TX1) (N := 9) C k_X1_reach_inX1 gm0 rfl 7 (by decide) k_X1_reach_2 rfl rfl dX1_reach_43 ?_
        refine g_iload C dX1_reach_46 0 rfl ?_
        refine g_iconst (v := 1) C dX1_reach_48 (by decide) ?_
        refine g_callS (As := [.ref a6, .int (10 * y + x), .int 1]) (rest := []) C (c_X1_put l D tys cI ht0 ((h, .inr (1, [.ref a1, .ref a2, .ref a3, .ref a4, .int (nI np), .int (nI hr), .ref a5, .ref a6, .ref a7])) :: (a1, .inl (cI, 80, .inl (wet))) :: (a2, .inl (cI, 80, .inl (cover))) :: (a3, .inl (cI, 8, .inl (sun))) :: (a4, .inl (cP, 100, .inr (.inr (.inr (.inr (pcs)))))) :: (a5, .inl (cI, 80, .inl (fs))) :: (a6, .inl (cI, 80, .inl (S.1))) :: (a7, .inl (cI, 80, .inl (S.2.1))) :: Z) 6 a6 80 S.1 (10 * y + x) 1 (by decide) (by decide) rfl) (va_cwS 3 C.ts gX1_reach_X1_put rfl rfl rfl (by decide +kernel) ⟨(Nat.le_of_ble_eq_true rfl), (Nat.le_of_ble_eq_true rfl)⟩) rfl rfl (Nat.le_of_ble_eq_true rfl) dX1_reach_49 (Nat.le_of_ble_eq_true rfl) (Nat.le_of_ble_eq_true rfl) (g_isV (W1 := ((h, .inr (1, [.ref a1, .ref a2, .ref a3, .ref a4, .int (nI np), .int (nI hr), .ref a5, .ref a6, .ref a7])) :: (a1, .inl (cI, 80, .inl (wet))) :: (a2, .inl (cI, 80, .inl (cover))) :: (a3, .inl (cI, 8, .inl (sun))) :: (a4, .inl (cP, 100, .inr (.inr (.inr (.inr (pcs)))))) :: (a5, .inl (cI, 80, .inl (fs))) :: (a6, .inl (cI, 80, .inl (putv 80 S.1 (10 * y + x) 1))) :: (a7, .inl (cI, 80, .inl (S.2.1))) :: Z)) ?_)
        refine g_aload_n C dX1_reach_52 rfl 1 rfl ?_
        refine g_get (ci := 1) (Cn := RX1) (T := TX1) (N := 9) C k_X1_reach_inX1 gm0 rfl 8 (by decide) k_X1_reach_3 rfl rfl dX1_reach_53 ?_
        refine g_iload_n C dX1_reach_56 rfl 4 rfl ?_
        refine g_iload C dX1_reach_57 0 rfl ?_
        refine g_callS (As := [.ref a7, .int (nI S.2.2), .int (10 * y + x)]) (rest := []) C (c_X1_put l D tys cI ht0 ((h, .inr (1, [.ref a1, .ref a2, .ref a3, .ref a4, .int (nI np), .int (nI hr), .ref a5, .ref a6, .ref a7])) :: (a1, .inl (cI, 80, .inl (wet))) :: (a2, .inl (cI, 80, .inl (cover))) :: (a3, .inl (cI, 8, .inl (sun))) :: (a4, .inl (cP, 100, .inr (.inr (.inr (.inr (pcs)))))) :: (a5, .inl (cI, 80, .inl (fs))) :: (a6, .inl (cI, 80, .inl (putv 80 S.1 (10 * y + x) 1))) :: (a7, .inl (cI, 80, .inl (S.2.1))) :: Z) 7 a7 80 S.2.1 (nI S.2.2) (10 * y + x) (by decide) (by decide) rfl) (va_cwS 3 C.ts gX1_reach_X1_put rfl rfl rfl (by decide +kernel) ⟨(Nat.le_of_ble_eq_true rfl), (Nat.le_of_ble_eq_true rfl)⟩) rfl rfl (Nat.le_of_ble_eq_true rfl) dX1_reach_59 (Nat.le_of_ble_eq_true rfl) (Nat.le_of_ble_eq_true rfl) (g_isV (W1 := ((h, .inr (1, [.ref a1, .ref a2, .ref a3, .ref a4, .int (nI np), .int (nI hr), .ref a5, .ref a6, .ref a7])) :: (a1, .inl (cI, 80, .inl (wet))) :: (a2, .inl (cI, 80, .inl (cover))) :: (a3, .inl (cI, 8, .inl (sun))) :: (a4, .inl (cP, 100, .inr (.inr (.inr (.inr (pcs)))))) :: (a5, .inl (cI, 80, .inl (fs))) :: (a6, .inl (cI, 80, .inl (putv 80 S.1 (10 * y + x) 1))) :: (a7, .inl (cI, 80, .inl (putv 80 S.2.1 (nI S.2.2) (10 * y + x)))) :: Z)) ?_)
        refine g_iload_n C dX1_reach_62 rfl 4 rfl ?_
        refine g_iconst (v := 1) C dX1_reach_63 (by decide) ?_
        refine g_iadd C dX1_reach_64 ?_
        refine g_eqi (x := (nI S.2.2) + 1) (y := nI (S.2.2 + 1)) (nI_add _ 1) ?_
        refine g_iret C hQ (Nat.le_of_ble_eq_true rfl) (Nat.le_of_ble_eq_true rfl) dX1_reach_65 ?_
        have e : rch cover x y S = (putv 80 S.1 (10 * y + x) 1, putv 80 S.2.1 (nI S.2.2) (10 * y + x), S.2.2 + 1) := by rw [rch, if_pos (by simp [rchT, *])]
        exact ⟨by rw [e], by rw [e]⟩
      · skip
        refine g_iload_n C dX1_reach_40 rfl 4 rfl ?_
        refine g_iret C hQ (Nat.le_of_ble_eq_true rfl) (Nat.le_of_ble_eq_true rfl) dX1_reach_41 ?_
        have e : rch cover x y S = S := by rw [rch, if_neg (by simp [rchT, *])]
        exact ⟨by rw [e], by rw [e]⟩

theorem k_X1_markGap_inX1 : ∀ w ∈ wsX10, w ∈ wsX1_markGap := by decide +kernel
theorem k_X1_markGap_1 : Cond.fieldLink RX1 31 "WetMosaic" "found" "[I" ∈ wsX1_markGap := by decide +kernel
set_option maxHeartbeats 4000000 in
set_option maxRecDepth 100000 in
theorem c_X1_markGap (l : Launch) (D : va_G) (tys : List (ClassId × FieldType)) (cI cP : ClassId) (ht0 : tys[0]? = some (cI, .int)) (h a1 a2 a3 a4 a5 a6 a7 np hr : Nat) (wet cover sun fs mk fd : Nat → Int32) (pcs : Nat → Option Nat) (Z : va_W) (x y : Int32) : gM l yX1_markGap wsX1_markGap ({ frames := 3, cells := 0, slots := 0, locals := 68 } : Room) D tys [.ref h, .int x, .int y] ((h, .inr (1, [.ref a1, .ref a2, .ref a3, .ref a4, .int (nI np), .int (nI hr), .ref a5, .ref a6, .ref a7])) :: (a1, .inl (cI, 80, .inl (wet))) :: (a2, .inl (cI, 80, .inl (cover))) :: (a3, .inl (cI, 8, .inl (sun))) :: (a4, .inl (cP, 100, .inr (.inr (.inr (.inr (pcs)))))) :: (a5, .inl (cI, 80, .inl (fs))) :: (a6, .inl (cI, 80, .inl (mk))) :: (a7, .inl (cI, 80, .inl (fd))) :: Z) (gIs (some (.int (nI (mgp cover x y mk fd).2.2))) ((h, .inr (1, [.ref a1, .ref a2, .ref a3, .ref a4, .int (nI np), .int (nI hr), .ref a5, .ref a6, .ref a7])) :: (a1, .inl (cI, 80, .inl (wet))) :: (a2, .inl (cI, 80, .inl (cover))) :: (a3, .inl (cI, 8, .inl (sun))) :: (a4, .inl (cP, 100, .inr (.inr (.inr (.inr (pcs)))))) :: (a5, .inl (cI, 80, .inl (fs))) :: (a6, .inl (cI, 80, .inl ((mgp cover x y mk fd).1))) :: (a7, .inl (cI, 80, .inl ((mgp cover x y mk fd).2.1))) :: Z)) 0 0 := by
  refine gM_of (by decide +kernel) rfl (Nat.le_of_ble_eq_true rfl) ?_
  intro p e s m args below meth c A Q hin C hQ
  refine g_sub [0, 1, 2] (lv' := [(0, .ref h), (1, .int x), (2, .int y)]) rfl ?_
  refine g_aload_n C dX1_markGap_0 rfl 0 rfl ?_
  refine g_iload_n C dX1_markGap_1 rfl 1 rfl ?_
  refine g_iload_n C dX1_markGap_2 rfl 2 rfl ?_
  refine g_iconst (v := 0) C dX1_markGap_3 (by decide) ?_
  refine g_callV (ci := 1) (Cn := RX1) (As := [.int x, .int y, .int 0]) (rest := []) C gm0 rfl rfl (c_X1_reach l D tys cI cP ht0 h a1 a2 a3 a4 a5 a6 a7 np hr wet cover sun fs pcs Z ((mk, fd, 0) : Sg) x y) (cwV 3 C.ts gX1_markGap_X1_reach rfl rfl rfl (by decide +kernel) ⟨(Nat.le_of_ble_eq_true rfl), (Nat.le_of_ble_eq_true rfl)⟩) rfl rfl (Nat.le_of_ble_eq_true rfl) dX1_markGap_4 (Nat.le_of_ble_eq_true rfl) (Nat.le_of_ble_eq_true rfl) (g_is (x := .int (nI (rch cover x y ((mk, fd, 0) : Sg)).2.2)) (W1 := ((h, .inr (1, [.ref a1, .ref a2, .ref a3, .ref a4, .int (nI np), .int (nI hr), .ref a5, .ref a6, .ref a7])) :: (a1, .inl (cI, 80, .inl (wet))) :: (a2, .inl (cI, 80, .inl (cover))) :: (a3, .inl (cI, 8, .inl (sun))) :: (a4, .inl (cP, 100, .inr (.inr (.inr (.inr (pcs)))))) :: (a5, .inl (cI, 80, .inl (fs))) :: (a6, .inl (cI, 80, .inl ((rch cover x y ((mk, fd, 0) : Sg)).1))) :: (a7, .inl (cI, 80, .inl ((rch cover x y ((mk, fd, 0) : Sg)).2.1))) :: Z)) ?_)
  refine g_istore_n (lv' := [(3, .int (nI (rch cover x y ((mk, fd, 0) : Sg)).2.2)), (0, .ref h), (1, .int x), (2, .int y)]) C dX1_markGap_7 rfl (by decide) rfl ?_
  refine g_iconst (v := 0) C dX1_markGap_8 (by decide) ?_
  refine g_istore (lv' := [(4, .int 0), (3, .int (nI (rch cover x y ((mk, fd, 0) : Sg)).2.2)), (0, .ref h), (1, .int x), (2, .int y)]) C dX1_markGap_9 (by decide) rfl ?_
  have lp11 : ∀ (n9 : Nat) (i : Nat) (S : Sg) (hT : mgL cover (81 - i) i S = mgp cover x y mk fd) (hb : S.2.2 ≤ 4 * i + 1) (hi : i ≤ 80) (hn : 81 ≤ i + n9), G p l e ({ frames := 3, cells := 0, slots := 0, locals := 68 } : Room) s m args below meth c D A s.heap 6 0 0 Q 11 [(0, .ref h), (1, .int x), (2, .int y), (3, .int (nI S.2.2)), (4, .int (nI i))] [] ((h, .inr (1, [.ref a1, .ref a2, .ref a3, .ref a4, .int (nI np), .int (nI hr), .ref a5, .ref a6, .ref a7])) :: (a1, .inl (cI, 80, .inl (wet))) :: (a2, .inl (cI, 80, .inl (cover))) :: (a3, .inl (cI, 8, .inl (sun))) :: (a4, .inl (cP, 100, .inr (.inr (.inr (.inr (pcs)))))) :: (a5, .inl (cI, 80, .inl (fs))) :: (a6, .inl (cI, 80, .inl (S.1))) :: (a7, .inl (cI, 80, .inl (S.2.1))) :: Z) := by
    intro n9
    induction n9 with
    | zero =>
      intro i S hT hb hi hn
      exfalso; omega
    | succ n9 ih =>
      intro i S hT hb hi hn
      refine g_iload C dX1_markGap_11 4 rfl ?_
      refine g_iload_n C dX1_markGap_13 rfl 3 rfl ?_
      refine g_icmp_ge (tgt := 111) C dX1_markGap_14 (by decide) (fun c_1 => ?_) (fun c_1 => ?_)
      · skip
        rw [nI_leI (by omega) (by omega)] at c_1
        refine g_iload_n C dX1_markGap_111 rfl 3 rfl ?_
        refine g_iret C hQ (Nat.le_of_ble_eq_true rfl) (Nat.le_of_ble_eq_true rfl) dX1_markGap_112 ?_
        have e : S = mgp cover x y mk fd := by rw [← hT]; exact (mgL_end hi (by omega)).symm
        exact ⟨by rw [e], by rw [e]⟩
      · skip
        rw [nI_leI (by omega) (by omega)] at c_1
        refine g_iload C dX1_markGap_17 4 rfl ?_
        refine g_bipush (v := 80) C dX1_markGap_19 (by decide) ?_
        refine g_icmp_ge (tgt := 111) C dX1_markGap_21 (by decide) (fun c_2 => ?_) (fun c_2 => ?_)
        · skip
          rw [show (80 : Int32) = nI 80 from rfl, nI_leI (by omega) (by omega)] at c_2
          refine g_iload_n C dX1_markGap_111 rfl 3 rfl ?_
          refine g_iret C hQ (Nat.le_of_ble_eq_true rfl) (Nat.le_of_ble_eq_true rfl) dX1_markGap_112 ?_
          have e : S = mgp cover x y mk fd := by rw [← hT]; exact (mgL_end hi (by omega)).symm
          exact ⟨by rw [e], by rw [e]⟩
        · skip
          rw [show (80 : Int32) = nI 80 from rfl, nI_leI (by omega) (by omega)] at c_2
          refine g_aload_n C dX1_markGap_24 rfl 0 rfl ?_
          refine g_get (ci := 1) (Cn := RX1) (T := TX1) (N := 9) C k_X1_markGap_inX1 gm0 rfl 8 (by decide) k_X1_markGap_1 rfl rfl dX1_markGap_25 ?_
          refine g_iload C dX1_markGap_28 4 rfl ?_
          refine g_iald C 0 (gmT (gmT (gmT (gmT (gmT (gmT (gmT gm0))))))) ht0 (vp_in_nI (by omega) (by omega)) dX1_markGap_30 ?_
          refine g_eqi (x := S.2.1 (nI i).toNatClampNeg) (y := S.2.1 i) (by rw [nI_clamp (by omega)]) ?_
          refine g_istore (lv' := [(5, .int (S.2.1 i)), (0, .ref h), (1, .int x), (2, .int y), (3, .int (nI S.2.2)), (4, .int (nI i))]) C dX1_markGap_31 (by decide) rfl ?_
          refine g_aload_n C dX1_markGap_33 rfl 1 rfl ?_
          refine g_iload C dX1_markGap_34 0 rfl ?_
          refine g_bipush (v := 10) C dX1_markGap_36 (by decide) ?_
          refine g_irem C dX1_markGap_38 (by decide) ?_
          refine g_iconst (v := 1) C dX1_markGap_39 (by decide) ?_
          refine g_isub C dX1_markGap_40 ?_
          refine g_iload C dX1_markGap_41 0 rfl ?_
          refine g_bipush (v := 10) C dX1_markGap_43 (by decide) ?_
          refine g_idiv C dX1_markGap_45 (by decide) ?_
          refine g_iload_n C dX1_markGap_46 rfl 4 rfl ?_
          refine g_callV (ci := 1) (Cn := RX1) (As := [.int (((S.2.1 i) - (S.2.1 i) / 10 * 10) - 1), .int ((S.2.1 i) / 10), .int (nI S.2.2)]) (rest := []) C gm0 rfl rfl (c_X1_reach l D tys cI cP ht0 h a1 a2 a3 a4 a5 a6 a7 np hr wet cover sun fs pcs Z S (((S.2.1 i) - (S.2.1 i) / 10 * 10) - 1) ((S.2.1 i) / 10)) (cwV 3 C.ts gX1_markGap_X1_reach rfl rfl rfl (by decide +kernel) ⟨(Nat.le_of_ble_eq_true rfl), (Nat.le_of_ble_eq_true rfl)⟩) rfl rfl (Nat.le_of_ble_eq_true rfl) dX1_markGap_47 (Nat.le_of_ble_eq_true rfl) (Nat.le_of_ble_eq_true rfl) (g_is (x := .int (nI (rch cover (((S.2.1 i) - (S.2.1 i) / 10 * 10) - 1) ((S.2.1 i) / 10) S).2.2)) (W1 := ((h, .inr (1, [.ref a1, .ref a2, .ref a3, .ref a4, .int (nI np), .int (nI hr), .ref a5, .ref a6, .ref a7])) :: (a1, .inl (cI, 80, .inl (wet))) :: (a2, .inl (cI, 80, .inl (cover))) :: (a3, .inl (cI, 8, .inl (sun))) :: (a4, .inl (cP, 100, .inr (.inr (.inr (.inr (pcs)))))) :: (a5, .inl (cI, 80, .inl (fs))) :: (a6, .inl (cI, 80, .inl ((rch cover (((S.2.1 i) - (S.2.1 i) / 10 * 10) - 1) ((S.2.1 i) / 10) S).1))) :: (a7, .inl (cI, 80, .inl ((rch cover (((S.2.1 i) - (S.2.1 i) / 10 * 10) - 1) ((S.2.1 i) / 10) S).2.1))) :: Z)) ?_)
          refine g_istore_n (lv' := [(3, .int (nI (rch cover (((S.2.1 i) - (S.2.1 i) / 10 * 10) - 1) ((S.2.1 i) / 10) S).2.2)), (5, .int (S.2.1 i)), (0, .ref h), (1, .int x), (2, .int y), (4, .int (nI i))]) C dX1_markGap_50 rfl (by decide) rfl ?_
          refine g_aload_n C dX1_markGap_51 rfl 2 rfl ?_
          refine g_iload C dX1_markGap_52 1 rfl ?_
          refine g_bipush (v := 10) C dX1_markGap_54 (by decide) ?_
          refine g_irem C dX1_markGap_56 (by decide) ?_
          refine g_iconst (v := 1) C dX1_markGap_57 (by decide) ?_
          refine g_iadd C dX1_markGap_58 ?_
          refine g_iload C dX1_markGap_59 1 rfl ?_
          refine g_bipush (v := 10) C dX1_markGap_61 (by decide) ?_
          refine g_idiv C dX1_markGap_63 (by decide) ?_
          refine g_iload_n C dX1_markGap_64 rfl 0 rfl ?_
          refine g_callV (ci := 1) (Cn := RX1) (As := [.int (((S.2.1 i) - (S.2.1 i) / 10 * 10) + 1), .int ((S.2.1 i) / 10), .int (nI (rch cover (((S.2.1 i) - (S.2.1 i) / 10 * 10) - 1) ((S.2.1 i) / 10) S).2.2)]) (rest := []) C gm0 rfl rfl (c_X1_reach l D tys cI cP ht0 h a1 a2 a3 a4 a5 a6 a7 np hr wet cover sun fs pcs Z (rch cover (((S.2.1 i) - (S.2.1 i) / 10 * 10) - 1) ((S.2.1 i) / 10) S) (((S.2.1 i) - (S.2.1 i) / 10 * 10) + 1) ((S.2.1 i) / 10)) (cwV 3 C.ts gX1_markGap_X1_reach rfl rfl rfl (by decide +kernel) ⟨(Nat.le_of_ble_eq_true rfl), (Nat.le_of_ble_eq_true rfl)⟩) rfl rfl (Nat.le_of_ble_eq_true rfl) dX1_markGap_65 (Nat.le_of_ble_eq_true rfl) (Nat.le_of_ble_eq_true rfl) (g_is (x := .int (nI (rch cover (((S.2.1 i) - (S.2.1 i) / 10 * 10) + 1) ((S.2.1 i) / 10) (rch cover (((S.2.1 i) - (S.2.1 i) / 10 * 10) - 1) ((S.2.1 i) / 10) S)).2.2)) (W1 := ((h, .inr (1, [.ref a1, .ref a2, .ref a3, .ref a4, .int (nI np), .int (nI hr), .ref a5, .ref a6, .ref a7])) :: (a1, .inl (cI, 80, .inl (wet))) :: (a2, .inl (cI, 80, .inl (cover))) :: (a3, .inl (cI, 8, .inl (sun))) :: (a4, .inl (cP, 100, .inr (.inr (.inr (.inr (pcs)))))) :: (a5, .inl (cI, 80, .inl (fs))) :: (a6, .inl (cI, 80, .inl ((rch cover (((S.2.1 i) - (S.2.1 i) / 10 * 10) + 1) ((S.2.1 i) / 10) (rch cover (((S.2.1 i) - (S.2.1 i) / 10 * 10) - 1) ((S.2.1 i) / 10) S)).1))) :: (a7, .inl (cI, 80, .inl ((rch cover (((S.2.1 i) - (S.2.1 i) / 10 * 10) + 1) ((S.2.1 i) / 10) (rch cover (((S.2.1 i) - (S.2.1 i) / 10 * 10) - 1) ((S.2.1 i) / 10) S)).2.1))) :: Z)) ?_)
          refine g_istore_n (lv' := [(3, .int (nI (rch cover (((S.2.1 i) - (S.2.1 i) / 10 * 10) + 1) ((S.2.1 i) / 10) (rch cover (((S.2.1 i) - (S.2.1 i) / 10 * 10) - 1) ((S.2.1 i) / 10) S)).2.2)), (5, .int (S.2.1 i)), (0, .ref h), (1, .int x), (2, .int y), (4, .int (nI i))]) C dX1_markGap_68 rfl (by decide) rfl ?_
          refine g_aload_n C dX1_markGap_69 rfl 2 rfl ?_
          refine g_iload C dX1_markGap_70 1 rfl ?_
          refine g_bipush (v := 10) C dX1_markGap_72 (by decide) ?_
          refine g_irem C dX1_markGap_74 (by decide) ?_
          refine g_iload C dX1_markGap_75 1 rfl ?_
          refine g_bipush (v := 10) C dX1_markGap_77 (by decide) ?_
          refine g_idiv C dX1_markGap_79 (by decide) ?_
          refine g_iconst (v := 1) C dX1_markGap_80 (by decide) ?_
          refine g_isub C dX1_markGap_81 ?_
          refine g_iload_n C dX1_markGap_82 rfl 0 rfl ?_
          refine g_callV (ci := 1) (Cn := RX1) (As := [.int ((S.2.1 i) - (S.2.1 i) / 10 * 10), .int (((S.2.1 i) / 10) - 1), .int (nI (rch cover (((S.2.1 i) - (S.2.1 i) / 10 * 10) + 1) ((S.2.1 i) / 10) (rch cover (((S.2.1 i) - (S.2.1 i) / 10 * 10) - 1) ((S.2.1 i) / 10) S)).2.2)]) (rest := []) C gm0 rfl rfl (c_X1_reach l D tys cI cP ht0 h a1 a2 a3 a4 a5 a6 a7 np hr wet cover sun fs pcs Z (rch cover (((S.2.1 i) - (S.2.1 i) / 10 * 10) + 1) ((S.2.1 i) / 10) (rch cover (((S.2.1 i) - (S.2.1 i) / 10 * 10) - 1) ((S.2.1 i) / 10) S)) ((S.2.1 i) - (S.2.1 i) / 10 * 10) (((S.2.1 i) / 10) - 1)) (cwV 3 C.ts gX1_markGap_X1_reach rfl rfl rfl (by decide +kernel) ⟨(Nat.le_of_ble_eq_true rfl), (Nat.le_of_ble_eq_true rfl)⟩) rfl rfl (Nat.le_of_ble_eq_true rfl) dX1_markGap_83 (Nat.le_of_ble_eq_true rfl) (Nat.le_of_ble_eq_true rfl) (g_is (x := .int (nI (rch cover ((S.2.1 i) - (S.2.1 i) / 10 * 10) (((S.2.1 i) / 10) - 1) (rch cover (((S.2.1 i) - (S.2.1 i) / 10 * 10) + 1) ((S.2.1 i) / 10) (rch cover (((S.2.1 i) - (S.2.1 i) / 10 * 10) - 1) ((S.2.1 i) / 10) S))).2.2)) (W1 := ((h, .inr (1, [.ref a1, .ref a2, .ref a3, .ref a4, .int (nI np), .int (nI hr), .ref a5, .ref a6, .ref a7])) :: (a1, .inl (cI, 80, .inl (wet))) :: (a2, .inl (cI, 80, .inl (cover))) :: (a3, .inl (cI, 8, .inl (sun))) :: (a4, .inl (cP, 100, .inr (.inr (.inr (.inr (pcs)))))) :: (a5, .inl (cI, 80, .inl (fs))) :: (a6, .inl (cI, 80, .inl ((rch cover ((S.2.1 i) - (S.2.1 i) / 10 * 10) (((S.2.1 i) / 10) - 1) (rch cover (((S.2.1 i) - (S.2.1 i) / 10 * 10) + 1) ((S.2.1 i) / 10) (rch cover (((S.2.1 i) - (S.2.1 i) / 10 * 10) - 1) ((S.2.1 i) / 10) S))).1))) :: (a7, .inl (cI, 80, .inl ((rch cover ((S.2.1 i) - (S.2.1 i) / 10 * 10) (((S.2.1 i) / 10) - 1) (rch cover (((S.2.1 i) - (S.2.1 i) / 10 * 10) + 1) ((S.2.1 i) / 10) (rch cover (((S.2.1 i) - (S.2.1 i) / 10 * 10) - 1) ((S.2.1 i) / 10) S))).2.1))) :: Z)) ?_)
          refine g_istore_n (lv' := [(3, .int (nI (rch cover ((S.2.1 i) - (S.2.1 i) / 10 * 10) (((S.2.1 i) / 10) - 1) (rch cover (((S.2.1 i) - (S.2.1 i) / 10 * 10) + 1) ((S.2.1 i) / 10) (rch cover (((S.2.1 i) - (S.2.1 i) / 10 * 10) - 1) ((S.2.1 i) / 10) S))).2.2)), (5, .int (S.2.1 i)), (0, .ref h), (1, .int x), (2, .int y), (4, .int (nI i))]) C dX1_markGap_86 rfl (by decide) rfl ?_
          refine g_aload_n C dX1_markGap_87 rfl 2 rfl ?_
          refine g_iload C dX1_markGap_88 1 rfl ?_
          refine g_bipush (v := 10) C dX1_markGap_90 (by decide) ?_
          refine g_irem C dX1_markGap_92 (by decide) ?_
          refine g_iload C dX1_markGap_93 1 rfl ?_
          refine g_bipush (v := 10) C dX1_markGap_95 (by decide) ?_
          refine g_idiv C dX1_markGap_97 (by decide) ?_
          refine g_iconst (v := 1) C dX1_markGap_98 (by decide) ?_
          refine g_iadd C dX1_markGap_99 ?_
          refine g_iload_n C dX1_markGap_100 rfl 0 rfl ?_
          refine g_callV (ci := 1) (Cn := RX1) (As := [.int ((S.2.1 i) - (S.2.1 i) / 10 * 10), .int (((S.2.1 i) / 10) + 1), .int (nI (rch cover ((S.2.1 i) - (S.2.1 i) / 10 * 10) (((S.2.1 i) / 10) - 1) (rch cover (((S.2.1 i) - (S.2.1 i) / 10 * 10) + 1) ((S.2.1 i) / 10) (rch cover (((S.2.1 i) - (S.2.1 i) / 10 * 10) - 1) ((S.2.1 i) / 10) S))).2.2)]) (rest := []) C gm0 rfl rfl (c_X1_reach l D tys cI cP ht0 h a1 a2 a3 a4 a5 a6 a7 np hr wet cover sun fs pcs Z (rch cover ((S.2.1 i) - (S.2.1 i) / 10 * 10) (((S.2.1 i) / 10) - 1) (rch cover (((S.2.1 i) - (S.2.1 i) / 10 * 10) + 1) ((S.2.1 i) / 10) (rch cover (((S.2.1 i) - (S.2.1 i) / 10 * 10) - 1) ((S.2.1 i) / 10) S))) ((S.2.1 i) - (S.2.1 i) / 10 * 10) (((S.2.1 i) / 10) + 1)) (cwV 3 C.ts gX1_markGap_X1_reach rfl rfl rfl (by decide +kernel) ⟨(Nat.le_of_ble_eq_true rfl), (Nat.le_of_ble_eq_true rfl)⟩) rfl rfl (Nat.le_of_ble_eq_true rfl) dX1_markGap_101 (Nat.le_of_ble_eq_true rfl) (Nat.le_of_ble_eq_true rfl) (g_is (x := .int (nI (rch cover ((S.2.1 i) - (S.2.1 i) / 10 * 10) (((S.2.1 i) / 10) + 1) (rch cover ((S.2.1 i) - (S.2.1 i) / 10 * 10) (((S.2.1 i) / 10) - 1) (rch cover (((S.2.1 i) - (S.2.1 i) / 10 * 10) + 1) ((S.2.1 i) / 10) (rch cover (((S.2.1 i) - (S.2.1 i) / 10 * 10) - 1) ((S.2.1 i) / 10) S)))).2.2)) (W1 := ((h, .inr (1, [.ref a1, .ref a2, .ref a3, .ref a4, .int (nI np), .int (nI hr), .ref a5, .ref a6, .ref a7])) :: (a1, .inl (cI, 80, .inl (wet))) :: (a2, .inl (cI, 80, .inl (cover))) :: (a3, .inl (cI, 8, .inl (sun))) :: (a4, .inl (cP, 100, .inr (.inr (.inr (.inr (pcs)))))) :: (a5, .inl (cI, 80, .inl (fs))) :: (a6, .inl (cI, 80, .inl ((rch cover ((S.2.1 i) - (S.2.1 i) / 10 * 10) (((S.2.1 i) / 10) + 1) (rch cover ((S.2.1 i) - (S.2.1 i) / 10 * 10) (((S.2.1 i) / 10) - 1) (rch cover (((S.2.1 i) - (S.2.1 i) / 10 * 10) + 1) ((S.2.1 i) / 10) (rch cover (((S.2.1 i) - (S.2.1 i) / 10 * 10) - 1) ((S.2.1 i) / 10) S)))).1))) :: (a7, .inl (cI, 80, .inl ((rch cover ((S.2.1 i) - (S.2.1 i) / 10 * 10) (((S.2.1 i) / 10) + 1) (rch cover ((S.2.1 i) - (S.2.1 i) / 10 * 10) (((S.2.1 i) / 10) - 1) (rch cover (((S.2.1 i) - (S.2.1 i) / 10 * 10) + 1) ((S.2.1 i) / 10) (rch cover (((S.2.1 i) - (S.2.1 i) / 10 * 10) - 1) ((S.2.1 i) / 10) S)))).2.1))) :: Z)) ?_)
          refine g_istore_n (lv' := [(3, .int (nI (rch cover ((S.2.1 i) - (S.2.1 i) / 10 * 10) (((S.2.1 i) / 10) + 1) (rch cover ((S.2.1 i) - (S.2.1 i) / 10 * 10) (((S.2.1 i) / 10) - 1) (rch cover (((S.2.1 i) - (S.2.1 i) / 10 * 10) + 1) ((S.2.1 i) / 10) (rch cover (((S.2.1 i) - (S.2.1 i) / 10 * 10) - 1) ((S.2.1 i) / 10) S)))).2.2)), (5, .int (S.2.1 i)), (0, .ref h), (1, .int x), (2, .int y), (4, .int (nI i))]) C dX1_markGap_104 rfl (by decide) rfl ?_
          refine g_iinc (v := nI (i + 1)) (lv' := [(4, .int (nI (i + 1))), (3, .int (nI (rch cover ((S.2.1 i) - (S.2.1 i) / 10 * 10) (((S.2.1 i) / 10) + 1) (rch cover ((S.2.1 i) - (S.2.1 i) / 10 * 10) (((S.2.1 i) / 10) - 1) (rch cover (((S.2.1 i) - (S.2.1 i) / 10 * 10) + 1) ((S.2.1 i) / 10) (rch cover (((S.2.1 i) - (S.2.1 i) / 10 * 10) - 1) ((S.2.1 i) / 10) S)))).2.2)), (5, .int (S.2.1 i)), (0, .ref h), (1, .int x), (2, .int y)]) C dX1_markGap_105 5 rfl (by exact nI_add _ 1) (by decide) rfl ?_
          refine g_goto (tgt := 11) C dX1_markGap_108 (by decide) ?_
          refine g_sub [3, 4, 5, 1, 0] (lv' := [(0, .ref h), (1, .int x), (2, .int y), (3, .int (nI (rch cover ((S.2.1 i) - (S.2.1 i) / 10 * 10) (((S.2.1 i) / 10) + 1) (rch cover ((S.2.1 i) - (S.2.1 i) / 10 * 10) (((S.2.1 i) / 10) - 1) (rch cover (((S.2.1 i) - (S.2.1 i) / 10 * 10) + 1) ((S.2.1 i) / 10) (rch cover (((S.2.1 i) - (S.2.1 i) / 10 * 10) - 1) ((S.2.1 i) / 10) S)))).2.2)), (4, .int (nI (i + 1)))]) rfl ?_
          have hm := mg1_n cover (S.2.1 i) S
          exact ih (i + 1) (mg1 cover (S.2.1 i) S) (by rw [← mgL_step (by omega) (by omega)]; exact hT) (by omega) (by omega) (by omega)
  refine g_sub [2, 3, 4, 1, 0] (lv' := [(0, .ref h), (1, .int x), (2, .int y), (3, .int (nI (rch cover x y ((mk, fd, 0) : Sg)).2.2)), (4, .int 0)]) rfl ?_
  have hm := rch_n cover x y ((mk, fd, 0) : Sg)
  exact lp11 81 0 (rch cover x y ((mk, fd, 0) : Sg)) rfl (by have : ((mk, fd, 0) : Sg).2.2 = 0 := rfl; omega) (by omega) (by omega)

set_option maxHeartbeats 4000000 in
set_option maxRecDepth 100000 in
theorem c_X1_gaps (l : Launch) (D : va_G) (tys : List (ClassId × FieldType)) (cI cP : ClassId) (ht0 : tys[0]? = some (cI, .int)) (h a1 a2 a3 a4 a5 a6 a7 np hr : Nat) (wet cover sun fs mk fd : Nat → Int32) (pcs : Nat → Option Nat) (Z : va_W) : gM l yX1_gaps wsX1_gaps ({ frames := 4, cells := 0, slots := 0, locals := 93 } : Room) D tys [.ref h] ((h, .inr (1, [.ref a1, .ref a2, .ref a3, .ref a4, .int (nI np), .int (nI hr), .ref a5, .ref a6, .ref a7])) :: (a1, .inl (cI, 80, .inl (wet))) :: (a2, .inl (cI, 80, .inl (cover))) :: (a3, .inl (cI, 8, .inl (sun))) :: (a4, .inl (cP, 100, .inr (.inr (.inr (.inr (pcs)))))) :: (a5, .inl (cI, 80, .inl (fs))) :: (a6, .inl (cI, 80, .inl (mk))) :: (a7, .inl (cI, 80, .inl (fd))) :: Z) (gIs (some (.int (nI (gpS cover fd 80).1))) ((h, .inr (1, [.ref a1, .ref a2, .ref a3, .ref a4, .int (nI np), .int (nI hr), .ref a5, .ref a6, .ref a7])) :: (a1, .inl (cI, 80, .inl (wet))) :: (a2, .inl (cI, 80, .inl (cover))) :: (a3, .inl (cI, 8, .inl (sun))) :: (a4, .inl (cP, 100, .inr (.inr (.inr (.inr (pcs)))))) :: (a5, .inl (cI, 80, .inl (fs))) :: (a6, .inl (cI, 80, .inl ((gpS cover fd 80).2.1))) :: (a7, .inl (cI, 80, .inl ((gpS cover fd 80).2.2))) :: Z)) 0 0 := by
  refine gM_of (by decide +kernel) rfl (Nat.le_of_ble_eq_true rfl) ?_
  intro p e s m args below meth c A Q hin C hQ
  refine g_sub [0] (lv' := [(0, .ref h)]) rfl ?_
  refine g_aload_n C dX1_gaps_0 rfl 0 rfl ?_
  refine g_callV (ci := 1) (Cn := RX1) (As := []) (rest := []) C gm0 rfl rfl (c_X1_clearMarks l D tys cI cP ht0 h a1 a2 a3 a4 a5 a6 a7 np hr wet cover sun fs mk fd pcs Z) (cwV 0 C.ts gX1_gaps_X1_clearMarks rfl rfl rfl (by decide +kernel) ⟨(Nat.le_of_ble_eq_true rfl), (Nat.le_of_ble_eq_true rfl)⟩) rfl rfl (Nat.le_of_ble_eq_true rfl) dX1_gaps_1 (Nat.le_of_ble_eq_true rfl) (Nat.le_of_ble_eq_true rfl) (g_isV (W1 := ((h, .inr (1, [.ref a1, .ref a2, .ref a3, .ref a4, .int (nI np), .int (nI hr), .ref a5, .ref a6, .ref a7])) :: (a1, .inl (cI, 80, .inl (wet))) :: (a2, .inl (cI, 80, .inl (cover))) :: (a3, .inl (cI, 8, .inl (sun))) :: (a4, .inl (cP, 100, .inr (.inr (.inr (.inr (pcs)))))) :: (a5, .inl (cI, 80, .inl (fs))) :: (a6, .inl (cI, 80, .inl (fun _ => 0))) :: (a7, .inl (cI, 80, .inl (fd))) :: Z)) ?_)
  refine g_iconst (v := 0) C dX1_gaps_4 (by decide) ?_
  refine g_istore_n (lv' := [(1, .int 0), (0, .ref h)]) C dX1_gaps_5 rfl (by decide) rfl ?_
  refine g_iconst (v := 0) C dX1_gaps_6 (by decide) ?_
  refine g_istore_n (lv' := [(2, .int 0), (1, .int 0), (0, .ref h)]) C dX1_gaps_7 rfl (by decide) rfl ?_
  have lp8 : ∀ (n9 : Nat) (y q : Nat) (hq : q = (gpS cover fd (10 * y)).1) (hi : y ≤ 8) (hn : 9 ≤ y + n9), G p l e ({ frames := 4, cells := 0, slots := 0, locals := 93 } : Room) s m args below meth c D A s.heap 4 0 0 Q 8 [(0, .ref h), (1, .int (nI q)), (2, .int (nI y))] [] ((h, .inr (1, [.ref a1, .ref a2, .ref a3, .ref a4, .int (nI np), .int (nI hr), .ref a5, .ref a6, .ref a7])) :: (a1, .inl (cI, 80, .inl (wet))) :: (a2, .inl (cI, 80, .inl (cover))) :: (a3, .inl (cI, 8, .inl (sun))) :: (a4, .inl (cP, 100, .inr (.inr (.inr (.inr (pcs)))))) :: (a5, .inl (cI, 80, .inl (fs))) :: (a6, .inl (cI, 80, .inl ((gpS cover fd (10 * y)).2.1))) :: (a7, .inl (cI, 80, .inl ((gpS cover fd (10 * y)).2.2))) :: Z) := by
    intro n9
    induction n9 with
    | zero =>
      intro y q hq hi hn
      exfalso; omega
    | succ n9 ih =>
      intro y q hq hi hn
      refine g_iload_n C dX1_gaps_8 rfl 2 rfl ?_
      refine g_bipush (v := 8) C dX1_gaps_9 (by decide) ?_
      refine g_icmp_ge (tgt := 46) C dX1_gaps_11 (by decide) (fun c_1 => ?_) (fun c_1 => ?_)
      · skip
        rw [show (8 : Int32) = nI 8 from rfl, nI_leI (by omega) (by omega)] at c_1
        refine g_iload_n C dX1_gaps_46 rfl 1 rfl ?_
        refine g_iret C hQ (Nat.le_of_ble_eq_true rfl) (Nat.le_of_ble_eq_true rfl) dX1_gaps_47 ?_
        have e : y = 8 := by omega
        subst e
        exact ⟨by rw [hq], rfl⟩
      · skip
        rw [show (8 : Int32) = nI 8 from rfl, nI_leI (by omega) (by omega)] at c_1
        refine g_iconst (v := 0) C dX1_gaps_14 (by decide) ?_
        refine g_istore_n (lv' := [(3, .int 0), (0, .ref h), (1, .int (nI q)), (2, .int (nI y))]) C dX1_gaps_15 rfl (by decide) rfl ?_
        have lp16 : ∀ (n9 : Nat) (x q : Nat) (hq2 : q = (gpS cover fd (10 * y + x)).1) (hi2 : x ≤ 10) (hn2 : 11 ≤ x + n9), G p l e ({ frames := 4, cells := 0, slots := 0, locals := 93 } : Room) s m args below meth c D A s.heap 4 0 0 Q 16 [(0, .ref h), (1, .int (nI q)), (2, .int (nI y)), (3, .int (nI x))] [] ((h, .inr (1, [.ref a1, .ref a2, .ref a3, .ref a4, .int (nI np), .int (nI hr), .ref a5, .ref a6, .ref a7])) :: (a1, .inl (cI, 80, .inl (wet))) :: (a2, .inl (cI, 80, .inl (cover))) :: (a3, .inl (cI, 8, .inl (sun))) :: (a4, .inl (cP, 100, .inr (.inr (.inr (.inr (pcs)))))) :: (a5, .inl (cI, 80, .inl (fs))) :: (a6, .inl (cI, 80, .inl ((gpS cover fd (10 * y + x)).2.1))) :: (a7, .inl (cI, 80, .inl ((gpS cover fd (10 * y + x)).2.2))) :: Z) := by
          intro n9
          induction n9 with
          | zero =>
            intro x q hq2 hi2 hn2
            exfalso; omega
          | succ n9 ih2 =>
            intro x q hq2 hi2 hn2
            refine g_iload_n C dX1_gaps_16 rfl 3 rfl ?_
            refine g_bipush (v := 10) C dX1_gaps_17 (by decide) ?_
            refine g_icmp_ge (tgt := 40) C dX1_gaps_19 (by decide) (fun c_2 => ?_) (fun c_2 => ?_)
            · skip
              rw [show (10 : Int32) = nI 10 from rfl, nI_leI (by omega) (by omega)] at c_2
              refine g_iinc (v := nI (y + 1)) (lv' := [(2, .int (nI (y + 1))), (0, .ref h), (1, .int (nI q)), (3, .int (nI x))]) C dX1_gaps_40 2 rfl (by exact nI_add _ 1) (by decide) rfl ?_
              refine g_goto (tgt := 8) C dX1_gaps_43 (by decide) ?_
              refine g_sub [1, 2, 0] (lv' := [(0, .ref h), (1, .int (nI q)), (2, .int (nI (y + 1)))]) rfl ?_
              have e : x = 10 := by omega
              subst e
              exact ih (y + 1) q (by rw [hq2]; rfl) (by omega) (by omega)
            · skip
              rw [show (10 : Int32) = nI 10 from rfl, nI_leI (by omega) (by omega)] at c_2
              refine g_aload_n C dX1_gaps_22 rfl 0 rfl ?_
              refine g_iload_n C dX1_gaps_23 rfl 3 rfl ?_
              refine g_iload_n C dX1_gaps_24 rfl 2 rfl ?_
              refine g_callV (ci := 1) (Cn := RX1) (As := [.int (nI x), .int (nI y)]) (rest := []) C gm0 rfl rfl (c_X1_markGap l D tys cI cP ht0 h a1 a2 a3 a4 a5 a6 a7 np hr wet cover sun fs ((gpS cover fd (10 * y + x)).2.1) ((gpS cover fd (10 * y + x)).2.2) pcs Z (nI x) (nI y)) (cwV 2 C.ts gX1_gaps_X1_markGap rfl rfl rfl (by decide +kernel) ⟨(Nat.le_of_ble_eq_true rfl), (Nat.le_of_ble_eq_true rfl)⟩) rfl rfl (Nat.le_of_ble_eq_true rfl) dX1_gaps_25 (Nat.le_of_ble_eq_true rfl) (Nat.le_of_ble_eq_true rfl) (g_is (x := .int (nI (mgp cover (nI x) (nI y) ((gpS cover fd (10 * y + x)).2.1) ((gpS cover fd (10 * y + x)).2.2)).2.2)) (W1 := ((h, .inr (1, [.ref a1, .ref a2, .ref a3, .ref a4, .int (nI np), .int (nI hr), .ref a5, .ref a6, .ref a7])) :: (a1, .inl (cI, 80, .inl (wet))) :: (a2, .inl (cI, 80, .inl (cover))) :: (a3, .inl (cI, 8, .inl (sun))) :: (a4, .inl (cP, 100, .inr (.inr (.inr (.inr (pcs)))))) :: (a5, .inl (cI, 80, .inl (fs))) :: (a6, .inl (cI, 80, .inl ((mgp cover (nI x) (nI y) ((gpS cover fd (10 * y + x)).2.1) ((gpS cover fd (10 * y + x)).2.2)).1))) :: (a7, .inl (cI, 80, .inl ((mgp cover (nI x) (nI y) ((gpS cover fd (10 * y + x)).2.1) ((gpS cover fd (10 * y + x)).2.2)).2.1))) :: Z)) ?_)
              have hmn := mgp_n cover (nI x) (nI y) ((gpS cover fd (10 * y + x)).2.1) ((gpS cover fd (10 * y + x)).2.2)
              refine g_if_le (tgt := 34) C dX1_gaps_28 (by decide) (fun c_3 => ?_) (fun c_3 => ?_)
              · skip
                rw [show (0 : Int32) = nI 0 from rfl, nI_leI (by omega) (by omega)] at c_3
                refine g_iinc (v := nI (x + 1)) (lv' := [(3, .int (nI (x + 1))), (0, .ref h), (1, .int (nI q)), (2, .int (nI y))]) C dX1_gaps_34 3 rfl (by exact nI_add _ 1) (by decide) rfl ?_
                refine g_goto (tgt := 16) C dX1_gaps_37 (by decide) ?_
                refine g_sub [1, 2, 3, 0] (lv' := [(0, .ref h), (1, .int (nI q)), (2, .int (nI y)), (3, .int (nI (x + 1)))]) rfl ?_
                have e := gpS_xy cover fd (y := y) (show x < 10 by omega)
                have eq := ih2 (x + 1) (q) (by rw [show 10 * y + (x + 1) = 10 * y + x + 1 from rfl, e]; show _ = _ + (if _ then _ else _); first | (rw [if_pos (by omega)]; omega) | (rw [if_neg (by omega)]; omega)) (by omega) (by omega)
                rw [show 10 * y + (x + 1) = 10 * y + x + 1 from rfl, e] at eq
                exact eq
              · skip
                rw [show (0 : Int32) = nI 0 from rfl, nI_leI (by omega) (by omega)] at c_3
                refine g_iinc (v := nI (q + 1)) (lv' := [(1, .int (nI (q + 1))), (0, .ref h), (2, .int (nI y)), (3, .int (nI x))]) C dX1_gaps_31 1 rfl (by exact nI_add _ 1) (by decide) rfl ?_
                refine g_iinc (v := nI (x + 1)) (lv' := [(3, .int (nI (x + 1))), (1, .int (nI (q + 1))), (0, .ref h), (2, .int (nI y))]) C dX1_gaps_34 3 rfl (by exact nI_add _ 1) (by decide) rfl ?_
                refine g_goto (tgt := 16) C dX1_gaps_37 (by decide) ?_
                refine g_sub [2, 1, 3, 0] (lv' := [(0, .ref h), (1, .int (nI (q + 1))), (2, .int (nI y)), (3, .int (nI (x + 1)))]) rfl ?_
                have e := gpS_xy cover fd (y := y) (show x < 10 by omega)
                have eq := ih2 (x + 1) ((q + 1)) (by rw [show 10 * y + (x + 1) = 10 * y + x + 1 from rfl, e]; show _ = _ + (if _ then _ else _); first | (rw [if_pos (by omega)]; omega) | (rw [if_neg (by omega)]; omega)) (by omega) (by omega)
                rw [show 10 * y + (x + 1) = 10 * y + x + 1 from rfl, e] at eq
                exact eq
        refine g_sub [1, 2, 3, 0] (lv' := [(0, .ref h), (1, .int (nI q)), (2, .int (nI y)), (3, .int 0)]) rfl ?_
        exact lp16 11 0 q (by rw [hq]; rfl) (by omega) (by omega)
  refine g_sub [2, 1, 0] (lv' := [(0, .ref h), (1, .int 0), (2, .int 0)]) rfl ?_
  exact lp8 9 0 0 rfl (by omega) (by omega)

theorem k_X1_piecesForMarks_inX1 : ∀ w ∈ wsX10, w ∈ wsX1_piecesForMarks := by decide +kernel
theorem k_X1_piecesForMarks_1 : Cond.fieldLink RX1 28 "WetMosaic" "marks" "[I" ∈ wsX1_piecesForMarks := by decide +kernel
set_option maxHeartbeats 4000000 in
set_option maxRecDepth 100000 in
theorem c_X1_piecesForMarks (l : Launch) (D : va_G) (tys : List (ClassId × FieldType)) (cI : ClassId) (ht0 : tys[0]? = some (cI, .int)) (W : va_W) (h a1 a2 a3 a4 a5 a6 a7 np hr : Nat) (mk : Nat → Int32) (ac : Bool) (hm : (h, .inr (1, [.ref a1, .ref a2, .ref a3, .ref a4, .int (nI np), .int (nI hr), .ref a5, .ref a6, .ref a7])) ∈ W) (hm6 : (a6, .inl (cI, 80, .inl (mk))) ∈ W) : gM l yX1_piecesForMarks wsX1_piecesForMarks ({ frames := 2, cells := 0, slots := 0, locals := 43 } : Room) D tys [.ref h, .int (gz ac)] W (gIs (some (.int (nI (pfm mk ac)))) W) 0 0 := by
  refine gM_of (by decide +kernel) rfl (Nat.le_of_ble_eq_true rfl) ?_
  intro p e s m args below meth c A Q hin C hQ
  refine g_sub [0, 1] (lv' := [(0, .ref h), (1, .int (gz ac))]) rfl ?_
  cases ac with
  | false =>
    refine g_iload_n C dX1_piecesForMarks_0 rfl 1 rfl ?_
    refine g_if_eq (tgt := 9) C dX1_piecesForMarks_1 (by decide) (fun c_1 => ?_) (fun c_1 => by exfalso; revert c_1; decide)
    refine g_bipush (v := 10) C dX1_piecesForMarks_9 (by decide) ?_
    refine g_istore_n (lv' := [(2, .int 10), (0, .ref h), (1, .int (gz false))]) C dX1_piecesForMarks_11 rfl (by decide) rfl ?_
    refine g_iload_n C dX1_piecesForMarks_12 rfl 2 rfl ?_
    refine g_if_eq (tgt := 21) C dX1_piecesForMarks_13 (by decide) (fun c_2 => ?_) (fun c_2 => by exfalso; revert c_2; decide)
    refine g_bipush (v := 8) C dX1_piecesForMarks_21 (by decide) ?_
    refine g_istore_n (lv' := [(3, .int 8), (2, .int 10), (0, .ref h), (1, .int (gz false))]) C dX1_piecesForMarks_23 rfl (by decide) rfl ?_
    refine g_iconst (v := 0) C dX1_piecesForMarks_24 (by decide) ?_
    refine g_istore (lv' := [(4, .int 0), (3, .int 8), (2, .int 10), (0, .ref h), (1, .int (gz false))]) C dX1_piecesForMarks_25 (by decide) rfl ?_
    refine g_iconst (v := 0) C dX1_piecesForMarks_27 (by decide) ?_
    refine g_istore (lv' := [(5, .int 0), (4, .int 0), (3, .int 8), (2, .int 10), (0, .ref h), (1, .int (gz false))]) C dX1_piecesForMarks_28 (by decide) rfl ?_
    have lp30 : ∀ (n9 : Nat) (i q : Nat) (hq : q = ndL (pfg mk false) 8 i) (hi : i ≤ 10) (hn : 10 + 1 ≤ i + n9), G p l e ({ frames := 2, cells := 0, slots := 0, locals := 43 } : Room) s m args below meth c D A s.heap 8 0 0 Q 30 [(0, .ref h), (1, .int (gz false)), (2, .int 10), (3, .int 8), (4, .int (nI q)), (5, .int (nI i))] [] W := by
      intro n9
      induction n9 with
      | zero =>
        intro i q hq hi hn
        exfalso; omega
      | succ n9 ih =>
        intro i q hq hi hn
        refine g_iload C dX1_piecesForMarks_30 5 rfl ?_
        refine g_iload_n C dX1_piecesForMarks_32 rfl 2 rfl ?_
        refine g_icmp_ge (tgt := 117) C dX1_piecesForMarks_33 (by decide) (fun c_3 => ?_) (fun c_3 => ?_)
        · skip
          rw [show (10 : Int32) = nI 10 from rfl, nI_leI (by omega) (by omega)] at c_3
          refine g_iload C dX1_piecesForMarks_117 4 rfl ?_
          refine g_iret C hQ (Nat.le_of_ble_eq_true rfl) (Nat.le_of_ble_eq_true rfl) dX1_piecesForMarks_119 ?_
          exact ⟨by rw [hq, show i = 10 by omega]; rfl, rfl⟩
        · skip
          rw [show (10 : Int32) = nI 10 from rfl, nI_leI (by omega) (by omega)] at c_3
          refine g_iconst (v := 0) C dX1_piecesForMarks_36 (by decide) ?_
          refine g_istore (lv' := [(6, .int 0), (0, .ref h), (1, .int (gz false)), (2, .int 10), (3, .int 8), (4, .int (nI q)), (5, .int (nI i))]) C dX1_piecesForMarks_37 (by decide) rfl ?_
          refine g_iconst (v := 0) C dX1_piecesForMarks_39 (by decide) ?_
          refine g_istore (lv' := [(7, .int 0), (6, .int 0), (0, .ref h), (1, .int (gz false)), (2, .int 10), (3, .int 8), (4, .int (nI q)), (5, .int (nI i))]) C dX1_piecesForMarks_40 (by decide) rfl ?_
          have lp42 : ∀ (n9 : Nat) (t q r : Nat) (hq2 : q = ndL (pfg mk false) 8 i + (ndI ((pfg mk false) i) t).1) (hr : (ndI ((pfg mk false) i) t).2 = r) (hi2 : t ≤ 8) (hn2 : 8 + 1 ≤ t + n9), G p l e ({ frames := 2, cells := 0, slots := 0, locals := 43 } : Room) s m args below meth c D A s.heap 8 0 0 Q 42 [(0, .ref h), (1, .int (gz false)), (2, .int 10), (3, .int 8), (4, .int (nI q)), (5, .int (nI i)), (6, .int (nI r)), (7, .int (nI t))] [] W := by
            intro n9
            induction n9 with
            | zero =>
              intro t q r hq2 hr hi2 hn2
              exfalso; omega
            | succ n9 ih2 =>
              intro t q r hq2 hr hi2 hn2
              have hb := ndI_le ((pfg mk false) i) t
              have hb2 := ndL_le (pfg mk false) 8 i
              refine g_iload C dX1_piecesForMarks_42 7 rfl ?_
              refine g_iload_n C dX1_piecesForMarks_44 rfl 3 rfl ?_
              refine g_icmp_ge (tgt := 111) C dX1_piecesForMarks_45 (by decide) (fun c_4 => ?_) (fun c_4 => ?_)
              · skip
                rw [show (8 : Int32) = nI 8 from rfl, nI_leI (by omega) (by omega)] at c_4
                refine g_iinc (v := nI (i + 1)) (lv' := [(5, .int (nI (i + 1))), (0, .ref h), (1, .int (gz false)), (2, .int 10), (3, .int 8), (4, .int (nI q)), (6, .int (nI r)), (7, .int (nI t))]) C dX1_piecesForMarks_111 5 rfl (by exact nI_add _ 1) (by decide) rfl ?_
                refine g_goto (tgt := 30) C dX1_piecesForMarks_114 (by decide) ?_
                refine g_sub [1, 2, 3, 4, 5, 0] (lv' := [(0, .ref h), (1, .int (gz false)), (2, .int 10), (3, .int 8), (4, .int (nI q)), (5, .int (nI (i + 1)))]) rfl ?_
                exact ih (i + 1) q (by rw [hq2, show t = 8 by omega]; rfl) (by omega) (by omega)
              · skip
                rw [show (8 : Int32) = nI 8 from rfl, nI_leI (by omega) (by omega)] at c_4
                refine g_aload_n C dX1_piecesForMarks_48 rfl 0 rfl ?_
                refine g_get (ci := 1) (Cn := RX1) (T := TX1) (N := 9) C k_X1_piecesForMarks_inX1 hm rfl 7 (by decide) k_X1_piecesForMarks_1 rfl rfl dX1_piecesForMarks_49 ?_
                refine g_iload_n C dX1_piecesForMarks_52 rfl 1 rfl ?_
                refine g_if_eq (tgt := 66) C dX1_piecesForMarks_53 (by decide) (fun c_5 => ?_) (fun c_5 => by exfalso; revert c_5; decide)
                refine g_iload C dX1_piecesForMarks_66 5 rfl ?_
                refine g_iload C dX1_piecesForMarks_68 7 rfl ?_
                refine g_callS (As := [.int (nI i), .int (nI t)]) (rest := [.ref a6]) C (c_X1_cellOf l D tys W (nI i) (nI t)) (va_cwS 2 C.ts gX1_piecesForMarks_X1_cellOf rfl rfl rfl (by decide +kernel) ⟨(Nat.le_of_ble_eq_true rfl), (Nat.le_of_ble_eq_true rfl)⟩) rfl rfl (Nat.le_of_ble_eq_true rfl) dX1_piecesForMarks_70 (Nat.le_of_ble_eq_true rfl) (Nat.le_of_ble_eq_true rfl) (g_is (x := .int (10 * (nI t) + (nI i))) (W1 := W) ?_)
                refine g_eqi (x := 10 * (nI t) + (nI i)) (y := nI (10 * t + i)) (cel_nI _ _) ?_
                refine g_callS (As := [.ref a6, .int (nI (10 * t + i))]) (rest := []) C (c_X1_at l D tys cI ht0 W a6 80 mk (nI (10 * t + i)) (by decide) (by decide) hm6) (va_cwS 2 C.ts gX1_piecesForMarks_X1_at rfl rfl rfl (by decide +kernel) ⟨(Nat.le_of_ble_eq_true rfl), (Nat.le_of_ble_eq_true rfl)⟩) rfl rfl (Nat.le_of_ble_eq_true rfl) dX1_piecesForMarks_73 (Nat.le_of_ble_eq_true rfl) (Nat.le_of_ble_eq_true rfl) (g_is (x := .int (atv 80 mk (nI (10 * t + i)))) (W1 := W) ?_)
                refine g_eqi (x := atv 80 mk (nI (10 * t + i))) (y := mk (10 * t + i)) (atv_nI (by omega) (by omega)) ?_
                refine g_if_ne (tgt := 85) C dX1_piecesForMarks_76 (by decide) (fun c_6 => ?_) (fun c_6 => ?_)
                · skip
                  refine g_iload C dX1_piecesForMarks_85 4 rfl ?_
                  refine g_iload C dX1_piecesForMarks_87 6 rfl ?_
                  refine g_iconst (v := 3) C dX1_piecesForMarks_89 (by decide) ?_
                  refine g_irem C dX1_piecesForMarks_90 (by decide) ?_
                  refine g_eqi (x := (nI r) - (nI r) / 3 * 3) (y := nI (r % 3)) (remI r 3 (by omega) (by omega) (by omega) rfl) ?_
                  refine g_if_ne (tgt := 98) C dX1_piecesForMarks_91 (by decide) (fun c_7 => ?_) (fun c_7 => ?_)
                  · skip
                    rw [show (0 : Int32) = nI 0 from rfl, nI_eq (by omega) (by omega)] at c_7
                    refine g_iconst (v := 0) C dX1_piecesForMarks_98 (by decide) ?_
                    refine g_iadd C dX1_piecesForMarks_99 ?_
                    refine g_eqi (x := (nI q) + 0) (y := nI (q + 0)) (nI_add _ 0) ?_
                    refine g_istore (lv' := [(4, .int (nI (q + 0))), (0, .ref h), (1, .int (gz false)), (2, .int 10), (3, .int 8), (5, .int (nI i)), (6, .int (nI r)), (7, .int (nI t))]) C dX1_piecesForMarks_100 (by decide) rfl ?_
                    refine g_iinc (v := nI (r + 1)) (lv' := [(6, .int (nI (r + 1))), (4, .int (nI (q + 0))), (0, .ref h), (1, .int (gz false)), (2, .int 10), (3, .int 8), (5, .int (nI i)), (7, .int (nI t))]) C dX1_piecesForMarks_102 6 rfl (by exact nI_add _ 1) (by decide) rfl ?_
                    refine g_iinc (v := nI (t + 1)) (lv' := [(7, .int (nI (t + 1))), (6, .int (nI (r + 1))), (4, .int (nI (q + 0))), (0, .ref h), (1, .int (gz false)), (2, .int 10), (3, .int 8), (5, .int (nI i))]) C dX1_piecesForMarks_105 7 rfl (by exact nI_add _ 1) (by decide) rfl ?_
                    refine g_goto (tgt := 42) C dX1_piecesForMarks_108 (by decide) ?_
                    refine g_sub [3, 4, 5, 6, 2, 7, 1, 0] (lv' := [(0, .ref h), (1, .int (gz false)), (2, .int 10), (3, .int 8), (4, .int (nI (q + 0))), (5, .int (nI i)), (6, .int (nI (r + 1))), (7, .int (nI (t + 1)))]) rfl ?_
                    exact ih2 (t + 1) _ _ (by rw [hq2, ndI]; simp [pfg, *, Nat.add_assoc]) (by rw [ndI]; simp [pfg, *]) (by omega) (by omega)
                  · skip
                    rw [show (0 : Int32) = nI 0 from rfl, nI_eq (by omega) (by omega)] at c_7
                    refine g_iconst (v := 1) C dX1_piecesForMarks_94 (by decide) ?_
                    refine g_goto (tgt := 99) C dX1_piecesForMarks_95 (by decide) ?_
                    refine g_iadd C dX1_piecesForMarks_99 ?_
                    refine g_eqi (x := (nI q) + 1) (y := nI (q + 1)) (nI_add _ 1) ?_
                    refine g_istore (lv' := [(4, .int (nI (q + 1))), (0, .ref h), (1, .int (gz false)), (2, .int 10), (3, .int 8), (5, .int (nI i)), (6, .int (nI r)), (7, .int (nI t))]) C dX1_piecesForMarks_100 (by decide) rfl ?_
                    refine g_iinc (v := nI (r + 1)) (lv' := [(6, .int (nI (r + 1))), (4, .int (nI (q + 1))), (0, .ref h), (1, .int (gz false)), (2, .int 10), (3, .int 8), (5, .int (nI i)), (7, .int (nI t))]) C dX1_piecesForMarks_102 6 rfl (by exact nI_add _ 1) (by decide) rfl ?_
                    refine g_iinc (v := nI (t + 1)) (lv' := [(7, .int (nI (t + 1))), (6, .int (nI (r + 1))), (4, .int (nI (q + 1))), (0, .ref h), (1, .int (gz false)), (2, .int 10), (3, .int 8), (5, .int (nI i))]) C dX1_piecesForMarks_105 7 rfl (by exact nI_add _ 1) (by decide) rfl ?_
                    refine g_goto (tgt := 42) C dX1_piecesForMarks_108 (by decide) ?_
                    refine g_sub [3, 4, 5, 6, 2, 7, 1, 0] (lv' := [(0, .ref h), (1, .int (gz false)), (2, .int 10), (3, .int 8), (4, .int (nI (q + 1))), (5, .int (nI i)), (6, .int (nI (r + 1))), (7, .int (nI (t + 1)))]) rfl ?_
                    exact ih2 (t + 1) _ _ (by rw [hq2, ndI]; simp [pfg, *, Nat.add_assoc]) (by rw [ndI]; simp [pfg, *]) (by omega) (by omega)
                · skip
                  refine g_iconst (v := 0) C dX1_piecesForMarks_79 (by decide) ?_
                  refine g_istore (lv' := [(6, .int 0), (0, .ref h), (1, .int (gz false)), (2, .int 10), (3, .int 8), (4, .int (nI q)), (5, .int (nI i)), (7, .int (nI t))]) C dX1_piecesForMarks_80 (by decide) rfl ?_
                  refine g_goto (tgt := 105) C dX1_piecesForMarks_82 (by decide) ?_
                  refine g_iinc (v := nI (t + 1)) (lv' := [(7, .int (nI (t + 1))), (6, .int 0), (0, .ref h), (1, .int (gz false)), (2, .int 10), (3, .int 8), (4, .int (nI q)), (5, .int (nI i))]) C dX1_piecesForMarks_105 7 rfl (by exact nI_add _ 1) (by decide) rfl ?_
                  refine g_goto (tgt := 42) C dX1_piecesForMarks_108 (by decide) ?_
                  refine g_sub [2, 3, 4, 5, 6, 7, 1, 0] (lv' := [(0, .ref h), (1, .int (gz false)), (2, .int 10), (3, .int 8), (4, .int (nI q)), (5, .int (nI i)), (6, .int 0), (7, .int (nI (t + 1)))]) rfl ?_
                  exact ih2 (t + 1) _ _ (by rw [hq2, ndI]; simp [pfg, *, Nat.add_assoc]) (by rw [ndI]; simp [pfg, *]) (by omega) (by omega)
          refine g_sub [2, 3, 4, 5, 6, 7, 1, 0] (lv' := [(0, .ref h), (1, .int (gz false)), (2, .int 10), (3, .int 8), (4, .int (nI q)), (5, .int (nI i)), (6, .int 0), (7, .int 0)]) rfl ?_
          exact lp42 (8 + 1) 0 q 0 hq rfl (by omega) (by omega)
    refine g_sub [4, 5, 3, 2, 1, 0] (lv' := [(0, .ref h), (1, .int (gz false)), (2, .int 10), (3, .int 8), (4, .int 0), (5, .int 0)]) rfl ?_
    exact lp30 (10 + 1) 0 0 rfl (by omega) (by omega)
  | true =>
    refine g_iload_n C dX1_piecesForMarks_0 rfl 1 rfl ?_
    refine g_if_eq (tgt := 9) C dX1_piecesForMarks_1 (by decide) (fun c_8 => by exfalso; revert c_8; decide) (fun c_8 => ?_)
    refine g_bipush (v := 8) C dX1_piecesForMarks_4 (by decide) ?_
    refine g_goto (tgt := 11) C dX1_piecesForMarks_6 (by decide) ?_
    refine g_istore_n (lv' := [(2, .int 8), (0, .ref h), (1, .int (gz true))]) C dX1_piecesForMarks_11 rfl (by decide) rfl ?_
    refine g_iload_n C dX1_piecesForMarks_12 rfl 2 rfl ?_
    refine g_if_eq (tgt := 21) C dX1_piecesForMarks_13 (by decide) (fun c_9 => by exfalso; revert c_9; decide) (fun c_9 => ?_)
    refine g_bipush (v := 10) C dX1_piecesForMarks_16 (by decide) ?_
    refine g_goto (tgt := 23) C dX1_piecesForMarks_18 (by decide) ?_
    refine g_istore_n (lv' := [(3, .int 10), (2, .int 8), (0, .ref h), (1, .int (gz true))]) C dX1_piecesForMarks_23 rfl (by decide) rfl ?_
    refine g_iconst (v := 0) C dX1_piecesForMarks_24 (by decide) ?_
    refine g_istore (lv' := [(4, .int 0), (3, .int 10), (2, .int 8), (0, .ref h), (1, .int (gz true))]) C dX1_piecesForMarks_25 (by decide) rfl ?_
    refine g_iconst (v := 0) C dX1_piecesForMarks_27 (by decide) ?_
    refine g_istore (lv' := [(5, .int 0), (4, .int 0), (3, .int 10), (2, .int 8), (0, .ref h), (1, .int (gz true))]) C dX1_piecesForMarks_28 (by decide) rfl ?_
    have lp30_10 : ∀ (n9 : Nat) (i q : Nat) (hq : q = ndL (pfg mk true) 10 i) (hi : i ≤ 8) (hn : 8 + 1 ≤ i + n9), G p l e ({ frames := 2, cells := 0, slots := 0, locals := 43 } : Room) s m args below meth c D A s.heap 8 0 0 Q 30 [(0, .ref h), (1, .int (gz true)), (2, .int 8), (3, .int 10), (4, .int (nI q)), (5, .int (nI i))] [] W := by
      intro n9
      induction n9 with
      | zero =>
        intro i q hq hi hn
        exfalso; omega
      | succ n9 ih =>
        intro i q hq hi hn
        refine g_iload C dX1_piecesForMarks_30 5 rfl ?_
        refine g_iload_n C dX1_piecesForMarks_32 rfl 2 rfl ?_
        refine g_icmp_ge (tgt := 117) C dX1_piecesForMarks_33 (by decide) (fun c_11 => ?_) (fun c_11 => ?_)
        · skip
          rw [show (8 : Int32) = nI 8 from rfl, nI_leI (by omega) (by omega)] at c_11
          refine g_iload C dX1_piecesForMarks_117 4 rfl ?_
          refine g_iret C hQ (Nat.le_of_ble_eq_true rfl) (Nat.le_of_ble_eq_true rfl) dX1_piecesForMarks_119 ?_
          exact ⟨by rw [hq, show i = 8 by omega]; rfl, rfl⟩
        · skip
          rw [show (8 : Int32) = nI 8 from rfl, nI_leI (by omega) (by omega)] at c_11
          refine g_iconst (v := 0) C dX1_piecesForMarks_36 (by decide) ?_
          refine g_istore (lv' := [(6, .int 0), (0, .ref h), (1, .int (gz true)), (2, .int 8), (3, .int 10), (4, .int (nI q)), (5, .int (nI i))]) C dX1_piecesForMarks_37 (by decide) rfl ?_
          refine g_iconst (v := 0) C dX1_piecesForMarks_39 (by decide) ?_
          refine g_istore (lv' := [(7, .int 0), (6, .int 0), (0, .ref h), (1, .int (gz true)), (2, .int 8), (3, .int 10), (4, .int (nI q)), (5, .int (nI i))]) C dX1_piecesForMarks_40 (by decide) rfl ?_
          have lp42_12 : ∀ (n9 : Nat) (t q r : Nat) (hq2 : q = ndL (pfg mk true) 10 i + (ndI ((pfg mk true) i) t).1) (hr : (ndI ((pfg mk true) i) t).2 = r) (hi2 : t ≤ 10) (hn2 : 10 + 1 ≤ t + n9), G p l e ({ frames := 2, cells := 0, slots := 0, locals := 43 } : Room) s m args below meth c D A s.heap 8 0 0 Q 42 [(0, .ref h), (1, .int (gz true)), (2, .int 8), (3, .int 10), (4, .int (nI q)), (5, .int (nI i)), (6, .int (nI r)), (7, .int (nI t))] [] W := by
            intro n9
            induction n9 with
            | zero =>
              intro t q r hq2 hr hi2 hn2
              exfalso; omega
            | succ n9 ih2 =>
              intro t q r hq2 hr hi2 hn2
              have hb := ndI_le ((pfg mk true) i) t
              have hb2 := ndL_le (pfg mk true) 10 i
              refine g_iload C dX1_piecesForMarks_42 7 rfl ?_
              refine g_iload_n C dX1_piecesForMarks_44 rfl 3 rfl ?_
              refine g_icmp_ge (tgt := 111) C dX1_piecesForMarks_45 (by decide) (fun c_13 => ?_) (fun c_13 => ?_)
              · skip
                rw [show (10 : Int32) = nI 10 from rfl, nI_leI (by omega) (by omega)] at c_13
                refine g_iinc (v := nI (i + 1)) (lv' := [(5, .int (nI (i + 1))), (0, .ref h), (1, .int (gz true)), (2, .int 8), (3, .int 10), (4, .int (nI q)), (6, .int (nI r)), (7, .int (nI t))]) C dX1_piecesForMarks_111 5 rfl (by exact nI_add _ 1) (by decide) rfl ?_
                refine g_goto (tgt := 30) C dX1_piecesForMarks_114 (by decide) ?_
                refine g_sub [1, 2, 3, 4, 5, 0] (lv' := [(0, .ref h), (1, .int (gz true)), (2, .int 8), (3, .int 10), (4, .int (nI q)), (5, .int (nI (i + 1)))]) rfl ?_
                exact ih (i + 1) q (by rw [hq2, show t = 10 by omega]; rfl) (by omega) (by omega)
              · skip
                rw [show (10 : Int32) = nI 10 from rfl, nI_leI (by omega) (by omega)] at c_13
                refine g_aload_n C dX1_piecesForMarks_48 rfl 0 rfl ?_
                refine g_get (ci := 1) (Cn := RX1) (T := TX1) (N := 9) C k_X1_piecesForMarks_inX1 hm rfl 7 (by decide) k_X1_piecesForMarks_1 rfl rfl dX1_piecesForMarks_49 ?_
                refine g_iload_n C dX1_piecesForMarks_52 rfl 1 rfl ?_
                refine g_if_eq (tgt := 66) C dX1_piecesForMarks_53 (by decide) (fun c_14 => by exfalso; revert c_14; decide) (fun c_14 => ?_)
                refine g_iload C dX1_piecesForMarks_56 7 rfl ?_
                refine g_iload C dX1_piecesForMarks_58 5 rfl ?_
                refine g_callS (As := [.int (nI t), .int (nI i)]) (rest := [.ref a6]) C (c_X1_cellOf l D tys W (nI t) (nI i)) (va_cwS 2 C.ts gX1_piecesForMarks_X1_cellOf rfl rfl rfl (by decide +kernel) ⟨(Nat.le_of_ble_eq_true rfl), (Nat.le_of_ble_eq_true rfl)⟩) rfl rfl (Nat.le_of_ble_eq_true rfl) dX1_piecesForMarks_60 (Nat.le_of_ble_eq_true rfl) (Nat.le_of_ble_eq_true rfl) (g_is (x := .int (10 * (nI i) + (nI t))) (W1 := W) ?_)
                refine g_eqi (x := 10 * (nI i) + (nI t)) (y := nI (10 * i + t)) (cel_nI _ _) ?_
                refine g_goto (tgt := 73) C dX1_piecesForMarks_63 (by decide) ?_
                refine g_callS (As := [.ref a6, .int (nI (10 * i + t))]) (rest := []) C (c_X1_at l D tys cI ht0 W a6 80 mk (nI (10 * i + t)) (by decide) (by decide) hm6) (va_cwS 2 C.ts gX1_piecesForMarks_X1_at rfl rfl rfl (by decide +kernel) ⟨(Nat.le_of_ble_eq_true rfl), (Nat.le_of_ble_eq_true rfl)⟩) rfl rfl (Nat.le_of_ble_eq_true rfl) dX1_piecesForMarks_73 (Nat.le_of_ble_eq_true rfl) (Nat.le_of_ble_eq_true rfl) (g_is (x := .int (atv 80 mk (nI (10 * i + t)))) (W1 := W) ?_)
                refine g_eqi (x := atv 80 mk (nI (10 * i + t))) (y := mk (10 * i + t)) (atv_nI (by omega) (by omega)) ?_
                refine g_if_ne (tgt := 85) C dX1_piecesForMarks_76 (by decide) (fun c_15 => ?_) (fun c_15 => ?_)
                · skip
                  refine g_iload C dX1_piecesForMarks_85 4 rfl ?_
                  refine g_iload C dX1_piecesForMarks_87 6 rfl ?_
                  refine g_iconst (v := 3) C dX1_piecesForMarks_89 (by decide) ?_
                  refine g_irem C dX1_piecesForMarks_90 (by decide) ?_
                  refine g_eqi (x := (nI r) - (nI r) / 3 * 3) (y := nI (r % 3)) (remI r 3 (by omega) (by omega) (by omega) rfl) ?_
                  refine g_if_ne (tgt := 98) C dX1_piecesForMarks_91 (by decide) (fun c_16 => ?_) (fun c_16 => ?_)
                  · skip
                    rw [show (0 : Int32) = nI 0 from rfl, nI_eq (by omega) (by omega)] at c_16
                    refine g_iconst (v := 0) C dX1_piecesForMarks_98 (by decide) ?_
                    refine g_iadd C dX1_piecesForMarks_99 ?_
                    refine g_eqi (x := (nI q) + 0) (y := nI (q + 0)) (nI_add _ 0) ?_
                    refine g_istore (lv' := [(4, .int (nI (q + 0))), (0, .ref h), (1, .int (gz true)), (2, .int 8), (3, .int 10), (5, .int (nI i)), (6, .int (nI r)), (7, .int (nI t))]) C dX1_piecesForMarks_100 (by decide) rfl ?_
                    refine g_iinc (v := nI (r + 1)) (lv' := [(6, .int (nI (r + 1))), (4, .int (nI (q + 0))), (0, .ref h), (1, .int (gz true)), (2, .int 8), (3, .int 10), (5, .int (nI i)), (7, .int (nI t))]) C dX1_piecesForMarks_102 6 rfl (by exact nI_add _ 1) (by decide) rfl ?_
                    refine g_iinc (v := nI (t + 1)) (lv' := [(7, .int (nI (t + 1))), (6, .int (nI (r + 1))), (4, .int (nI (q + 0))), (0, .ref h), (1, .int (gz true)), (2, .int 8), (3, .int 10), (5, .int (nI i))]) C dX1_piecesForMarks_105 7 rfl (by exact nI_add _ 1) (by decide) rfl ?_
                    refine g_goto (tgt := 42) C dX1_piecesForMarks_108 (by decide) ?_
                    refine g_sub [3, 4, 5, 6, 2, 7, 1, 0] (lv' := [(0, .ref h), (1, .int (gz true)), (2, .int 8), (3, .int 10), (4, .int (nI (q + 0))), (5, .int (nI i)), (6, .int (nI (r + 1))), (7, .int (nI (t + 1)))]) rfl ?_
                    exact ih2 (t + 1) _ _ (by rw [hq2, ndI]; simp [pfg, *, Nat.add_assoc]) (by rw [ndI]; simp [pfg, *]) (by omega) (by omega)
                  · skip
                    rw [show (0 : Int32) = nI 0 from rfl, nI_eq (by omega) (by omega)] at c_16
                    refine g_iconst (v := 1) C dX1_piecesForMarks_94 (by decide) ?_
                    refine g_goto (tgt := 99) C dX1_piecesForMarks_95 (by decide) ?_
                    refine g_iadd C dX1_piecesForMarks_99 ?_
                    refine g_eqi (x := (nI q) + 1) (y := nI (q + 1)) (nI_add _ 1) ?_
                    refine g_istore (lv' := [(4, .int (nI (q + 1))), (0, .ref h), (1, .int (gz true)), (2, .int 8), (3, .int 10), (5, .int (nI i)), (6, .int (nI r)), (7, .int (nI t))]) C dX1_piecesForMarks_100 (by decide) rfl ?_
                    refine g_iinc (v := nI (r + 1)) (lv' := [(6, .int (nI (r + 1))), (4, .int (nI (q + 1))), (0, .ref h), (1, .int (gz true)), (2, .int 8), (3, .int 10), (5, .int (nI i)), (7, .int (nI t))]) C dX1_piecesForMarks_102 6 rfl (by exact nI_add _ 1) (by decide) rfl ?_
                    refine g_iinc (v := nI (t + 1)) (lv' := [(7, .int (nI (t + 1))), (6, .int (nI (r + 1))), (4, .int (nI (q + 1))), (0, .ref h), (1, .int (gz true)), (2, .int 8), (3, .int 10), (5, .int (nI i))]) C dX1_piecesForMarks_105 7 rfl (by exact nI_add _ 1) (by decide) rfl ?_
                    refine g_goto (tgt := 42) C dX1_piecesForMarks_108 (by decide) ?_
                    refine g_sub [3, 4, 5, 6, 2, 7, 1, 0] (lv' := [(0, .ref h), (1, .int (gz true)), (2, .int 8), (3, .int 10), (4, .int (nI (q + 1))), (5, .int (nI i)), (6, .int (nI (r + 1))), (7, .int (nI (t + 1)))]) rfl ?_
                    exact ih2 (t + 1) _ _ (by rw [hq2, ndI]; simp [pfg, *, Nat.add_assoc]) (by rw [ndI]; simp [pfg, *]) (by omega) (by omega)
                · skip
                  refine g_iconst (v := 0) C dX1_piecesForMarks_79 (by decide) ?_
                  refine g_istore (lv' := [(6, .int 0), (0, .ref h), (1, .int (gz true)), (2, .int 8), (3, .int 10), (4, .int (nI q)), (5, .int (nI i)), (7, .int (nI t))]) C dX1_piecesForMarks_80 (by decide) rfl ?_
                  refine g_goto (tgt := 105) C dX1_piecesForMarks_82 (by decide) ?_
                  refine g_iinc (v := nI (t + 1)) (lv' := [(7, .int (nI (t + 1))), (6, .int 0), (0, .ref h), (1, .int (gz true)), (2, .int 8), (3, .int 10), (4, .int (nI q)), (5, .int (nI i))]) C dX1_piecesForMarks_105 7 rfl (by exact nI_add _ 1) (by decide) rfl ?_
                  refine g_goto (tgt := 42) C dX1_piecesForMarks_108 (by decide) ?_
                  refine g_sub [2, 3, 4, 5, 6, 7, 1, 0] (lv' := [(0, .ref h), (1, .int (gz true)), (2, .int 8), (3, .int 10), (4, .int (nI q)), (5, .int (nI i)), (6, .int 0), (7, .int (nI (t + 1)))]) rfl ?_
                  exact ih2 (t + 1) _ _ (by rw [hq2, ndI]; simp [pfg, *, Nat.add_assoc]) (by rw [ndI]; simp [pfg, *]) (by omega) (by omega)
          refine g_sub [2, 3, 4, 5, 6, 7, 1, 0] (lv' := [(0, .ref h), (1, .int (gz true)), (2, .int 8), (3, .int 10), (4, .int (nI q)), (5, .int (nI i)), (6, .int 0), (7, .int 0)]) rfl ?_
          exact lp42_12 (10 + 1) 0 q 0 hq rfl (by omega) (by omega)
    refine g_sub [4, 5, 3, 2, 1, 0] (lv' := [(0, .ref h), (1, .int (gz true)), (2, .int 8), (3, .int 10), (4, .int 0), (5, .int 0)]) rfl ?_
    exact lp30_10 (8 + 1) 0 0 rfl (by omega) (by omega)

set_option maxHeartbeats 4000000 in
set_option maxRecDepth 100000 in
theorem c_J9_floorMod_7cf53 (l : Launch) (D : va_G) (tys : List (ClassId × FieldType)) (W : va_W) (a : Nat) (ha : a < 2 ^ 30) : gM l yJ9_floorMod_7cf53 wsJ9_floorMod_7cf53 ({ frames := 0, cells := 0, slots := 0, locals := 0 } : Room) D tys [.int (nI a), .int 8] W (gIs (some (.int (nI (a % 8)))) W) 0 0 := by
  refine gM_ofF (by decide +kernel) rfl (Nat.le_of_ble_eq_true rfl) ?_
  intro p e s m args below meth c A Q hin C hQ
  refine g_sub [0, 1] (lv' := [(0, .int (nI a)), (1, .int 8)]) rfl ?_
  refine g_iload_n C dJ9_floorMod_7cf53_0 rfl 0 rfl ?_
  refine g_iload_n C dJ9_floorMod_7cf53_1 rfl 1 rfl ?_
  refine g_irem C dJ9_floorMod_7cf53_2 (by decide) ?_
  refine g_eqi (x := (nI a) - (nI a) / 8 * 8) (y := nI (a % 8)) (remI a 8 (by omega) (by omega) (by omega) rfl) ?_
  refine g_istore_n (lv' := [(2, .int (nI (a % 8))), (0, .int (nI a)), (1, .int 8)]) C dJ9_floorMod_7cf53_3 rfl (by decide) rfl ?_
  refine g_iload_n C dJ9_floorMod_7cf53_4 rfl 1 rfl ?_
  refine g_iload_n C dJ9_floorMod_7cf53_5 rfl 2 rfl ?_
  refine g_ixor C dJ9_floorMod_7cf53_6 ?_
  refine g_if_ge (tgt := 18) C dJ9_floorMod_7cf53_7 (by decide) (fun c_1 => ?_) (fun c_1 => by exfalso; exact c_1 (xor8 ha))
  refine g_iload_n C dJ9_floorMod_7cf53_18 rfl 0 rfl ?_
  refine g_iret C hQ (Nat.le_of_ble_eq_true rfl) (Nat.le_of_ble_eq_true rfl) dJ9_floorMod_7cf53_19 ?_
  exact ⟨rfl, rfl⟩

theorem k_X1_dryOneHour_w_inX1 : ∀ w ∈ wsX10, w ∈ wsX1_dryOneHour := by decide +kernel
theorem k_X1_dryOneHour_w_1 : Cond.fieldLink RX1 16 "WetMosaic" "sun" "[I" ∈ wsX1_dryOneHour := by decide +kernel
theorem k_X1_dryOneHour_w_2 : Cond.fieldLink RX1 13 "WetMosaic" "cover" "[I" ∈ wsX1_dryOneHour := by decide +kernel
theorem k_X1_dryOneHour_w_3 : Cond.methodLink RX1 241 Lib.Math.max.name ∈ wsX1_dryOneHour := by decide +kernel
theorem k_X1_dryOneHour_w_4 : Cond.static Lib.Math.max.name ∈ wsX1_dryOneHour := by decide +kernel
theorem k_X1_dryOneHour_w_5 : Cond.initialized "java/lang/Math" ∈ wsX1_dryOneHour := by decide +kernel
theorem k_X1_dryOneHour_w_6 : Cond.code Lib.Math.max.name Lib.Math.max.code 2 (some .int) ∈ wsX1_dryOneHour := by decide +kernel
set_option maxHeartbeats 4000000 in
set_option maxRecDepth 100000 in
theorem c_X1_dryOneHour_w (l : Launch) (D : va_G) (tys : List (ClassId × FieldType)) (cI cP : ClassId) (ht0 : tys[0]? = some (cI, .int)) (h a1 a2 a3 a4 a5 a6 a7 np hr : Nat) (wet cover sun fs mk fd : Nat → Int32) (pcs : Nat → Option Nat) (Z : va_W) (n8 : Nat) (hn8 : n8 < 2 ^ 30) : gM l yX1_dryOneHour wsX1_dryOneHour ({ frames := 2, cells := 0, slots := 0, locals := 44 } : Room) D tys [.ref h, .ref a1, .int (nI n8)] ((h, .inr (1, [.ref a1, .ref a2, .ref a3, .ref a4, .int (nI np), .int (nI hr), .ref a5, .ref a6, .ref a7])) :: (a1, .inl (cI, 80, .inl (wet))) :: (a2, .inl (cI, 80, .inl (cover))) :: (a3, .inl (cI, 8, .inl (sun))) :: (a4, .inl (cP, 100, .inr (.inr (.inr (.inr (pcs)))))) :: (a5, .inl (cI, 80, .inl (fs))) :: (a6, .inl (cI, 80, .inl (mk))) :: (a7, .inl (cI, 80, .inl (fd))) :: Z) (gIs none ((h, .inr (1, [.ref a1, .ref a2, .ref a3, .ref a4, .int (nI np), .int (nI hr), .ref a5, .ref a6, .ref a7])) :: (a1, .inl (cI, 80, .inl (dry1 wet cover (sun (n8 % 8)) (decide (n8 % 2 = 0))))) :: (a2, .inl (cI, 80, .inl (cover))) :: (a3, .inl (cI, 8, .inl (sun))) :: (a4, .inl (cP, 100, .inr (.inr (.inr (.inr (pcs)))))) :: (a5, .inl (cI, 80, .inl (fs))) :: (a6, .inl (cI, 80, .inl (mk))) :: (a7, .inl (cI, 80, .inl (fd))) :: Z)) 0 0 := by
  refine gM_of (by decide +kernel) rfl (Nat.le_of_ble_eq_true rfl) ?_
  intro p e s m args below meth c A Q hin C hQ
  refine g_sub [0, 1, 2] (lv' := [(0, .ref h), (1, .ref a1), (2, .int (nI n8))]) rfl ?_
  refine g_aload_n C dX1_dryOneHour_0 rfl 0 rfl ?_
  refine g_get (ci := 1) (Cn := RX1) (T := TX1) (N := 9) C k_X1_dryOneHour_w_inX1 gm0 rfl 2 (by decide) k_X1_dryOneHour_w_1 rfl rfl dX1_dryOneHour_1 ?_
  refine g_iload_n C dX1_dryOneHour_4 rfl 2 rfl ?_
  refine g_bipush (v := 8) C dX1_dryOneHour_5 (by decide) ?_
  refine g_callS (As := [.int (nI n8), .int 8]) (rest := [.ref a3]) C (c_J9_floorMod_7cf53 l D tys ((h, .inr (1, [.ref a1, .ref a2, .ref a3, .ref a4, .int (nI np), .int (nI hr), .ref a5, .ref a6, .ref a7])) :: (a1, .inl (cI, 80, .inl (wet))) :: (a2, .inl (cI, 80, .inl (cover))) :: (a3, .inl (cI, 8, .inl (sun))) :: (a4, .inl (cP, 100, .inr (.inr (.inr (.inr (pcs)))))) :: (a5, .inl (cI, 80, .inl (fs))) :: (a6, .inl (cI, 80, .inl (mk))) :: (a7, .inl (cI, 80, .inl (fd))) :: Z) n8 (by omega)) (va_cwS 2 C.ts gX1_dryOneHour_J9_floorMod_7cf53 rfl rfl rfl (by decide +kernel) ⟨(Nat.le_of_ble_eq_true rfl), (Nat.le_of_ble_eq_true rfl)⟩) rfl rfl (Nat.le_of_ble_eq_true rfl) dX1_dryOneHour_7 (Nat.le_of_ble_eq_true rfl) (Nat.le_of_ble_eq_true rfl) (g_is (x := .int (nI (n8 % 8))) (W1 := ((h, .inr (1, [.ref a1, .ref a2, .ref a3, .ref a4, .int (nI np), .int (nI hr), .ref a5, .ref a6, .ref a7])) :: (a1, .inl (cI, 80, .inl (wet))) :: (a2, .inl (cI, 80, .inl (cover))) :: (a3, .inl (cI, 8, .inl (sun))) :: (a4, .inl (cP, 100, .inr (.inr (.inr (.inr (pcs)))))) :: (a5, .inl (cI, 80, .inl (fs))) :: (a6, .inl (cI, 80, .inl (mk))) :: (a7, .inl (cI, 80, .inl (fd))) :: Z)) ?_)
  refine g_callS (As := [.ref a3, .int (nI (n8 % 8))]) (rest := []) C (c_X1_at l D tys cI ht0 ((h, .inr (1, [.ref a1, .ref a2, .ref a3, .ref a4, .int (nI np), .int (nI hr), .ref a5, .ref a6, .ref a7])) :: (a1, .inl (cI, 80, .inl (wet))) :: (a2, .inl (cI, 80, .inl (cover))) :: (a3, .inl (cI, 8, .inl (sun))) :: (a4, .inl (cP, 100, .inr (.inr (.inr (.inr (pcs)))))) :: (a5, .inl (cI, 80, .inl (fs))) :: (a6, .inl (cI, 80, .inl (mk))) :: (a7, .inl (cI, 80, .inl (fd))) :: Z) a3 8 sun (nI (n8 % 8)) (by decide) (by decide) (gmT (gmT (gmT gm0)))) (va_cwS 2 C.ts gX1_dryOneHour_X1_at rfl rfl rfl (by decide +kernel) ⟨(Nat.le_of_ble_eq_true rfl), (Nat.le_of_ble_eq_true rfl)⟩) rfl rfl (Nat.le_of_ble_eq_true rfl) dX1_dryOneHour_10 (Nat.le_of_ble_eq_true rfl) (Nat.le_of_ble_eq_true rfl) (g_is (x := .int (atv 8 sun (nI (n8 % 8)))) (W1 := ((h, .inr (1, [.ref a1, .ref a2, .ref a3, .ref a4, .int (nI np), .int (nI hr), .ref a5, .ref a6, .ref a7])) :: (a1, .inl (cI, 80, .inl (wet))) :: (a2, .inl (cI, 80, .inl (cover))) :: (a3, .inl (cI, 8, .inl (sun))) :: (a4, .inl (cP, 100, .inr (.inr (.inr (.inr (pcs)))))) :: (a5, .inl (cI, 80, .inl (fs))) :: (a6, .inl (cI, 80, .inl (mk))) :: (a7, .inl (cI, 80, .inl (fd))) :: Z)) ?_)
  refine g_eqi (x := atv 8 sun (nI (n8 % 8))) (y := sun (n8 % 8)) (atv_nI (by omega) (by omega)) ?_
  refine g_istore_n (lv' := [(3, .int (sun (n8 % 8))), (0, .ref h), (1, .ref a1), (2, .int (nI n8))]) C dX1_dryOneHour_13 rfl (by decide) rfl ?_
  refine g_iload_n C dX1_dryOneHour_14 rfl 3 rfl ?_
  refine g_iconst (v := 2) C dX1_dryOneHour_15 (by decide) ?_
  refine g_irem C dX1_dryOneHour_16 (by decide) ?_
  refine g_eqi (x := (nI n8) - (nI n8) / 2 * 2) (y := nI (n8 % 2)) (remI n8 2 (by omega) (by omega) (by omega) rfl) ?_
  refine g_if_ne (tgt := 24) C dX1_dryOneHour_17 (by decide) (fun c_1 => ?_) (fun c_1 => ?_)
  · skip
    rw [show (0 : Int32) = nI 0 from rfl, nI_eq (by omega) (by omega)] at c_1
    refine g_iconst (v := 0) C dX1_dryOneHour_24 (by decide) ?_
    refine g_istore (lv' := [(4, .int 0), (3, .int (sun (n8 % 8))), (0, .ref h), (1, .ref a1), (2, .int (nI n8))]) C dX1_dryOneHour_25 (by decide) rfl ?_
    refine g_iconst (v := 0) C dX1_dryOneHour_27 (by decide) ?_
    refine g_istore (lv' := [(5, .int 0), (4, .int 0), (3, .int (sun (n8 % 8))), (0, .ref h), (1, .ref a1), (2, .int (nI n8))]) C dX1_dryOneHour_28 (by decide) rfl ?_
    have lp30_2 : ∀ (n9 : Nat) (i : Nat) (g : Nat → Int32) (hlo : ∀ c, c < i → g c = dry1 wet cover (sun (n8 % 8)) (decide (n8 % 2 = 0)) c) (hhi : ∀ c, i ≤ c → g c = wet c) (hi : i ≤ 80) (hn : 81 ≤ i + n9), G p l e ({ frames := 2, cells := 0, slots := 0, locals := 44 } : Room) s m args below meth c D A s.heap 7 0 0 Q 30 [(0, .ref h), (1, .ref a1), (2, .int (nI n8)), (3, .int (sun (n8 % 8))), (4, .int 0), (5, .int (nI i))] [] ((h, .inr (1, [.ref a1, .ref a2, .ref a3, .ref a4, .int (nI np), .int (nI hr), .ref a5, .ref a6, .ref a7])) :: (a1, .inl (cI, 80, .inl (g))) :: (a2, .inl (cI, 80, .inl (cover))) :: (a3, .inl (cI, 8, .inl (sun))) :: (a4, .inl (cP, 100, .inr (.inr (.inr (.inr (pcs)))))) :: (a5, .inl (cI, 80, .inl (fs))) :: (a6, .inl (cI, 80, .inl (mk))) :: (a7, .inl (cI, 80, .inl (fd))) :: Z) := by
      intro n9
      induction n9 with
      | zero =>
        intro i g hlo hhi hi hn
        exfalso; omega
      | succ n9 ih =>
        intro i g hlo hhi hi hn
        refine g_iload C dX1_dryOneHour_30 5 rfl ?_
        refine g_bipush (v := 80) C dX1_dryOneHour_32 (by decide) ?_
        refine g_icmp_ge (tgt := 101) C dX1_dryOneHour_34 (by decide) (fun c_3 => ?_) (fun c_3 => ?_)
        · skip
          rw [show (80 : Int32) = nI 80 from rfl, nI_leI (by omega) (by omega)] at c_3
          refine g_cong (g := dry1 wet cover (sun (n8 % 8)) (decide (n8 % 2 = 0))) (ws' := ((h, .inr (1, [.ref a1, .ref a2, .ref a3, .ref a4, .int (nI np), .int (nI hr), .ref a5, .ref a6, .ref a7])) :: (a1, .inl (cI, 80, .inl (dry1 wet cover (sun (n8 % 8)) (decide (n8 % 2 = 0))))) :: (a2, .inl (cI, 80, .inl (cover))) :: (a3, .inl (cI, 8, .inl (sun))) :: (a4, .inl (cP, 100, .inr (.inr (.inr (.inr (pcs)))))) :: (a5, .inl (cI, 80, .inl (fs))) :: (a6, .inl (cI, 80, .inl (mk))) :: (a7, .inl (cI, 80, .inl (fd))) :: Z)) 1 rfl (fun j hj => hlo j (by omega)) rfl ?_
          refine g_vret C hQ (Nat.le_of_ble_eq_true rfl) (Nat.le_of_ble_eq_true rfl) dX1_dryOneHour_101 ?_
          exact ⟨rfl, rfl⟩
        · skip
          rw [show (80 : Int32) = nI 80 from rfl, nI_leI (by omega) (by omega)] at c_3
          refine g_aload_n C dX1_dryOneHour_37 rfl 0 rfl ?_
          refine g_get (ci := 1) (Cn := RX1) (T := TX1) (N := 9) C k_X1_dryOneHour_w_inX1 gm0 rfl 1 (by decide) k_X1_dryOneHour_w_2 rfl rfl dX1_dryOneHour_38 ?_
          refine g_iload C dX1_dryOneHour_41 5 rfl ?_
          refine g_callS (As := [.ref a2, .int (nI i)]) (rest := []) C (c_X1_at l D tys cI ht0 ((h, .inr (1, [.ref a1, .ref a2, .ref a3, .ref a4, .int (nI np), .int (nI hr), .ref a5, .ref a6, .ref a7])) :: (a1, .inl (cI, 80, .inl (g))) :: (a2, .inl (cI, 80, .inl (cover))) :: (a3, .inl (cI, 8, .inl (sun))) :: (a4, .inl (cP, 100, .inr (.inr (.inr (.inr (pcs)))))) :: (a5, .inl (cI, 80, .inl (fs))) :: (a6, .inl (cI, 80, .inl (mk))) :: (a7, .inl (cI, 80, .inl (fd))) :: Z) a2 80 cover (nI i) (by decide) (by decide) (gmT (gmT gm0))) (va_cwS 2 C.ts gX1_dryOneHour_X1_at rfl rfl rfl (by decide +kernel) ⟨(Nat.le_of_ble_eq_true rfl), (Nat.le_of_ble_eq_true rfl)⟩) rfl rfl (Nat.le_of_ble_eq_true rfl) dX1_dryOneHour_43 (Nat.le_of_ble_eq_true rfl) (Nat.le_of_ble_eq_true rfl) (g_is (x := .int (atv 80 cover (nI i))) (W1 := ((h, .inr (1, [.ref a1, .ref a2, .ref a3, .ref a4, .int (nI np), .int (nI hr), .ref a5, .ref a6, .ref a7])) :: (a1, .inl (cI, 80, .inl (g))) :: (a2, .inl (cI, 80, .inl (cover))) :: (a3, .inl (cI, 8, .inl (sun))) :: (a4, .inl (cP, 100, .inr (.inr (.inr (.inr (pcs)))))) :: (a5, .inl (cI, 80, .inl (fs))) :: (a6, .inl (cI, 80, .inl (mk))) :: (a7, .inl (cI, 80, .inl (fd))) :: Z)) ?_)
          refine g_eqi (x := atv 80 cover (nI i)) (y := cover i) (atv_nI (by omega) (by omega)) ?_
          refine g_iconst (v := (-1)) C dX1_dryOneHour_46 (by decide) ?_
          refine g_icmp_ne (tgt := 54) C dX1_dryOneHour_47 (by decide) (fun c_4 => ?_) (fun c_4 => ?_)
          · skip
            refine g_iconst (v := 0) C dX1_dryOneHour_54 (by decide) ?_
            refine g_istore (lv' := [(6, .int 0), (0, .ref h), (1, .ref a1), (2, .int (nI n8)), (3, .int (sun (n8 % 8))), (4, .int 0), (5, .int (nI i))]) C dX1_dryOneHour_55 (by decide) rfl ?_
            refine g_aload_n C dX1_dryOneHour_57 rfl 2 rfl ?_
            refine g_iload C dX1_dryOneHour_58 6 rfl ?_
            refine g_callS (As := [.ref a1, .int (nI i)]) (rest := []) C (c_X1_at l D tys cI ht0 ((h, .inr (1, [.ref a1, .ref a2, .ref a3, .ref a4, .int (nI np), .int (nI hr), .ref a5, .ref a6, .ref a7])) :: (a1, .inl (cI, 80, .inl (g))) :: (a2, .inl (cI, 80, .inl (cover))) :: (a3, .inl (cI, 8, .inl (sun))) :: (a4, .inl (cP, 100, .inr (.inr (.inr (.inr (pcs)))))) :: (a5, .inl (cI, 80, .inl (fs))) :: (a6, .inl (cI, 80, .inl (mk))) :: (a7, .inl (cI, 80, .inl (fd))) :: Z) a1 80 g (nI i) (by decide) (by decide) (gmT gm0)) (va_cwS 2 C.ts gX1_dryOneHour_X1_at rfl rfl rfl (by decide +kernel) ⟨(Nat.le_of_ble_eq_true rfl), (Nat.le_of_ble_eq_true rfl)⟩) rfl rfl (Nat.le_of_ble_eq_true rfl) dX1_dryOneHour_60 (Nat.le_of_ble_eq_true rfl) (Nat.le_of_ble_eq_true rfl) (g_is (x := .int (atv 80 g (nI i))) (W1 := ((h, .inr (1, [.ref a1, .ref a2, .ref a3, .ref a4, .int (nI np), .int (nI hr), .ref a5, .ref a6, .ref a7])) :: (a1, .inl (cI, 80, .inl (g))) :: (a2, .inl (cI, 80, .inl (cover))) :: (a3, .inl (cI, 8, .inl (sun))) :: (a4, .inl (cP, 100, .inr (.inr (.inr (.inr (pcs)))))) :: (a5, .inl (cI, 80, .inl (fs))) :: (a6, .inl (cI, 80, .inl (mk))) :: (a7, .inl (cI, 80, .inl (fd))) :: Z)) ?_)
            refine g_eqi (x := atv 80 g (nI i)) (y := wet i) ((atv_nI (by omega) (by omega)).trans (hhi i (by omega))) ?_
            refine g_iconst (v := 1) C dX1_dryOneHour_63 (by decide) ?_
            refine g_icmp_lt (tgt := 95) C dX1_dryOneHour_64 (by decide) (fun c_5 => ?_) (fun c_5 => ?_)
            · skip
              refine g_iinc (v := nI (i + 1)) (lv' := [(5, .int (nI (i + 1))), (6, .int 0), (0, .ref h), (1, .ref a1), (2, .int (nI n8)), (3, .int (sun (n8 % 8))), (4, .int 0)]) C dX1_dryOneHour_95 6 rfl (by exact nI_add _ 1) (by decide) rfl ?_
              refine g_goto (tgt := 30) C dX1_dryOneHour_98 (by decide) ?_
              refine g_sub [2, 3, 4, 5, 6, 0] (lv' := [(0, .ref h), (1, .ref a1), (2, .int (nI n8)), (3, .int (sun (n8 % 8))), (4, .int 0), (5, .int (nI (i + 1)))]) rfl ?_
              exact ih (i + 1) _ (lo_keep hlo hhi (by first | (rw [dry1, if_neg (fun hh => i_nle (by assumption) hh.1)]; done) | simp [dry1, *])) (fun c hc => hhi c (by omega)) (by omega) (by omega)
            · skip
              refine g_iload C dX1_dryOneHour_67 0 rfl ?_
              refine g_if_ne (tgt := 77) C dX1_dryOneHour_69 (by decide) (fun c_6 => by exfalso; revert c_6; decide) (fun c_6 => ?_)
              refine g_iload C dX1_dryOneHour_72 5 rfl ?_
              refine g_if_eq (tgt := 95) C dX1_dryOneHour_74 (by decide) (fun c_7 => ?_) (fun c_7 => by exfalso; revert c_7; decide)
              refine g_iinc (v := nI (i + 1)) (lv' := [(5, .int (nI (i + 1))), (6, .int 0), (0, .ref h), (1, .ref a1), (2, .int (nI n8)), (3, .int (sun (n8 % 8))), (4, .int 0)]) C dX1_dryOneHour_95 6 rfl (by exact nI_add _ 1) (by decide) rfl ?_
              refine g_goto (tgt := 30) C dX1_dryOneHour_98 (by decide) ?_
              refine g_sub [2, 3, 4, 5, 6, 0] (lv' := [(0, .ref h), (1, .ref a1), (2, .int (nI n8)), (3, .int (sun (n8 % 8))), (4, .int 0), (5, .int (nI (i + 1)))]) rfl ?_
              exact ih (i + 1) _ (lo_keep hlo hhi (by first | (rw [dry1, if_neg (fun hh => i_nle (by assumption) hh.1)]; done) | simp [dry1, *])) (fun c hc => hhi c (by omega)) (by omega) (by omega)
          · skip
            refine g_iconst (v := 1) C dX1_dryOneHour_50 (by decide) ?_
            refine g_goto (tgt := 55) C dX1_dryOneHour_51 (by decide) ?_
            refine g_istore (lv' := [(6, .int 1), (0, .ref h), (1, .ref a1), (2, .int (nI n8)), (3, .int (sun (n8 % 8))), (4, .int 0), (5, .int (nI i))]) C dX1_dryOneHour_55 (by decide) rfl ?_
            refine g_aload_n C dX1_dryOneHour_57 rfl 2 rfl ?_
            refine g_iload C dX1_dryOneHour_58 6 rfl ?_
            refine g_callS (As := [.ref a1, .int (nI i)]) (rest := []) C (c_X1_at l D tys cI ht0 ((h, .inr (1, [.ref a1, .ref a2, .ref a3, .ref a4, .int (nI np), .int (nI hr), .ref a5, .ref a6, .ref a7])) :: (a1, .inl (cI, 80, .inl (g))) :: (a2, .inl (cI, 80, .inl (cover))) :: (a3, .inl (cI, 8, .inl (sun))) :: (a4, .inl (cP, 100, .inr (.inr (.inr (.inr (pcs)))))) :: (a5, .inl (cI, 80, .inl (fs))) :: (a6, .inl (cI, 80, .inl (mk))) :: (a7, .inl (cI, 80, .inl (fd))) :: Z) a1 80 g (nI i) (by decide) (by decide) (gmT gm0)) (va_cwS 2 C.ts gX1_dryOneHour_X1_at rfl rfl rfl (by decide +kernel) ⟨(Nat.le_of_ble_eq_true rfl), (Nat.le_of_ble_eq_true rfl)⟩) rfl rfl (Nat.le_of_ble_eq_true rfl) dX1_dryOneHour_60 (Nat.le_of_ble_eq_true rfl) (Nat.le_of_ble_eq_true rfl) (g_is (x := .int (atv 80 g (nI i))) (W1 := ((h, .inr (1, [.ref a1, .ref a2, .ref a3, .ref a4, .int (nI np), .int (nI hr), .ref a5, .ref a6, .ref a7])) :: (a1, .inl (cI, 80, .inl (g))) :: (a2, .inl (cI, 80, .inl (cover))) :: (a3, .inl (cI, 8, .inl (sun))) :: (a4, .inl (cP, 100, .inr (.inr (.inr (.inr (pcs)))))) :: (a5, .inl (cI, 80, .inl (fs))) :: (a6, .inl (cI, 80, .inl (mk))) :: (a7, .inl (cI, 80, .inl (fd))) :: Z)) ?_)
            refine g_eqi (x := atv 80 g (nI i)) (y := wet i) ((atv_nI (by omega) (by omega)).trans (hhi i (by omega))) ?_
            refine g_iconst (v := 1) C dX1_dryOneHour_63 (by decide) ?_
            refine g_icmp_lt (tgt := 95) C dX1_dryOneHour_64 (by decide) (fun c_8 => ?_) (fun c_8 => ?_)
            · skip
              refine g_iinc (v := nI (i + 1)) (lv' := [(5, .int (nI (i + 1))), (6, .int 1), (0, .ref h), (1, .ref a1), (2, .int (nI n8)), (3, .int (sun (n8 % 8))), (4, .int 0)]) C dX1_dryOneHour_95 6 rfl (by exact nI_add _ 1) (by decide) rfl ?_
              refine g_goto (tgt := 30) C dX1_dryOneHour_98 (by decide) ?_
              refine g_sub [2, 3, 4, 5, 6, 0] (lv' := [(0, .ref h), (1, .ref a1), (2, .int (nI n8)), (3, .int (sun (n8 % 8))), (4, .int 0), (5, .int (nI (i + 1)))]) rfl ?_
              exact ih (i + 1) _ (lo_keep hlo hhi (by first | (rw [dry1, if_neg (fun hh => i_nle (by assumption) hh.1)]; done) | simp [dry1, *])) (fun c hc => hhi c (by omega)) (by omega) (by omega)
            · skip
              refine g_iload C dX1_dryOneHour_67 0 rfl ?_
              refine g_if_ne (tgt := 77) C dX1_dryOneHour_69 (by decide) (fun c_9 => ?_) (fun c_9 => by exfalso; revert c_9; decide)
              refine g_aload_n C dX1_dryOneHour_77 rfl 2 rfl ?_
              refine g_iload C dX1_dryOneHour_78 6 rfl ?_
              refine g_iconst (v := 0) C dX1_dryOneHour_80 (by decide) ?_
              refine g_aload_n C dX1_dryOneHour_81 rfl 2 rfl ?_
              refine g_iload C dX1_dryOneHour_82 6 rfl ?_
              refine g_callS (As := [.ref a1, .int (nI i)]) (rest := [.int 0, .int (nI i), .ref a1]) C (c_X1_at l D tys cI ht0 ((h, .inr (1, [.ref a1, .ref a2, .ref a3, .ref a4, .int (nI np), .int (nI hr), .ref a5, .ref a6, .ref a7])) :: (a1, .inl (cI, 80, .inl (g))) :: (a2, .inl (cI, 80, .inl (cover))) :: (a3, .inl (cI, 8, .inl (sun))) :: (a4, .inl (cP, 100, .inr (.inr (.inr (.inr (pcs)))))) :: (a5, .inl (cI, 80, .inl (fs))) :: (a6, .inl (cI, 80, .inl (mk))) :: (a7, .inl (cI, 80, .inl (fd))) :: Z) a1 80 g (nI i) (by decide) (by decide) (gmT gm0)) (va_cwS 2 C.ts gX1_dryOneHour_X1_at rfl rfl rfl (by decide +kernel) ⟨(Nat.le_of_ble_eq_true rfl), (Nat.le_of_ble_eq_true rfl)⟩) rfl rfl (Nat.le_of_ble_eq_true rfl) dX1_dryOneHour_84 (Nat.le_of_ble_eq_true rfl) (Nat.le_of_ble_eq_true rfl) (g_is (x := .int (atv 80 g (nI i))) (W1 := ((h, .inr (1, [.ref a1, .ref a2, .ref a3, .ref a4, .int (nI np), .int (nI hr), .ref a5, .ref a6, .ref a7])) :: (a1, .inl (cI, 80, .inl (g))) :: (a2, .inl (cI, 80, .inl (cover))) :: (a3, .inl (cI, 8, .inl (sun))) :: (a4, .inl (cP, 100, .inr (.inr (.inr (.inr (pcs)))))) :: (a5, .inl (cI, 80, .inl (fs))) :: (a6, .inl (cI, 80, .inl (mk))) :: (a7, .inl (cI, 80, .inl (fd))) :: Z)) ?_)
              refine g_eqi (x := atv 80 g (nI i)) (y := wet i) ((atv_nI (by omega) (by omega)).trans (hhi i (by omega))) ?_
              refine g_iload_n C dX1_dryOneHour_87 rfl 4 rfl ?_
              refine g_isub C dX1_dryOneHour_88 ?_
              refine g_max C k_X1_dryOneHour_w_3 k_X1_dryOneHour_w_4 k_X1_dryOneHour_w_5 k_X1_dryOneHour_w_6 (Nat.le_of_ble_eq_true rfl) (Nat.le_of_ble_eq_true rfl) (Nat.le_of_ble_eq_true rfl) (Nat.le_of_ble_eq_true rfl) dX1_dryOneHour_89 ?_
              refine g_callS (As := [.ref a1, .int (nI i), .int (if 0 < (wet i) - (sun (n8 % 8)) then (wet i) - (sun (n8 % 8)) else 0)]) (rest := []) C (c_X1_put l D tys cI ht0 ((h, .inr (1, [.ref a1, .ref a2, .ref a3, .ref a4, .int (nI np), .int (nI hr), .ref a5, .ref a6, .ref a7])) :: (a1, .inl (cI, 80, .inl (g))) :: (a2, .inl (cI, 80, .inl (cover))) :: (a3, .inl (cI, 8, .inl (sun))) :: (a4, .inl (cP, 100, .inr (.inr (.inr (.inr (pcs)))))) :: (a5, .inl (cI, 80, .inl (fs))) :: (a6, .inl (cI, 80, .inl (mk))) :: (a7, .inl (cI, 80, .inl (fd))) :: Z) 1 a1 80 g (nI i) (if 0 < (wet i) - (sun (n8 % 8)) then (wet i) - (sun (n8 % 8)) else 0) (by decide) (by decide) rfl) (va_cwS 3 C.ts gX1_dryOneHour_X1_put rfl rfl rfl (by decide +kernel) ⟨(Nat.le_of_ble_eq_true rfl), (Nat.le_of_ble_eq_true rfl)⟩) rfl rfl (Nat.le_of_ble_eq_true rfl) dX1_dryOneHour_92 (Nat.le_of_ble_eq_true rfl) (Nat.le_of_ble_eq_true rfl) (g_isV (W1 := ((h, .inr (1, [.ref a1, .ref a2, .ref a3, .ref a4, .int (nI np), .int (nI hr), .ref a5, .ref a6, .ref a7])) :: (a1, .inl (cI, 80, .inl (putv 80 g (nI i) (if 0 < (wet i) - (sun (n8 % 8)) then (wet i) - (sun (n8 % 8)) else 0)))) :: (a2, .inl (cI, 80, .inl (cover))) :: (a3, .inl (cI, 8, .inl (sun))) :: (a4, .inl (cP, 100, .inr (.inr (.inr (.inr (pcs)))))) :: (a5, .inl (cI, 80, .inl (fs))) :: (a6, .inl (cI, 80, .inl (mk))) :: (a7, .inl (cI, 80, .inl (fd))) :: Z)) ?_)
              rw [putv_nI (c := i) (by omega) (by omega)]
              refine g_iinc (v := nI (i + 1)) (lv' := [(5, .int (nI (i + 1))), (6, .int 1), (0, .ref h), (1, .ref a1), (2, .int (nI n8)), (3, .int (sun (n8 % 8))), (4, .int 0)]) C dX1_dryOneHour_95 6 rfl (by exact nI_add _ 1) (by decide) rfl ?_
              refine g_goto (tgt := 30) C dX1_dryOneHour_98 (by decide) ?_
              refine g_sub [2, 3, 4, 5, 6, 0] (lv' := [(0, .ref h), (1, .ref a1), (2, .int (nI n8)), (3, .int (sun (n8 % 8))), (4, .int 0), (5, .int (nI (i + 1)))]) rfl ?_
              exact ih (i + 1) _ (lo_put hlo (by simp [dry1, *])) (hi_put hhi) (by omega) (by omega)
    refine g_sub [3, 4, 5, 2, 1, 0] (lv' := [(0, .ref h), (1, .ref a1), (2, .int (nI n8)), (3, .int (sun (n8 % 8))), (4, .int 0), (5, .int 0)]) rfl ?_
    exact lp30_2 81 0 wet (fun c hc => absurd hc (Nat.not_lt_zero c)) (fun c hc => rfl) (by omega) (by omega)
  · skip
    rw [show (0 : Int32) = nI 0 from rfl, nI_eq (by omega) (by omega)] at c_1
    refine g_iconst (v := 1) C dX1_dryOneHour_20 (by decide) ?_
    refine g_goto (tgt := 25) C dX1_dryOneHour_21 (by decide) ?_
    refine g_istore (lv' := [(4, .int 1), (3, .int (sun (n8 % 8))), (0, .ref h), (1, .ref a1), (2, .int (nI n8))]) C dX1_dryOneHour_25 (by decide) rfl ?_
    refine g_iconst (v := 0) C dX1_dryOneHour_27 (by decide) ?_
    refine g_istore (lv' := [(5, .int 0), (4, .int 1), (3, .int (sun (n8 % 8))), (0, .ref h), (1, .ref a1), (2, .int (nI n8))]) C dX1_dryOneHour_28 (by decide) rfl ?_
    have lp30_10 : ∀ (n9 : Nat) (i : Nat) (g : Nat → Int32) (hlo : ∀ c, c < i → g c = dry1 wet cover (sun (n8 % 8)) (decide (n8 % 2 = 0)) c) (hhi : ∀ c, i ≤ c → g c = wet c) (hi : i ≤ 80) (hn : 81 ≤ i + n9), G p l e ({ frames := 2, cells := 0, slots := 0, locals := 44 } : Room) s m args below meth c D A s.heap 7 0 0 Q 30 [(0, .ref h), (1, .ref a1), (2, .int (nI n8)), (3, .int (sun (n8 % 8))), (4, .int 1), (5, .int (nI i))] [] ((h, .inr (1, [.ref a1, .ref a2, .ref a3, .ref a4, .int (nI np), .int (nI hr), .ref a5, .ref a6, .ref a7])) :: (a1, .inl (cI, 80, .inl (g))) :: (a2, .inl (cI, 80, .inl (cover))) :: (a3, .inl (cI, 8, .inl (sun))) :: (a4, .inl (cP, 100, .inr (.inr (.inr (.inr (pcs)))))) :: (a5, .inl (cI, 80, .inl (fs))) :: (a6, .inl (cI, 80, .inl (mk))) :: (a7, .inl (cI, 80, .inl (fd))) :: Z) := by
      intro n9
      induction n9 with
      | zero =>
        intro i g hlo hhi hi hn
        exfalso; omega
      | succ n9 ih =>
        intro i g hlo hhi hi hn
        refine g_iload C dX1_dryOneHour_30 5 rfl ?_
        refine g_bipush (v := 80) C dX1_dryOneHour_32 (by decide) ?_
        refine g_icmp_ge (tgt := 101) C dX1_dryOneHour_34 (by decide) (fun c_11 => ?_) (fun c_11 => ?_)
        · skip
          rw [show (80 : Int32) = nI 80 from rfl, nI_leI (by omega) (by omega)] at c_11
          refine g_cong (g := dry1 wet cover (sun (n8 % 8)) (decide (n8 % 2 = 0))) (ws' := ((h, .inr (1, [.ref a1, .ref a2, .ref a3, .ref a4, .int (nI np), .int (nI hr), .ref a5, .ref a6, .ref a7])) :: (a1, .inl (cI, 80, .inl (dry1 wet cover (sun (n8 % 8)) (decide (n8 % 2 = 0))))) :: (a2, .inl (cI, 80, .inl (cover))) :: (a3, .inl (cI, 8, .inl (sun))) :: (a4, .inl (cP, 100, .inr (.inr (.inr (.inr (pcs)))))) :: (a5, .inl (cI, 80, .inl (fs))) :: (a6, .inl (cI, 80, .inl (mk))) :: (a7, .inl (cI, 80, .inl (fd))) :: Z)) 1 rfl (fun j hj => hlo j (by omega)) rfl ?_
          refine g_vret C hQ (Nat.le_of_ble_eq_true rfl) (Nat.le_of_ble_eq_true rfl) dX1_dryOneHour_101 ?_
          exact ⟨rfl, rfl⟩
        · skip
          rw [show (80 : Int32) = nI 80 from rfl, nI_leI (by omega) (by omega)] at c_11
          refine g_aload_n C dX1_dryOneHour_37 rfl 0 rfl ?_
          refine g_get (ci := 1) (Cn := RX1) (T := TX1) (N := 9) C k_X1_dryOneHour_w_inX1 gm0 rfl 1 (by decide) k_X1_dryOneHour_w_2 rfl rfl dX1_dryOneHour_38 ?_
          refine g_iload C dX1_dryOneHour_41 5 rfl ?_
          refine g_callS (As := [.ref a2, .int (nI i)]) (rest := []) C (c_X1_at l D tys cI ht0 ((h, .inr (1, [.ref a1, .ref a2, .ref a3, .ref a4, .int (nI np), .int (nI hr), .ref a5, .ref a6, .ref a7])) :: (a1, .inl (cI, 80, .inl (g))) :: (a2, .inl (cI, 80, .inl (cover))) :: (a3, .inl (cI, 8, .inl (sun))) :: (a4, .inl (cP, 100, .inr (.inr (.inr (.inr (pcs)))))) :: (a5, .inl (cI, 80, .inl (fs))) :: (a6, .inl (cI, 80, .inl (mk))) :: (a7, .inl (cI, 80, .inl (fd))) :: Z) a2 80 cover (nI i) (by decide) (by decide) (gmT (gmT gm0))) (va_cwS 2 C.ts gX1_dryOneHour_X1_at rfl rfl rfl (by decide +kernel) ⟨(Nat.le_of_ble_eq_true rfl), (Nat.le_of_ble_eq_true rfl)⟩) rfl rfl (Nat.le_of_ble_eq_true rfl) dX1_dryOneHour_43 (Nat.le_of_ble_eq_true rfl) (Nat.le_of_ble_eq_true rfl) (g_is (x := .int (atv 80 cover (nI i))) (W1 := ((h, .inr (1, [.ref a1, .ref a2, .ref a3, .ref a4, .int (nI np), .int (nI hr), .ref a5, .ref a6, .ref a7])) :: (a1, .inl (cI, 80, .inl (g))) :: (a2, .inl (cI, 80, .inl (cover))) :: (a3, .inl (cI, 8, .inl (sun))) :: (a4, .inl (cP, 100, .inr (.inr (.inr (.inr (pcs)))))) :: (a5, .inl (cI, 80, .inl (fs))) :: (a6, .inl (cI, 80, .inl (mk))) :: (a7, .inl (cI, 80, .inl (fd))) :: Z)) ?_)
          refine g_eqi (x := atv 80 cover (nI i)) (y := cover i) (atv_nI (by omega) (by omega)) ?_
          refine g_iconst (v := (-1)) C dX1_dryOneHour_46 (by decide) ?_
          refine g_icmp_ne (tgt := 54) C dX1_dryOneHour_47 (by decide) (fun c_12 => ?_) (fun c_12 => ?_)
          · skip
            refine g_iconst (v := 0) C dX1_dryOneHour_54 (by decide) ?_
            refine g_istore (lv' := [(6, .int 0), (0, .ref h), (1, .ref a1), (2, .int (nI n8)), (3, .int (sun (n8 % 8))), (4, .int 1), (5, .int (nI i))]) C dX1_dryOneHour_55 (by decide) rfl ?_
            refine g_aload_n C dX1_dryOneHour_57 rfl 2 rfl ?_
            refine g_iload C dX1_dryOneHour_58 6 rfl ?_
            refine g_callS (As := [.ref a1, .int (nI i)]) (rest := []) C (c_X1_at l D tys cI ht0 ((h, .inr (1, [.ref a1, .ref a2, .ref a3, .ref a4, .int (nI np), .int (nI hr), .ref a5, .ref a6, .ref a7])) :: (a1, .inl (cI, 80, .inl (g))) :: (a2, .inl (cI, 80, .inl (cover))) :: (a3, .inl (cI, 8, .inl (sun))) :: (a4, .inl (cP, 100, .inr (.inr (.inr (.inr (pcs)))))) :: (a5, .inl (cI, 80, .inl (fs))) :: (a6, .inl (cI, 80, .inl (mk))) :: (a7, .inl (cI, 80, .inl (fd))) :: Z) a1 80 g (nI i) (by decide) (by decide) (gmT gm0)) (va_cwS 2 C.ts gX1_dryOneHour_X1_at rfl rfl rfl (by decide +kernel) ⟨(Nat.le_of_ble_eq_true rfl), (Nat.le_of_ble_eq_true rfl)⟩) rfl rfl (Nat.le_of_ble_eq_true rfl) dX1_dryOneHour_60 (Nat.le_of_ble_eq_true rfl) (Nat.le_of_ble_eq_true rfl) (g_is (x := .int (atv 80 g (nI i))) (W1 := ((h, .inr (1, [.ref a1, .ref a2, .ref a3, .ref a4, .int (nI np), .int (nI hr), .ref a5, .ref a6, .ref a7])) :: (a1, .inl (cI, 80, .inl (g))) :: (a2, .inl (cI, 80, .inl (cover))) :: (a3, .inl (cI, 8, .inl (sun))) :: (a4, .inl (cP, 100, .inr (.inr (.inr (.inr (pcs)))))) :: (a5, .inl (cI, 80, .inl (fs))) :: (a6, .inl (cI, 80, .inl (mk))) :: (a7, .inl (cI, 80, .inl (fd))) :: Z)) ?_)
            refine g_eqi (x := atv 80 g (nI i)) (y := wet i) ((atv_nI (by omega) (by omega)).trans (hhi i (by omega))) ?_
            refine g_iconst (v := 1) C dX1_dryOneHour_63 (by decide) ?_
            refine g_icmp_lt (tgt := 95) C dX1_dryOneHour_64 (by decide) (fun c_13 => ?_) (fun c_13 => ?_)
            · skip
              refine g_iinc (v := nI (i + 1)) (lv' := [(5, .int (nI (i + 1))), (6, .int 0), (0, .ref h), (1, .ref a1), (2, .int (nI n8)), (3, .int (sun (n8 % 8))), (4, .int 1)]) C dX1_dryOneHour_95 6 rfl (by exact nI_add _ 1) (by decide) rfl ?_
              refine g_goto (tgt := 30) C dX1_dryOneHour_98 (by decide) ?_
              refine g_sub [2, 3, 4, 5, 6, 0] (lv' := [(0, .ref h), (1, .ref a1), (2, .int (nI n8)), (3, .int (sun (n8 % 8))), (4, .int 1), (5, .int (nI (i + 1)))]) rfl ?_
              exact ih (i + 1) _ (lo_keep hlo hhi (by first | (rw [dry1, if_neg (fun hh => i_nle (by assumption) hh.1)]; done) | simp [dry1, *])) (fun c hc => hhi c (by omega)) (by omega) (by omega)
            · skip
              refine g_iload C dX1_dryOneHour_67 0 rfl ?_
              refine g_if_ne (tgt := 77) C dX1_dryOneHour_69 (by decide) (fun c_14 => by exfalso; revert c_14; decide) (fun c_14 => ?_)
              refine g_iload C dX1_dryOneHour_72 5 rfl ?_
              refine g_if_eq (tgt := 95) C dX1_dryOneHour_74 (by decide) (fun c_15 => by exfalso; revert c_15; decide) (fun c_15 => ?_)
              refine g_aload_n C dX1_dryOneHour_77 rfl 2 rfl ?_
              refine g_iload C dX1_dryOneHour_78 6 rfl ?_
              refine g_iconst (v := 0) C dX1_dryOneHour_80 (by decide) ?_
              refine g_aload_n C dX1_dryOneHour_81 rfl 2 rfl ?_
              refine g_iload C dX1_dryOneHour_82 6 rfl ?_
              refine g_callS (As := [.ref a1, .int (nI i)]) (rest := [.int 0, .int (nI i), .ref a1]) C (c_X1_at l D tys cI ht0 ((h, .inr (1, [.ref a1, .ref a2, .ref a3, .ref a4, .int (nI np), .int (nI hr), .ref a5, .ref a6, .ref a7])) :: (a1, .inl (cI, 80, .inl (g))) :: (a2, .inl (cI, 80, .inl (cover))) :: (a3, .inl (cI, 8, .inl (sun))) :: (a4, .inl (cP, 100, .inr (.inr (.inr (.inr (pcs)))))) :: (a5, .inl (cI, 80, .inl (fs))) :: (a6, .inl (cI, 80, .inl (mk))) :: (a7, .inl (cI, 80, .inl (fd))) :: Z) a1 80 g (nI i) (by decide) (by decide) (gmT gm0)) (va_cwS 2 C.ts gX1_dryOneHour_X1_at rfl rfl rfl (by decide +kernel) ⟨(Nat.le_of_ble_eq_true rfl), (Nat.le_of_ble_eq_true rfl)⟩) rfl rfl (Nat.le_of_ble_eq_true rfl) dX1_dryOneHour_84 (Nat.le_of_ble_eq_true rfl) (Nat.le_of_ble_eq_true rfl) (g_is (x := .int (atv 80 g (nI i))) (W1 := ((h, .inr (1, [.ref a1, .ref a2, .ref a3, .ref a4, .int (nI np), .int (nI hr), .ref a5, .ref a6, .ref a7])) :: (a1, .inl (cI, 80, .inl (g))) :: (a2, .inl (cI, 80, .inl (cover))) :: (a3, .inl (cI, 8, .inl (sun))) :: (a4, .inl (cP, 100, .inr (.inr (.inr (.inr (pcs)))))) :: (a5, .inl (cI, 80, .inl (fs))) :: (a6, .inl (cI, 80, .inl (mk))) :: (a7, .inl (cI, 80, .inl (fd))) :: Z)) ?_)
              refine g_eqi (x := atv 80 g (nI i)) (y := wet i) ((atv_nI (by omega) (by omega)).trans (hhi i (by omega))) ?_
              refine g_iload_n C dX1_dryOneHour_87 rfl 4 rfl ?_
              refine g_isub C dX1_dryOneHour_88 ?_
              refine g_max C k_X1_dryOneHour_w_3 k_X1_dryOneHour_w_4 k_X1_dryOneHour_w_5 k_X1_dryOneHour_w_6 (Nat.le_of_ble_eq_true rfl) (Nat.le_of_ble_eq_true rfl) (Nat.le_of_ble_eq_true rfl) (Nat.le_of_ble_eq_true rfl) dX1_dryOneHour_89 ?_
              refine g_callS (As := [.ref a1, .int (nI i), .int (if 0 < (wet i) - (sun (n8 % 8)) then (wet i) - (sun (n8 % 8)) else 0)]) (rest := []) C (c_X1_put l D tys cI ht0 ((h, .inr (1, [.ref a1, .ref a2, .ref a3, .ref a4, .int (nI np), .int (nI hr), .ref a5, .ref a6, .ref a7])) :: (a1, .inl (cI, 80, .inl (g))) :: (a2, .inl (cI, 80, .inl (cover))) :: (a3, .inl (cI, 8, .inl (sun))) :: (a4, .inl (cP, 100, .inr (.inr (.inr (.inr (pcs)))))) :: (a5, .inl (cI, 80, .inl (fs))) :: (a6, .inl (cI, 80, .inl (mk))) :: (a7, .inl (cI, 80, .inl (fd))) :: Z) 1 a1 80 g (nI i) (if 0 < (wet i) - (sun (n8 % 8)) then (wet i) - (sun (n8 % 8)) else 0) (by decide) (by decide) rfl) (va_cwS 3 C.ts gX1_dryOneHour_X1_put rfl rfl rfl (by decide +kernel) ⟨(Nat.le_of_ble_eq_true rfl), (Nat.le_of_ble_eq_true rfl)⟩) rfl rfl (Nat.le_of_ble_eq_true rfl) dX1_dryOneHour_92 (Nat.le_of_ble_eq_true rfl) (Nat.le_of_ble_eq_true rfl) (g_isV (W1 := ((h, .inr (1, [.ref a1, .ref a2, .ref a3, .ref a4, .int (nI np), .int (nI hr), .ref a5, .ref a6, .ref a7])) :: (a1, .inl (cI, 80, .inl (putv 80 g (nI i) (if 0 < (wet i) - (sun (n8 % 8)) then (wet i) - (sun (n8 % 8)) else 0)))) :: (a2, .inl (cI, 80, .inl (cover))) :: (a3, .inl (cI, 8, .inl (sun))) :: (a4, .inl (cP, 100, .inr (.inr (.inr (.inr (pcs)))))) :: (a5, .inl (cI, 80, .inl (fs))) :: (a6, .inl (cI, 80, .inl (mk))) :: (a7, .inl (cI, 80, .inl (fd))) :: Z)) ?_)
              rw [putv_nI (c := i) (by omega) (by omega)]
              refine g_iinc (v := nI (i + 1)) (lv' := [(5, .int (nI (i + 1))), (6, .int 0), (0, .ref h), (1, .ref a1), (2, .int (nI n8)), (3, .int (sun (n8 % 8))), (4, .int 1)]) C dX1_dryOneHour_95 6 rfl (by exact nI_add _ 1) (by decide) rfl ?_
              refine g_goto (tgt := 30) C dX1_dryOneHour_98 (by decide) ?_
              refine g_sub [2, 3, 4, 5, 6, 0] (lv' := [(0, .ref h), (1, .ref a1), (2, .int (nI n8)), (3, .int (sun (n8 % 8))), (4, .int 1), (5, .int (nI (i + 1)))]) rfl ?_
              exact ih (i + 1) _ (lo_put hlo (by simp [dry1, *])) (hi_put hhi) (by omega) (by omega)
          · skip
            refine g_iconst (v := 1) C dX1_dryOneHour_50 (by decide) ?_
            refine g_goto (tgt := 55) C dX1_dryOneHour_51 (by decide) ?_
            refine g_istore (lv' := [(6, .int 1), (0, .ref h), (1, .ref a1), (2, .int (nI n8)), (3, .int (sun (n8 % 8))), (4, .int 1), (5, .int (nI i))]) C dX1_dryOneHour_55 (by decide) rfl ?_
            refine g_aload_n C dX1_dryOneHour_57 rfl 2 rfl ?_
            refine g_iload C dX1_dryOneHour_58 6 rfl ?_
            refine g_callS (As := [.ref a1, .int (nI i)]) (rest := []) C (c_X1_at l D tys cI ht0 ((h, .inr (1, [.ref a1, .ref a2, .ref a3, .ref a4, .int (nI np), .int (nI hr), .ref a5, .ref a6, .ref a7])) :: (a1, .inl (cI, 80, .inl (g))) :: (a2, .inl (cI, 80, .inl (cover))) :: (a3, .inl (cI, 8, .inl (sun))) :: (a4, .inl (cP, 100, .inr (.inr (.inr (.inr (pcs)))))) :: (a5, .inl (cI, 80, .inl (fs))) :: (a6, .inl (cI, 80, .inl (mk))) :: (a7, .inl (cI, 80, .inl (fd))) :: Z) a1 80 g (nI i) (by decide) (by decide) (gmT gm0)) (va_cwS 2 C.ts gX1_dryOneHour_X1_at rfl rfl rfl (by decide +kernel) ⟨(Nat.le_of_ble_eq_true rfl), (Nat.le_of_ble_eq_true rfl)⟩) rfl rfl (Nat.le_of_ble_eq_true rfl) dX1_dryOneHour_60 (Nat.le_of_ble_eq_true rfl) (Nat.le_of_ble_eq_true rfl) (g_is (x := .int (atv 80 g (nI i))) (W1 := ((h, .inr (1, [.ref a1, .ref a2, .ref a3, .ref a4, .int (nI np), .int (nI hr), .ref a5, .ref a6, .ref a7])) :: (a1, .inl (cI, 80, .inl (g))) :: (a2, .inl (cI, 80, .inl (cover))) :: (a3, .inl (cI, 8, .inl (sun))) :: (a4, .inl (cP, 100, .inr (.inr (.inr (.inr (pcs)))))) :: (a5, .inl (cI, 80, .inl (fs))) :: (a6, .inl (cI, 80, .inl (mk))) :: (a7, .inl (cI, 80, .inl (fd))) :: Z)) ?_)
            refine g_eqi (x := atv 80 g (nI i)) (y := wet i) ((atv_nI (by omega) (by omega)).trans (hhi i (by omega))) ?_
            refine g_iconst (v := 1) C dX1_dryOneHour_63 (by decide) ?_
            refine g_icmp_lt (tgt := 95) C dX1_dryOneHour_64 (by decide) (fun c_16 => ?_) (fun c_16 => ?_)
            · skip
              refine g_iinc (v := nI (i + 1)) (lv' := [(5, .int (nI (i + 1))), (6, .int 1), (0, .ref h), (1, .ref a1), (2, .int (nI n8)), (3, .int (sun (n8 % 8))), (4, .int 1)]) C dX1_dryOneHour_95 6 rfl (by exact nI_add _ 1) (by decide) rfl ?_
              refine g_goto (tgt := 30) C dX1_dryOneHour_98 (by decide) ?_
              refine g_sub [2, 3, 4, 5, 6, 0] (lv' := [(0, .ref h), (1, .ref a1), (2, .int (nI n8)), (3, .int (sun (n8 % 8))), (4, .int 1), (5, .int (nI (i + 1)))]) rfl ?_
              exact ih (i + 1) _ (lo_keep hlo hhi (by first | (rw [dry1, if_neg (fun hh => i_nle (by assumption) hh.1)]; done) | simp [dry1, *])) (fun c hc => hhi c (by omega)) (by omega) (by omega)
            · skip
              refine g_iload C dX1_dryOneHour_67 0 rfl ?_
              refine g_if_ne (tgt := 77) C dX1_dryOneHour_69 (by decide) (fun c_17 => ?_) (fun c_17 => by exfalso; revert c_17; decide)
              refine g_aload_n C dX1_dryOneHour_77 rfl 2 rfl ?_
              refine g_iload C dX1_dryOneHour_78 6 rfl ?_
              refine g_iconst (v := 0) C dX1_dryOneHour_80 (by decide) ?_
              refine g_aload_n C dX1_dryOneHour_81 rfl 2 rfl ?_
              refine g_iload C dX1_dryOneHour_82 6 rfl ?_
              refine g_callS (As := [.ref a1, .int (nI i)]) (rest := [.int 0, .int (nI i), .ref a1]) C (c_X1_at l D tys cI ht0 ((h, .inr (1, [.ref a1, .ref a2, .ref a3, .ref a4, .int (nI np), .int (nI hr), .ref a5, .ref a6, .ref a7])) :: (a1, .inl (cI, 80, .inl (g))) :: (a2, .inl (cI, 80, .inl (cover))) :: (a3, .inl (cI, 8, .inl (sun))) :: (a4, .inl (cP, 100, .inr (.inr (.inr (.inr (pcs)))))) :: (a5, .inl (cI, 80, .inl (fs))) :: (a6, .inl (cI, 80, .inl (mk))) :: (a7, .inl (cI, 80, .inl (fd))) :: Z) a1 80 g (nI i) (by decide) (by decide) (gmT gm0)) (va_cwS 2 C.ts gX1_dryOneHour_X1_at rfl rfl rfl (by decide +kernel) ⟨(Nat.le_of_ble_eq_true rfl), (Nat.le_of_ble_eq_true rfl)⟩) rfl rfl (Nat.le_of_ble_eq_true rfl) dX1_dryOneHour_84 (Nat.le_of_ble_eq_true rfl) (Nat.le_of_ble_eq_true rfl) (g_is (x := .int (atv 80 g (nI i))) (W1 := ((h, .inr (1, [.ref a1, .ref a2, .ref a3, .ref a4, .int (nI np), .int (nI hr), .ref a5, .ref a6, .ref a7])) :: (a1, .inl (cI, 80, .inl (g))) :: (a2, .inl (cI, 80, .inl (cover))) :: (a3, .inl (cI, 8, .inl (sun))) :: (a4, .inl (cP, 100, .inr (.inr (.inr (.inr (pcs)))))) :: (a5, .inl (cI, 80, .inl (fs))) :: (a6, .inl (cI, 80, .inl (mk))) :: (a7, .inl (cI, 80, .inl (fd))) :: Z)) ?_)
              refine g_eqi (x := atv 80 g (nI i)) (y := wet i) ((atv_nI (by omega) (by omega)).trans (hhi i (by omega))) ?_
              refine g_iload_n C dX1_dryOneHour_87 rfl 4 rfl ?_
              refine g_isub C dX1_dryOneHour_88 ?_
              refine g_max C k_X1_dryOneHour_w_3 k_X1_dryOneHour_w_4 k_X1_dryOneHour_w_5 k_X1_dryOneHour_w_6 (Nat.le_of_ble_eq_true rfl) (Nat.le_of_ble_eq_true rfl) (Nat.le_of_ble_eq_true rfl) (Nat.le_of_ble_eq_true rfl) dX1_dryOneHour_89 ?_
              refine g_callS (As := [.ref a1, .int (nI i), .int (if 0 < (wet i) - (sun (n8 % 8)) then (wet i) - (sun (n8 % 8)) else 0)]) (rest := []) C (c_X1_put l D tys cI ht0 ((h, .inr (1, [.ref a1, .ref a2, .ref a3, .ref a4, .int (nI np), .int (nI hr), .ref a5, .ref a6, .ref a7])) :: (a1, .inl (cI, 80, .inl (g))) :: (a2, .inl (cI, 80, .inl (cover))) :: (a3, .inl (cI, 8, .inl (sun))) :: (a4, .inl (cP, 100, .inr (.inr (.inr (.inr (pcs)))))) :: (a5, .inl (cI, 80, .inl (fs))) :: (a6, .inl (cI, 80, .inl (mk))) :: (a7, .inl (cI, 80, .inl (fd))) :: Z) 1 a1 80 g (nI i) (if 0 < (wet i) - (sun (n8 % 8)) then (wet i) - (sun (n8 % 8)) else 0) (by decide) (by decide) rfl) (va_cwS 3 C.ts gX1_dryOneHour_X1_put rfl rfl rfl (by decide +kernel) ⟨(Nat.le_of_ble_eq_true rfl), (Nat.le_of_ble_eq_true rfl)⟩) rfl rfl (Nat.le_of_ble_eq_true rfl) dX1_dryOneHour_92 (Nat.le_of_ble_eq_true rfl) (Nat.le_of_ble_eq_true rfl) (g_isV (W1 := ((h, .inr (1, [.ref a1, .ref a2, .ref a3, .ref a4, .int (nI np), .int (nI hr), .ref a5, .ref a6, .ref a7])) :: (a1, .inl (cI, 80, .inl (putv 80 g (nI i) (if 0 < (wet i) - (sun (n8 % 8)) then (wet i) - (sun (n8 % 8)) else 0)))) :: (a2, .inl (cI, 80, .inl (cover))) :: (a3, .inl (cI, 8, .inl (sun))) :: (a4, .inl (cP, 100, .inr (.inr (.inr (.inr (pcs)))))) :: (a5, .inl (cI, 80, .inl (fs))) :: (a6, .inl (cI, 80, .inl (mk))) :: (a7, .inl (cI, 80, .inl (fd))) :: Z)) ?_)
              rw [putv_nI (c := i) (by omega) (by omega)]
              refine g_iinc (v := nI (i + 1)) (lv' := [(5, .int (nI (i + 1))), (6, .int 1), (0, .ref h), (1, .ref a1), (2, .int (nI n8)), (3, .int (sun (n8 % 8))), (4, .int 1)]) C dX1_dryOneHour_95 6 rfl (by exact nI_add _ 1) (by decide) rfl ?_
              refine g_goto (tgt := 30) C dX1_dryOneHour_98 (by decide) ?_
              refine g_sub [2, 3, 4, 5, 6, 0] (lv' := [(0, .ref h), (1, .ref a1), (2, .int (nI n8)), (3, .int (sun (n8 % 8))), (4, .int 1), (5, .int (nI (i + 1)))]) rfl ?_
              exact ih (i + 1) _ (lo_put hlo (by simp [dry1, *])) (hi_put hhi) (by omega) (by omega)
    refine g_sub [3, 4, 5, 2, 1, 0] (lv' := [(0, .ref h), (1, .ref a1), (2, .int (nI n8)), (3, .int (sun (n8 % 8))), (4, .int 1), (5, .int 0)]) rfl ?_
    exact lp30_10 81 0 wet (fun c hc => absurd hc (Nat.not_lt_zero c)) (fun c hc => rfl) (by omega) (by omega)

theorem k_X1_dryOneHour_f_inX1 : ∀ w ∈ wsX10, w ∈ wsX1_dryOneHour := by decide +kernel
theorem k_X1_dryOneHour_f_1 : Cond.fieldLink RX1 16 "WetMosaic" "sun" "[I" ∈ wsX1_dryOneHour := by decide +kernel
theorem k_X1_dryOneHour_f_2 : Cond.fieldLink RX1 13 "WetMosaic" "cover" "[I" ∈ wsX1_dryOneHour := by decide +kernel
theorem k_X1_dryOneHour_f_3 : Cond.methodLink RX1 241 Lib.Math.max.name ∈ wsX1_dryOneHour := by decide +kernel
theorem k_X1_dryOneHour_f_4 : Cond.static Lib.Math.max.name ∈ wsX1_dryOneHour := by decide +kernel
theorem k_X1_dryOneHour_f_5 : Cond.initialized "java/lang/Math" ∈ wsX1_dryOneHour := by decide +kernel
theorem k_X1_dryOneHour_f_6 : Cond.code Lib.Math.max.name Lib.Math.max.code 2 (some .int) ∈ wsX1_dryOneHour := by decide +kernel
set_option maxHeartbeats 4000000 in
set_option maxRecDepth 100000 in
theorem c_X1_dryOneHour_f (l : Launch) (D : va_G) (tys : List (ClassId × FieldType)) (cI cP : ClassId) (ht0 : tys[0]? = some (cI, .int)) (h a1 a2 a3 a4 a5 a6 a7 np hr : Nat) (wet cover sun fs mk fd : Nat → Int32) (pcs : Nat → Option Nat) (Z : va_W) (n8 : Nat) (hn8 : n8 < 2 ^ 30) : gM l yX1_dryOneHour wsX1_dryOneHour ({ frames := 2, cells := 0, slots := 0, locals := 44 } : Room) D tys [.ref h, .ref a5, .int (nI n8)] ((h, .inr (1, [.ref a1, .ref a2, .ref a3, .ref a4, .int (nI np), .int (nI hr), .ref a5, .ref a6, .ref a7])) :: (a1, .inl (cI, 80, .inl (wet))) :: (a2, .inl (cI, 80, .inl (cover))) :: (a3, .inl (cI, 8, .inl (sun))) :: (a4, .inl (cP, 100, .inr (.inr (.inr (.inr (pcs)))))) :: (a5, .inl (cI, 80, .inl (fs))) :: (a6, .inl (cI, 80, .inl (mk))) :: (a7, .inl (cI, 80, .inl (fd))) :: Z) (gIs none ((h, .inr (1, [.ref a1, .ref a2, .ref a3, .ref a4, .int (nI np), .int (nI hr), .ref a5, .ref a6, .ref a7])) :: (a1, .inl (cI, 80, .inl (wet))) :: (a2, .inl (cI, 80, .inl (cover))) :: (a3, .inl (cI, 8, .inl (sun))) :: (a4, .inl (cP, 100, .inr (.inr (.inr (.inr (pcs)))))) :: (a5, .inl (cI, 80, .inl (dry1 fs cover (sun (n8 % 8)) (decide (n8 % 2 = 0))))) :: (a6, .inl (cI, 80, .inl (mk))) :: (a7, .inl (cI, 80, .inl (fd))) :: Z)) 0 0 := by
  refine gM_of (by decide +kernel) rfl (Nat.le_of_ble_eq_true rfl) ?_
  intro p e s m args below meth c A Q hin C hQ
  refine g_sub [0, 1, 2] (lv' := [(0, .ref h), (1, .ref a5), (2, .int (nI n8))]) rfl ?_
  refine g_aload_n C dX1_dryOneHour_0 rfl 0 rfl ?_
  refine g_get (ci := 1) (Cn := RX1) (T := TX1) (N := 9) C k_X1_dryOneHour_f_inX1 gm0 rfl 2 (by decide) k_X1_dryOneHour_f_1 rfl rfl dX1_dryOneHour_1 ?_
  refine g_iload_n C dX1_dryOneHour_4 rfl 2 rfl ?_
  refine g_bipush (v := 8) C dX1_dryOneHour_5 (by decide) ?_
  refine g_callS (As := [.int (nI n8), .int 8]) (rest := [.ref a3]) C (c_J9_floorMod_7cf53 l D tys ((h, .inr (1, [.ref a1, .ref a2, .ref a3, .ref a4, .int (nI np), .int (nI hr), .ref a5, .ref a6, .ref a7])) :: (a1, .inl (cI, 80, .inl (wet))) :: (a2, .inl (cI, 80, .inl (cover))) :: (a3, .inl (cI, 8, .inl (sun))) :: (a4, .inl (cP, 100, .inr (.inr (.inr (.inr (pcs)))))) :: (a5, .inl (cI, 80, .inl (fs))) :: (a6, .inl (cI, 80, .inl (mk))) :: (a7, .inl (cI, 80, .inl (fd))) :: Z) n8 (by omega)) (va_cwS 2 C.ts gX1_dryOneHour_J9_floorMod_7cf53 rfl rfl rfl (by decide +kernel) ⟨(Nat.le_of_ble_eq_true rfl), (Nat.le_of_ble_eq_true rfl)⟩) rfl rfl (Nat.le_of_ble_eq_true rfl) dX1_dryOneHour_7 (Nat.le_of_ble_eq_true rfl) (Nat.le_of_ble_eq_true rfl) (g_is (x := .int (nI (n8 % 8))) (W1 := ((h, .inr (1, [.ref a1, .ref a2, .ref a3, .ref a4, .int (nI np), .int (nI hr), .ref a5, .ref a6, .ref a7])) :: (a1, .inl (cI, 80, .inl (wet))) :: (a2, .inl (cI, 80, .inl (cover))) :: (a3, .inl (cI, 8, .inl (sun))) :: (a4, .inl (cP, 100, .inr (.inr (.inr (.inr (pcs)))))) :: (a5, .inl (cI, 80, .inl (fs))) :: (a6, .inl (cI, 80, .inl (mk))) :: (a7, .inl (cI, 80, .inl (fd))) :: Z)) ?_)
  refine g_callS (As := [.ref a3, .int (nI (n8 % 8))]) (rest := []) C (c_X1_at l D tys cI ht0 ((h, .inr (1, [.ref a1, .ref a2, .ref a3, .ref a4, .int (nI np), .int (nI hr), .ref a5, .ref a6, .ref a7])) :: (a1, .inl (cI, 80, .inl (wet))) :: (a2, .inl (cI, 80, .inl (cover))) :: (a3, .inl (cI, 8, .inl (sun))) :: (a4, .inl (cP, 100, .inr (.inr (.inr (.inr (pcs)))))) :: (a5, .inl (cI, 80, .inl (fs))) :: (a6, .inl (cI, 80, .inl (mk))) :: (a7, .inl (cI, 80, .inl (fd))) :: Z) a3 8 sun (nI (n8 % 8)) (by decide) (by decide) (gmT (gmT (gmT gm0)))) (va_cwS 2 C.ts gX1_dryOneHour_X1_at rfl rfl rfl (by decide +kernel) ⟨(Nat.le_of_ble_eq_true rfl), (Nat.le_of_ble_eq_true rfl)⟩) rfl rfl (Nat.le_of_ble_eq_true rfl) dX1_dryOneHour_10 (Nat.le_of_ble_eq_true rfl) (Nat.le_of_ble_eq_true rfl) (g_is (x := .int (atv 8 sun (nI (n8 % 8)))) (W1 := ((h, .inr (1, [.ref a1, .ref a2, .ref a3, .ref a4, .int (nI np), .int (nI hr), .ref a5, .ref a6, .ref a7])) :: (a1, .inl (cI, 80, .inl (wet))) :: (a2, .inl (cI, 80, .inl (cover))) :: (a3, .inl (cI, 8, .inl (sun))) :: (a4, .inl (cP, 100, .inr (.inr (.inr (.inr (pcs)))))) :: (a5, .inl (cI, 80, .inl (fs))) :: (a6, .inl (cI, 80, .inl (mk))) :: (a7, .inl (cI, 80, .inl (fd))) :: Z)) ?_)
  refine g_eqi (x := atv 8 sun (nI (n8 % 8))) (y := sun (n8 % 8)) (atv_nI (by omega) (by omega)) ?_
  refine g_istore_n (lv' := [(3, .int (sun (n8 % 8))), (0, .ref h), (1, .ref a5), (2, .int (nI n8))]) C dX1_dryOneHour_13 rfl (by decide) rfl ?_
  refine g_iload_n C dX1_dryOneHour_14 rfl 3 rfl ?_
  refine g_iconst (v := 2) C dX1_dryOneHour_15 (by decide) ?_
  refine g_irem C dX1_dryOneHour_16 (by decide) ?_
  refine g_eqi (x := (nI n8) - (nI n8) / 2 * 2) (y := nI (n8 % 2)) (remI n8 2 (by omega) (by omega) (by omega) rfl) ?_
  refine g_if_ne (tgt := 24) C dX1_dryOneHour_17 (by decide) (fun c_1 => ?_) (fun c_1 => ?_)
  · skip
    rw [show (0 : Int32) = nI 0 from rfl, nI_eq (by omega) (by omega)] at c_1
    refine g_iconst (v := 0) C dX1_dryOneHour_24 (by decide) ?_
    refine g_istore (lv' := [(4, .int 0), (3, .int (sun (n8 % 8))), (0, .ref h), (1, .ref a5), (2, .int (nI n8))]) C dX1_dryOneHour_25 (by decide) rfl ?_
    refine g_iconst (v := 0) C dX1_dryOneHour_27 (by decide) ?_
    refine g_istore (lv' := [(5, .int 0), (4, .int 0), (3, .int (sun (n8 % 8))), (0, .ref h), (1, .ref a5), (2, .int (nI n8))]) C dX1_dryOneHour_28 (by decide) rfl ?_
    have lp30_2 : ∀ (n9 : Nat) (i : Nat) (g : Nat → Int32) (hlo : ∀ c, c < i → g c = dry1 fs cover (sun (n8 % 8)) (decide (n8 % 2 = 0)) c) (hhi : ∀ c, i ≤ c → g c = fs c) (hi : i ≤ 80) (hn : 81 ≤ i + n9), G p l e ({ frames := 2, cells := 0, slots := 0, locals := 44 } : Room) s m args below meth c D A s.heap 7 0 0 Q 30 [(0, .ref h), (1, .ref a5), (2, .int (nI n8)), (3, .int (sun (n8 % 8))), (4, .int 0), (5, .int (nI i))] [] ((h, .inr (1, [.ref a1, .ref a2, .ref a3, .ref a4, .int (nI np), .int (nI hr), .ref a5, .ref a6, .ref a7])) :: (a1, .inl (cI, 80, .inl (wet))) :: (a2, .inl (cI, 80, .inl (cover))) :: (a3, .inl (cI, 8, .inl (sun))) :: (a4, .inl (cP, 100, .inr (.inr (.inr (.inr (pcs)))))) :: (a5, .inl (cI, 80, .inl (g))) :: (a6, .inl (cI, 80, .inl (mk))) :: (a7, .inl (cI, 80, .inl (fd))) :: Z) := by
      intro n9
      induction n9 with
      | zero =>
        intro i g hlo hhi hi hn
        exfalso; omega
      | succ n9 ih =>
        intro i g hlo hhi hi hn
        refine g_iload C dX1_dryOneHour_30 5 rfl ?_
        refine g_bipush (v := 80) C dX1_dryOneHour_32 (by decide) ?_
        refine g_icmp_ge (tgt := 101) C dX1_dryOneHour_34 (by decide) (fun c_3 => ?_) (fun c_3 => ?_)
        · skip
          rw [show (80 : Int32) = nI 80 from rfl, nI_leI (by omega) (by omega)] at c_3
          refine g_cong (g := dry1 fs cover (sun (n8 % 8)) (decide (n8 % 2 = 0))) (ws' := ((h, .inr (1, [.ref a1, .ref a2, .ref a3, .ref a4, .int (nI np), .int (nI hr), .ref a5, .ref a6, .ref a7])) :: (a1, .inl (cI, 80, .inl (wet))) :: (a2, .inl (cI, 80, .inl (cover))) :: (a3, .inl (cI, 8, .inl (sun))) :: (a4, .inl (cP, 100, .inr (.inr (.inr (.inr (pcs)))))) :: (a5, .inl (cI, 80, .inl (dry1 fs cover (sun (n8 % 8)) (decide (n8 % 2 = 0))))) :: (a6, .inl (cI, 80, .inl (mk))) :: (a7, .inl (cI, 80, .inl (fd))) :: Z)) 5 rfl (fun j hj => hlo j (by omega)) rfl ?_
          refine g_vret C hQ (Nat.le_of_ble_eq_true rfl) (Nat.le_of_ble_eq_true rfl) dX1_dryOneHour_101 ?_
          exact ⟨rfl, rfl⟩
        · skip
          rw [show (80 : Int32) = nI 80 from rfl, nI_leI (by omega) (by omega)] at c_3
          refine g_aload_n C dX1_dryOneHour_37 rfl 0 rfl ?_
          refine g_get (ci := 1) (Cn := RX1) (T := TX1) (N := 9) C k_X1_dryOneHour_f_inX1 gm0 rfl 1 (by decide) k_X1_dryOneHour_f_2 rfl rfl dX1_dryOneHour_38 ?_
          refine g_iload C dX1_dryOneHour_41 5 rfl ?_
          refine g_callS (As := [.ref a2, .int (nI i)]) (rest := []) C (c_X1_at l D tys cI ht0 ((h, .inr (1, [.ref a1, .ref a2, .ref a3, .ref a4, .int (nI np), .int (nI hr), .ref a5, .ref a6, .ref a7])) :: (a1, .inl (cI, 80, .inl (wet))) :: (a2, .inl (cI, 80, .inl (cover))) :: (a3, .inl (cI, 8, .inl (sun))) :: (a4, .inl (cP, 100, .inr (.inr (.inr (.inr (pcs)))))) :: (a5, .inl (cI, 80, .inl (g))) :: (a6, .inl (cI, 80, .inl (mk))) :: (a7, .inl (cI, 80, .inl (fd))) :: Z) a2 80 cover (nI i) (by decide) (by decide) (gmT (gmT gm0))) (va_cwS 2 C.ts gX1_dryOneHour_X1_at rfl rfl rfl (by decide +kernel) ⟨(Nat.le_of_ble_eq_true rfl), (Nat.le_of_ble_eq_true rfl)⟩) rfl rfl (Nat.le_of_ble_eq_true rfl) dX1_dryOneHour_43 (Nat.le_of_ble_eq_true rfl) (Nat.le_of_ble_eq_true rfl) (g_is (x := .int (atv 80 cover (nI i))) (W1 := ((h, .inr (1, [.ref a1, .ref a2, .ref a3, .ref a4, .int (nI np), .int (nI hr), .ref a5, .ref a6, .ref a7])) :: (a1, .inl (cI, 80, .inl (wet))) :: (a2, .inl (cI, 80, .inl (cover))) :: (a3, .inl (cI, 8, .inl (sun))) :: (a4, .inl (cP, 100, .inr (.inr (.inr (.inr (pcs)))))) :: (a5, .inl (cI, 80, .inl (g))) :: (a6, .inl (cI, 80, .inl (mk))) :: (a7, .inl (cI, 80, .inl (fd))) :: Z)) ?_)
          refine g_eqi (x := atv 80 cover (nI i)) (y := cover i) (atv_nI (by omega) (by omega)) ?_
          refine g_iconst (v := (-1)) C dX1_dryOneHour_46 (by decide) ?_
          refine g_icmp_ne (tgt := 54) C dX1_dryOneHour_47 (by decide) (fun c_4 => ?_) (fun c_4 => ?_)
          · skip
            refine g_iconst (v := 0) C dX1_dryOneHour_54 (by decide) ?_
            refine g_istore (lv' := [(6, .int 0), (0, .ref h), (1, .ref a5), (2, .int (nI n8)), (3, .int (sun (n8 % 8))), (4, .int 0), (5, .int (nI i))]) C dX1_dryOneHour_55 (by decide) rfl ?_
            refine g_aload_n C dX1_dryOneHour_57 rfl 2 rfl ?_
            refine g_iload C dX1_dryOneHour_58 6 rfl ?_
            refine g_callS (As := [.ref a5, .int (nI i)]) (rest := []) C (c_X1_at l D tys cI ht0 ((h, .inr (1, [.ref a1, .ref a2, .ref a3, .ref a4, .int (nI np), .int (nI hr), .ref a5, .ref a6, .ref a7])) :: (a1, .inl (cI, 80, .inl (wet))) :: (a2, .inl (cI, 80, .inl (cover))) :: (a3, .inl (cI, 8, .inl (sun))) :: (a4, .inl (cP, 100, .inr (.inr (.inr (.inr (pcs)))))) :: (a5, .inl (cI, 80, .inl (g))) :: (a6, .inl (cI, 80, .inl (mk))) :: (a7, .inl (cI, 80, .inl (fd))) :: Z) a5 80 g (nI i) (by decide) (by decide) (gmT (gmT (gmT (gmT (gmT gm0)))))) (va_cwS 2 C.ts gX1_dryOneHour_X1_at rfl rfl rfl (by decide +kernel) ⟨(Nat.le_of_ble_eq_true rfl), (Nat.le_of_ble_eq_true rfl)⟩) rfl rfl (Nat.le_of_ble_eq_true rfl) dX1_dryOneHour_60 (Nat.le_of_ble_eq_true rfl) (Nat.le_of_ble_eq_true rfl) (g_is (x := .int (atv 80 g (nI i))) (W1 := ((h, .inr (1, [.ref a1, .ref a2, .ref a3, .ref a4, .int (nI np), .int (nI hr), .ref a5, .ref a6, .ref a7])) :: (a1, .inl (cI, 80, .inl (wet))) :: (a2, .inl (cI, 80, .inl (cover))) :: (a3, .inl (cI, 8, .inl (sun))) :: (a4, .inl (cP, 100, .inr (.inr (.inr (.inr (pcs)))))) :: (a5, .inl (cI, 80, .inl (g))) :: (a6, .inl (cI, 80, .inl (mk))) :: (a7, .inl (cI, 80, .inl (fd))) :: Z)) ?_)
            refine g_eqi (x := atv 80 g (nI i)) (y := fs i) ((atv_nI (by omega) (by omega)).trans (hhi i (by omega))) ?_
            refine g_iconst (v := 1) C dX1_dryOneHour_63 (by decide) ?_
            refine g_icmp_lt (tgt := 95) C dX1_dryOneHour_64 (by decide) (fun c_5 => ?_) (fun c_5 => ?_)
            · skip
              refine g_iinc (v := nI (i + 1)) (lv' := [(5, .int (nI (i + 1))), (6, .int 0), (0, .ref h), (1, .ref a5), (2, .int (nI n8)), (3, .int (sun (n8 % 8))), (4, .int 0)]) C dX1_dryOneHour_95 6 rfl (by exact nI_add _ 1) (by decide) rfl ?_
              refine g_goto (tgt := 30) C dX1_dryOneHour_98 (by decide) ?_
              refine g_sub [2, 3, 4, 5, 6, 0] (lv' := [(0, .ref h), (1, .ref a5), (2, .int (nI n8)), (3, .int (sun (n8 % 8))), (4, .int 0), (5, .int (nI (i + 1)))]) rfl ?_
              exact ih (i + 1) _ (lo_keep hlo hhi (by first | (rw [dry1, if_neg (fun hh => i_nle (by assumption) hh.1)]; done) | simp [dry1, *])) (fun c hc => hhi c (by omega)) (by omega) (by omega)
            · skip
              refine g_iload C dX1_dryOneHour_67 0 rfl ?_
              refine g_if_ne (tgt := 77) C dX1_dryOneHour_69 (by decide) (fun c_6 => by exfalso; revert c_6; decide) (fun c_6 => ?_)
              refine g_iload C dX1_dryOneHour_72 5 rfl ?_
              refine g_if_eq (tgt := 95) C dX1_dryOneHour_74 (by decide) (fun c_7 => ?_) (fun c_7 => by exfalso; revert c_7; decide)
              refine g_iinc (v := nI (i + 1)) (lv' := [(5, .int (nI (i + 1))), (6, .int 0), (0, .ref h), (1, .ref a5), (2, .int (nI n8)), (3, .int (sun (n8 % 8))), (4, .int 0)]) C dX1_dryOneHour_95 6 rfl (by exact nI_add _ 1) (by decide) rfl ?_
              refine g_goto (tgt := 30) C dX1_dryOneHour_98 (by decide) ?_
              refine g_sub [2, 3, 4, 5, 6, 0] (lv' := [(0, .ref h), (1, .ref a5), (2, .int (nI n8)), (3, .int (sun (n8 % 8))), (4, .int 0), (5, .int (nI (i + 1)))]) rfl ?_
              exact ih (i + 1) _ (lo_keep hlo hhi (by first | (rw [dry1, if_neg (fun hh => i_nle (by assumption) hh.1)]; done) | simp [dry1, *])) (fun c hc => hhi c (by omega)) (by omega) (by omega)
          · skip
            refine g_iconst (v := 1) C dX1_dryOneHour_50 (by decide) ?_
            refine g_goto (tgt := 55) C dX1_dryOneHour_51 (by decide) ?_
            refine g_istore (lv' := [(6, .int 1), (0, .ref h), (1, .ref a5), (2, .int (nI n8)), (3, .int (sun (n8 % 8))), (4, .int 0), (5, .int (nI i))]) C dX1_dryOneHour_55 (by decide) rfl ?_
            refine g_aload_n C dX1_dryOneHour_57 rfl 2 rfl ?_
            refine g_iload C dX1_dryOneHour_58 6 rfl ?_
            refine g_callS (As := [.ref a5, .int (nI i)]) (rest := []) C (c_X1_at l D tys cI ht0 ((h, .inr (1, [.ref a1, .ref a2, .ref a3, .ref a4, .int (nI np), .int (nI hr), .ref a5, .ref a6, .ref a7])) :: (a1, .inl (cI, 80, .inl (wet))) :: (a2, .inl (cI, 80, .inl (cover))) :: (a3, .inl (cI, 8, .inl (sun))) :: (a4, .inl (cP, 100, .inr (.inr (.inr (.inr (pcs)))))) :: (a5, .inl (cI, 80, .inl (g))) :: (a6, .inl (cI, 80, .inl (mk))) :: (a7, .inl (cI, 80, .inl (fd))) :: Z) a5 80 g (nI i) (by decide) (by decide) (gmT (gmT (gmT (gmT (gmT gm0)))))) (va_cwS 2 C.ts gX1_dryOneHour_X1_at rfl rfl rfl (by decide +kernel) ⟨(Nat.le_of_ble_eq_true rfl), (Nat.le_of_ble_eq_true rfl)⟩) rfl rfl (Nat.le_of_ble_eq_true rfl) dX1_dryOneHour_60 (Nat.le_of_ble_eq_true rfl) (Nat.le_of_ble_eq_true rfl) (g_is (x := .int (atv 80 g (nI i))) (W1 := ((h, .inr (1, [.ref a1, .ref a2, .ref a3, .ref a4, .int (nI np), .int (nI hr), .ref a5, .ref a6, .ref a7])) :: (a1, .inl (cI, 80, .inl (wet))) :: (a2, .inl (cI, 80, .inl (cover))) :: (a3, .inl (cI, 8, .inl (sun))) :: (a4, .inl (cP, 100, .inr (.inr (.inr (.inr (pcs)))))) :: (a5, .inl (cI, 80, .inl (g))) :: (a6, .inl (cI, 80, .inl (mk))) :: (a7, .inl (cI, 80, .inl (fd))) :: Z)) ?_)
            refine g_eqi (x := atv 80 g (nI i)) (y := fs i) ((atv_nI (by omega) (by omega)).trans (hhi i (by omega))) ?_
            refine g_iconst (v := 1) C dX1_dryOneHour_63 (by decide) ?_
            refine g_icmp_lt (tgt := 95) C dX1_dryOneHour_64 (by decide) (fun c_8 => ?_) (fun c_8 => ?_)
            · skip
              refine g_iinc (v := nI (i + 1)) (lv' := [(5, .int (nI (i + 1))), (6, .int 1), (0, .ref h), (1, .ref a5), (2, .int (nI n8)), (3, .int (sun (n8 % 8))), (4, .int 0)]) C dX1_dryOneHour_95 6 rfl (by exact nI_add _ 1) (by decide) rfl ?_
              refine g_goto (tgt := 30) C dX1_dryOneHour_98 (by decide) ?_
              refine g_sub [2, 3, 4, 5, 6, 0] (lv' := [(0, .ref h), (1, .ref a5), (2, .int (nI n8)), (3, .int (sun (n8 % 8))), (4, .int 0), (5, .int (nI (i + 1)))]) rfl ?_
              exact ih (i + 1) _ (lo_keep hlo hhi (by first | (rw [dry1, if_neg (fun hh => i_nle (by assumption) hh.1)]; done) | simp [dry1, *])) (fun c hc => hhi c (by omega)) (by omega) (by omega)
            · skip
              refine g_iload C dX1_dryOneHour_67 0 rfl ?_
              refine g_if_ne (tgt := 77) C dX1_dryOneHour_69 (by decide) (fun c_9 => ?_) (fun c_9 => by exfalso; revert c_9; decide)
              refine g_aload_n C dX1_dryOneHour_77 rfl 2 rfl ?_
              refine g_iload C dX1_dryOneHour_78 6 rfl ?_
              refine g_iconst (v := 0) C dX1_dryOneHour_80 (by decide) ?_
              refine g_aload_n C dX1_dryOneHour_81 rfl 2 rfl ?_
              refine g_iload C dX1_dryOneHour_82 6 rfl ?_
              refine g_callS (As := [.ref a5, .int (nI i)]) (rest := [.int 0, .int (nI i), .ref a5]) C (c_X1_at l D tys cI ht0 ((h, .inr (1, [.ref a1, .ref a2, .ref a3, .ref a4, .int (nI np), .int (nI hr), .ref a5, .ref a6, .ref a7])) :: (a1, .inl (cI, 80, .inl (wet))) :: (a2, .inl (cI, 80, .inl (cover))) :: (a3, .inl (cI, 8, .inl (sun))) :: (a4, .inl (cP, 100, .inr (.inr (.inr (.inr (pcs)))))) :: (a5, .inl (cI, 80, .inl (g))) :: (a6, .inl (cI, 80, .inl (mk))) :: (a7, .inl (cI, 80, .inl (fd))) :: Z) a5 80 g (nI i) (by decide) (by decide) (gmT (gmT (gmT (gmT (gmT gm0)))))) (va_cwS 2 C.ts gX1_dryOneHour_X1_at rfl rfl rfl (by decide +kernel) ⟨(Nat.le_of_ble_eq_true rfl), (Nat.le_of_ble_eq_true rfl)⟩) rfl rfl (Nat.le_of_ble_eq_true rfl) dX1_dryOneHour_84 (Nat.le_of_ble_eq_true rfl) (Nat.le_of_ble_eq_true rfl) (g_is (x := .int (atv 80 g (nI i))) (W1 := ((h, .inr (1, [.ref a1, .ref a2, .ref a3, .ref a4, .int (nI np), .int (nI hr), .ref a5, .ref a6, .ref a7])) :: (a1, .inl (cI, 80, .inl (wet))) :: (a2, .inl (cI, 80, .inl (cover))) :: (a3, .inl (cI, 8, .inl (sun))) :: (a4, .inl (cP, 100, .inr (.inr (.inr (.inr (pcs)))))) :: (a5, .inl (cI, 80, .inl (g))) :: (a6, .inl (cI, 80, .inl (mk))) :: (a7, .inl (cI, 80, .inl (fd))) :: Z)) ?_)
              refine g_eqi (x := atv 80 g (nI i)) (y := fs i) ((atv_nI (by omega) (by omega)).trans (hhi i (by omega))) ?_
              refine g_iload_n C dX1_dryOneHour_87 rfl 4 rfl ?_
              refine g_isub C dX1_dryOneHour_88 ?_
              refine g_max C k_X1_dryOneHour_f_3 k_X1_dryOneHour_f_4 k_X1_dryOneHour_f_5 k_X1_dryOneHour_f_6 (Nat.le_of_ble_eq_true rfl) (Nat.le_of_ble_eq_true rfl) (Nat.le_of_ble_eq_true rfl) (Nat.le_of_ble_eq_true rfl) dX1_dryOneHour_89 ?_
              refine g_callS (As := [.ref a5, .int (nI i), .int (if 0 < (fs i) - (sun (n8 % 8)) then (fs i) - (sun (n8 % 8)) else 0)]) (rest := []) C (c_X1_put l D tys cI ht0 ((h, .inr (1, [.ref a1, .ref a2, .ref a3, .ref a4, .int (nI np), .int (nI hr), .ref a5, .ref a6, .ref a7])) :: (a1, .inl (cI, 80, .inl (wet))) :: (a2, .inl (cI, 80, .inl (cover))) :: (a3, .inl (cI, 8, .inl (sun))) :: (a4, .inl (cP, 100, .inr (.inr (.inr (.inr (pcs)))))) :: (a5, .inl (cI, 80, .inl (g))) :: (a6, .inl (cI, 80, .inl (mk))) :: (a7, .inl (cI, 80, .inl (fd))) :: Z) 5 a5 80 g (nI i) (if 0 < (fs i) - (sun (n8 % 8)) then (fs i) - (sun (n8 % 8)) else 0) (by decide) (by decide) rfl) (va_cwS 3 C.ts gX1_dryOneHour_X1_put rfl rfl rfl (by decide +kernel) ⟨(Nat.le_of_ble_eq_true rfl), (Nat.le_of_ble_eq_true rfl)⟩) rfl rfl (Nat.le_of_ble_eq_true rfl) dX1_dryOneHour_92 (Nat.le_of_ble_eq_true rfl) (Nat.le_of_ble_eq_true rfl) (g_isV (W1 := ((h, .inr (1, [.ref a1, .ref a2, .ref a3, .ref a4, .int (nI np), .int (nI hr), .ref a5, .ref a6, .ref a7])) :: (a1, .inl (cI, 80, .inl (wet))) :: (a2, .inl (cI, 80, .inl (cover))) :: (a3, .inl (cI, 8, .inl (sun))) :: (a4, .inl (cP, 100, .inr (.inr (.inr (.inr (pcs)))))) :: (a5, .inl (cI, 80, .inl (putv 80 g (nI i) (if 0 < (fs i) - (sun (n8 % 8)) then (fs i) - (sun (n8 % 8)) else 0)))) :: (a6, .inl (cI, 80, .inl (mk))) :: (a7, .inl (cI, 80, .inl (fd))) :: Z)) ?_)
              rw [putv_nI (c := i) (by omega) (by omega)]
              refine g_iinc (v := nI (i + 1)) (lv' := [(5, .int (nI (i + 1))), (6, .int 1), (0, .ref h), (1, .ref a5), (2, .int (nI n8)), (3, .int (sun (n8 % 8))), (4, .int 0)]) C dX1_dryOneHour_95 6 rfl (by exact nI_add _ 1) (by decide) rfl ?_
              refine g_goto (tgt := 30) C dX1_dryOneHour_98 (by decide) ?_
              refine g_sub [2, 3, 4, 5, 6, 0] (lv' := [(0, .ref h), (1, .ref a5), (2, .int (nI n8)), (3, .int (sun (n8 % 8))), (4, .int 0), (5, .int (nI (i + 1)))]) rfl ?_
              exact ih (i + 1) _ (lo_put hlo (by simp [dry1, *])) (hi_put hhi) (by omega) (by omega)
    refine g_sub [3, 4, 5, 2, 1, 0] (lv' := [(0, .ref h), (1, .ref a5), (2, .int (nI n8)), (3, .int (sun (n8 % 8))), (4, .int 0), (5, .int 0)]) rfl ?_
    exact lp30_2 81 0 fs (fun c hc => absurd hc (Nat.not_lt_zero c)) (fun c hc => rfl) (by omega) (by omega)
  · skip
    rw [show (0 : Int32) = nI 0 from rfl, nI_eq (by omega) (by omega)] at c_1
    refine g_iconst (v := 1) C dX1_dryOneHour_20 (by decide) ?_
    refine g_goto (tgt := 25) C dX1_dryOneHour_21 (by decide) ?_
    refine g_istore (lv' := [(4, .int 1), (3, .int (sun (n8 % 8))), (0, .ref h), (1, .ref a5), (2, .int (nI n8))]) C dX1_dryOneHour_25 (by decide) rfl ?_
    refine g_iconst (v := 0) C dX1_dryOneHour_27 (by decide) ?_
    refine g_istore (lv' := [(5, .int 0), (4, .int 1), (3, .int (sun (n8 % 8))), (0, .ref h), (1, .ref a5), (2, .int (nI n8))]) C dX1_dryOneHour_28 (by decide) rfl ?_
    have lp30_10 : ∀ (n9 : Nat) (i : Nat) (g : Nat → Int32) (hlo : ∀ c, c < i → g c = dry1 fs cover (sun (n8 % 8)) (decide (n8 % 2 = 0)) c) (hhi : ∀ c, i ≤ c → g c = fs c) (hi : i ≤ 80) (hn : 81 ≤ i + n9), G p l e ({ frames := 2, cells := 0, slots := 0, locals := 44 } : Room) s m args below meth c D A s.heap 7 0 0 Q 30 [(0, .ref h), (1, .ref a5), (2, .int (nI n8)), (3, .int (sun (n8 % 8))), (4, .int 1), (5, .int (nI i))] [] ((h, .inr (1, [.ref a1, .ref a2, .ref a3, .ref a4, .int (nI np), .int (nI hr), .ref a5, .ref a6, .ref a7])) :: (a1, .inl (cI, 80, .inl (wet))) :: (a2, .inl (cI, 80, .inl (cover))) :: (a3, .inl (cI, 8, .inl (sun))) :: (a4, .inl (cP, 100, .inr (.inr (.inr (.inr (pcs)))))) :: (a5, .inl (cI, 80, .inl (g))) :: (a6, .inl (cI, 80, .inl (mk))) :: (a7, .inl (cI, 80, .inl (fd))) :: Z) := by
      intro n9
      induction n9 with
      | zero =>
        intro i g hlo hhi hi hn
        exfalso; omega
      | succ n9 ih =>
        intro i g hlo hhi hi hn
        refine g_iload C dX1_dryOneHour_30 5 rfl ?_
        refine g_bipush (v := 80) C dX1_dryOneHour_32 (by decide) ?_
        refine g_icmp_ge (tgt := 101) C dX1_dryOneHour_34 (by decide) (fun c_11 => ?_) (fun c_11 => ?_)
        · skip
          rw [show (80 : Int32) = nI 80 from rfl, nI_leI (by omega) (by omega)] at c_11
          refine g_cong (g := dry1 fs cover (sun (n8 % 8)) (decide (n8 % 2 = 0))) (ws' := ((h, .inr (1, [.ref a1, .ref a2, .ref a3, .ref a4, .int (nI np), .int (nI hr), .ref a5, .ref a6, .ref a7])) :: (a1, .inl (cI, 80, .inl (wet))) :: (a2, .inl (cI, 80, .inl (cover))) :: (a3, .inl (cI, 8, .inl (sun))) :: (a4, .inl (cP, 100, .inr (.inr (.inr (.inr (pcs)))))) :: (a5, .inl (cI, 80, .inl (dry1 fs cover (sun (n8 % 8)) (decide (n8 % 2 = 0))))) :: (a6, .inl (cI, 80, .inl (mk))) :: (a7, .inl (cI, 80, .inl (fd))) :: Z)) 5 rfl (fun j hj => hlo j (by omega)) rfl ?_
          refine g_vret C hQ (Nat.le_of_ble_eq_true rfl) (Nat.le_of_ble_eq_true rfl) dX1_dryOneHour_101 ?_
          exact ⟨rfl, rfl⟩
        · skip
          rw [show (80 : Int32) = nI 80 from rfl, nI_leI (by omega) (by omega)] at c_11
          refine g_aload_n C dX1_dryOneHour_37 rfl 0 rfl ?_
          refine g_get (ci := 1) (Cn := RX1) (T := TX1) (N := 9) C k_X1_dryOneHour_f_inX1 gm0 rfl 1 (by decide) k_X1_dryOneHour_f_2 rfl rfl dX1_dryOneHour_38 ?_
          refine g_iload C dX1_dryOneHour_41 5 rfl ?_
          refine g_callS (As := [.ref a2, .int (nI i)]) (rest := []) C (c_X1_at l D tys cI ht0 ((h, .inr (1, [.ref a1, .ref a2, .ref a3, .ref a4, .int (nI np), .int (nI hr), .ref a5, .ref a6, .ref a7])) :: (a1, .inl (cI, 80, .inl (wet))) :: (a2, .inl (cI, 80, .inl (cover))) :: (a3, .inl (cI, 8, .inl (sun))) :: (a4, .inl (cP, 100, .inr (.inr (.inr (.inr (pcs)))))) :: (a5, .inl (cI, 80, .inl (g))) :: (a6, .inl (cI, 80, .inl (mk))) :: (a7, .inl (cI, 80, .inl (fd))) :: Z) a2 80 cover (nI i) (by decide) (by decide) (gmT (gmT gm0))) (va_cwS 2 C.ts gX1_dryOneHour_X1_at rfl rfl rfl (by decide +kernel) ⟨(Nat.le_of_ble_eq_true rfl), (Nat.le_of_ble_eq_true rfl)⟩) rfl rfl (Nat.le_of_ble_eq_true rfl) dX1_dryOneHour_43 (Nat.le_of_ble_eq_true rfl) (Nat.le_of_ble_eq_true rfl) (g_is (x := .int (atv 80 cover (nI i))) (W1 := ((h, .inr (1, [.ref a1, .ref a2, .ref a3, .ref a4, .int (nI np), .int (nI hr), .ref a5, .ref a6, .ref a7])) :: (a1, .inl (cI, 80, .inl (wet))) :: (a2, .inl (cI, 80, .inl (cover))) :: (a3, .inl (cI, 8, .inl (sun))) :: (a4, .inl (cP, 100, .inr (.inr (.inr (.inr (pcs)))))) :: (a5, .inl (cI, 80, .inl (g))) :: (a6, .inl (cI, 80, .inl (mk))) :: (a7, .inl (cI, 80, .inl (fd))) :: Z)) ?_)
          refine g_eqi (x := atv 80 cover (nI i)) (y := cover i) (atv_nI (by omega) (by omega)) ?_
          refine g_iconst (v := (-1)) C dX1_dryOneHour_46 (by decide) ?_
          refine g_icmp_ne (tgt := 54) C dX1_dryOneHour_47 (by decide) (fun c_12 => ?_) (fun c_12 => ?_)
          · skip
            refine g_iconst (v := 0) C dX1_dryOneHour_54 (by decide) ?_
            refine g_istore (lv' := [(6, .int 0), (0, .ref h), (1, .ref a5), (2, .int (nI n8)), (3, .int (sun (n8 % 8))), (4, .int 1), (5, .int (nI i))]) C dX1_dryOneHour_55 (by decide) rfl ?_
            refine g_aload_n C dX1_dryOneHour_57 rfl 2 rfl ?_
            refine g_iload C dX1_dryOneHour_58 6 rfl ?_
            refine g_callS (As := [.ref a5, .int (nI i)]) (rest := []) C (c_X1_at l D tys cI ht0 ((h, .inr (1, [.ref a1, .ref a2, .ref a3, .ref a4, .int (nI np), .int (nI hr), .ref a5, .ref a6, .ref a7])) :: (a1, .inl (cI, 80, .inl (wet))) :: (a2, .inl (cI, 80, .inl (cover))) :: (a3, .inl (cI, 8, .inl (sun))) :: (a4, .inl (cP, 100, .inr (.inr (.inr (.inr (pcs)))))) :: (a5, .inl (cI, 80, .inl (g))) :: (a6, .inl (cI, 80, .inl (mk))) :: (a7, .inl (cI, 80, .inl (fd))) :: Z) a5 80 g (nI i) (by decide) (by decide) (gmT (gmT (gmT (gmT (gmT gm0)))))) (va_cwS 2 C.ts gX1_dryOneHour_X1_at rfl rfl rfl (by decide +kernel) ⟨(Nat.le_of_ble_eq_true rfl), (Nat.le_of_ble_eq_true rfl)⟩) rfl rfl (Nat.le_of_ble_eq_true rfl) dX1_dryOneHour_60 (Nat.le_of_ble_eq_true rfl) (Nat.le_of_ble_eq_true rfl) (g_is (x := .int (atv 80 g (nI i))) (W1 := ((h, .inr (1, [.ref a1, .ref a2, .ref a3, .ref a4, .int (nI np), .int (nI hr), .ref a5, .ref a6, .ref a7])) :: (a1, .inl (cI, 80, .inl (wet))) :: (a2, .inl (cI, 80, .inl (cover))) :: (a3, .inl (cI, 8, .inl (sun))) :: (a4, .inl (cP, 100, .inr (.inr (.inr (.inr (pcs)))))) :: (a5, .inl (cI, 80, .inl (g))) :: (a6, .inl (cI, 80, .inl (mk))) :: (a7, .inl (cI, 80, .inl (fd))) :: Z)) ?_)
            refine g_eqi (x := atv 80 g (nI i)) (y := fs i) ((atv_nI (by omega) (by omega)).trans (hhi i (by omega))) ?_
            refine g_iconst (v := 1) C dX1_dryOneHour_63 (by decide) ?_
            refine g_icmp_lt (tgt := 95) C dX1_dryOneHour_64 (by decide) (fun c_13 => ?_) (fun c_13 => ?_)
            · skip
              refine g_iinc (v := nI (i + 1)) (lv' := [(5, .int (nI (i + 1))), (6, .int 0), (0, .ref h), (1, .ref a5), (2, .int (nI n8)), (3, .int (sun (n8 % 8))), (4, .int 1)]) C dX1_dryOneHour_95 6 rfl (by exact nI_add _ 1) (by decide) rfl ?_
              refine g_goto (tgt := 30) C dX1_dryOneHour_98 (by decide) ?_
              refine g_sub [2, 3, 4, 5, 6, 0] (lv' := [(0, .ref h), (1, .ref a5), (2, .int (nI n8)), (3, .int (sun (n8 % 8))), (4, .int 1), (5, .int (nI (i + 1)))]) rfl ?_
              exact ih (i + 1) _ (lo_keep hlo hhi (by first | (rw [dry1, if_neg (fun hh => i_nle (by assumption) hh.1)]; done) | simp [dry1, *])) (fun c hc => hhi c (by omega)) (by omega) (by omega)
            · skip
              refine g_iload C dX1_dryOneHour_67 0 rfl ?_
              refine g_if_ne (tgt := 77) C dX1_dryOneHour_69 (by decide) (fun c_14 => by exfalso; revert c_14; decide) (fun c_14 => ?_)
              refine g_iload C dX1_dryOneHour_72 5 rfl ?_
              refine g_if_eq (tgt := 95) C dX1_dryOneHour_74 (by decide) (fun c_15 => by exfalso; revert c_15; decide) (fun c_15 => ?_)
              refine g_aload_n C dX1_dryOneHour_77 rfl 2 rfl ?_
              refine g_iload C dX1_dryOneHour_78 6 rfl ?_
              refine g_iconst (v := 0) C dX1_dryOneHour_80 (by decide) ?_
              refine g_aload_n C dX1_dryOneHour_81 rfl 2 rfl ?_
              refine g_iload C dX1_dryOneHour_82 6 rfl ?_
              refine g_callS (As := [.ref a5, .int (nI i)]) (rest := [.int 0, .int (nI i), .ref a5]) C (c_X1_at l D tys cI ht0 ((h, .inr (1, [.ref a1, .ref a2, .ref a3, .ref a4, .int (nI np), .int (nI hr), .ref a5, .ref a6, .ref a7])) :: (a1, .inl (cI, 80, .inl (wet))) :: (a2, .inl (cI, 80, .inl (cover))) :: (a3, .inl (cI, 8, .inl (sun))) :: (a4, .inl (cP, 100, .inr (.inr (.inr (.inr (pcs)))))) :: (a5, .inl (cI, 80, .inl (g))) :: (a6, .inl (cI, 80, .inl (mk))) :: (a7, .inl (cI, 80, .inl (fd))) :: Z) a5 80 g (nI i) (by decide) (by decide) (gmT (gmT (gmT (gmT (gmT gm0)))))) (va_cwS 2 C.ts gX1_dryOneHour_X1_at rfl rfl rfl (by decide +kernel) ⟨(Nat.le_of_ble_eq_true rfl), (Nat.le_of_ble_eq_true rfl)⟩) rfl rfl (Nat.le_of_ble_eq_true rfl) dX1_dryOneHour_84 (Nat.le_of_ble_eq_true rfl) (Nat.le_of_ble_eq_true rfl) (g_is (x := .int (atv 80 g (nI i))) (W1 := ((h, .inr (1, [.ref a1, .ref a2, .ref a3, .ref a4, .int (nI np), .int (nI hr), .ref a5, .ref a6, .ref a7])) :: (a1, .inl (cI, 80, .inl (wet))) :: (a2, .inl (cI, 80, .inl (cover))) :: (a3, .inl (cI, 8, .inl (sun))) :: (a4, .inl (cP, 100, .inr (.inr (.inr (.inr (pcs)))))) :: (a5, .inl (cI, 80, .inl (g))) :: (a6, .inl (cI, 80, .inl (mk))) :: (a7, .inl (cI, 80, .inl (fd))) :: Z)) ?_)
              refine g_eqi (x := atv 80 g (nI i)) (y := fs i) ((atv_nI (by omega) (by omega)).trans (hhi i (by omega))) ?_
              refine g_iload_n C dX1_dryOneHour_87 rfl 4 rfl ?_
              refine g_isub C dX1_dryOneHour_88 ?_
              refine g_max C k_X1_dryOneHour_f_3 k_X1_dryOneHour_f_4 k_X1_dryOneHour_f_5 k_X1_dryOneHour_f_6 (Nat.le_of_ble_eq_true rfl) (Nat.le_of_ble_eq_true rfl) (Nat.le_of_ble_eq_true rfl) (Nat.le_of_ble_eq_true rfl) dX1_dryOneHour_89 ?_
              refine g_callS (As := [.ref a5, .int (nI i), .int (if 0 < (fs i) - (sun (n8 % 8)) then (fs i) - (sun (n8 % 8)) else 0)]) (rest := []) C (c_X1_put l D tys cI ht0 ((h, .inr (1, [.ref a1, .ref a2, .ref a3, .ref a4, .int (nI np), .int (nI hr), .ref a5, .ref a6, .ref a7])) :: (a1, .inl (cI, 80, .inl (wet))) :: (a2, .inl (cI, 80, .inl (cover))) :: (a3, .inl (cI, 8, .inl (sun))) :: (a4, .inl (cP, 100, .inr (.inr (.inr (.inr (pcs)))))) :: (a5, .inl (cI, 80, .inl (g))) :: (a6, .inl (cI, 80, .inl (mk))) :: (a7, .inl (cI, 80, .inl (fd))) :: Z) 5 a5 80 g (nI i) (if 0 < (fs i) - (sun (n8 % 8)) then (fs i) - (sun (n8 % 8)) else 0) (by decide) (by decide) rfl) (va_cwS 3 C.ts gX1_dryOneHour_X1_put rfl rfl rfl (by decide +kernel) ⟨(Nat.le_of_ble_eq_true rfl), (Nat.le_of_ble_eq_true rfl)⟩) rfl rfl (Nat.le_of_ble_eq_true rfl) dX1_dryOneHour_92 (Nat.le_of_ble_eq_true rfl) (Nat.le_of_ble_eq_true rfl) (g_isV (W1 := ((h, .inr (1, [.ref a1, .ref a2, .ref a3, .ref a4, .int (nI np), .int (nI hr), .ref a5, .ref a6, .ref a7])) :: (a1, .inl (cI, 80, .inl (wet))) :: (a2, .inl (cI, 80, .inl (cover))) :: (a3, .inl (cI, 8, .inl (sun))) :: (a4, .inl (cP, 100, .inr (.inr (.inr (.inr (pcs)))))) :: (a5, .inl (cI, 80, .inl (putv 80 g (nI i) (if 0 < (fs i) - (sun (n8 % 8)) then (fs i) - (sun (n8 % 8)) else 0)))) :: (a6, .inl (cI, 80, .inl (mk))) :: (a7, .inl (cI, 80, .inl (fd))) :: Z)) ?_)
              rw [putv_nI (c := i) (by omega) (by omega)]
              refine g_iinc (v := nI (i + 1)) (lv' := [(5, .int (nI (i + 1))), (6, .int 0), (0, .ref h), (1, .ref a5), (2, .int (nI n8)), (3, .int (sun (n8 % 8))), (4, .int 1)]) C dX1_dryOneHour_95 6 rfl (by exact nI_add _ 1) (by decide) rfl ?_
              refine g_goto (tgt := 30) C dX1_dryOneHour_98 (by decide) ?_
              refine g_sub [2, 3, 4, 5, 6, 0] (lv' := [(0, .ref h), (1, .ref a5), (2, .int (nI n8)), (3, .int (sun (n8 % 8))), (4, .int 1), (5, .int (nI (i + 1)))]) rfl ?_
              exact ih (i + 1) _ (lo_put hlo (by simp [dry1, *])) (hi_put hhi) (by omega) (by omega)
          · skip
            refine g_iconst (v := 1) C dX1_dryOneHour_50 (by decide) ?_
            refine g_goto (tgt := 55) C dX1_dryOneHour_51 (by decide) ?_
            refine g_istore (lv' := [(6, .int 1), (0, .ref h), (1, .ref a5), (2, .int (nI n8)), (3, .int (sun (n8 % 8))), (4, .int 1), (5, .int (nI i))]) C dX1_dryOneHour_55 (by decide) rfl ?_
            refine g_aload_n C dX1_dryOneHour_57 rfl 2 rfl ?_
            refine g_iload C dX1_dryOneHour_58 6 rfl ?_
            refine g_callS (As := [.ref a5, .int (nI i)]) (rest := []) C (c_X1_at l D tys cI ht0 ((h, .inr (1, [.ref a1, .ref a2, .ref a3, .ref a4, .int (nI np), .int (nI hr), .ref a5, .ref a6, .ref a7])) :: (a1, .inl (cI, 80, .inl (wet))) :: (a2, .inl (cI, 80, .inl (cover))) :: (a3, .inl (cI, 8, .inl (sun))) :: (a4, .inl (cP, 100, .inr (.inr (.inr (.inr (pcs)))))) :: (a5, .inl (cI, 80, .inl (g))) :: (a6, .inl (cI, 80, .inl (mk))) :: (a7, .inl (cI, 80, .inl (fd))) :: Z) a5 80 g (nI i) (by decide) (by decide) (gmT (gmT (gmT (gmT (gmT gm0)))))) (va_cwS 2 C.ts gX1_dryOneHour_X1_at rfl rfl rfl (by decide +kernel) ⟨(Nat.le_of_ble_eq_true rfl), (Nat.le_of_ble_eq_true rfl)⟩) rfl rfl (Nat.le_of_ble_eq_true rfl) dX1_dryOneHour_60 (Nat.le_of_ble_eq_true rfl) (Nat.le_of_ble_eq_true rfl) (g_is (x := .int (atv 80 g (nI i))) (W1 := ((h, .inr (1, [.ref a1, .ref a2, .ref a3, .ref a4, .int (nI np), .int (nI hr), .ref a5, .ref a6, .ref a7])) :: (a1, .inl (cI, 80, .inl (wet))) :: (a2, .inl (cI, 80, .inl (cover))) :: (a3, .inl (cI, 8, .inl (sun))) :: (a4, .inl (cP, 100, .inr (.inr (.inr (.inr (pcs)))))) :: (a5, .inl (cI, 80, .inl (g))) :: (a6, .inl (cI, 80, .inl (mk))) :: (a7, .inl (cI, 80, .inl (fd))) :: Z)) ?_)
            refine g_eqi (x := atv 80 g (nI i)) (y := fs i) ((atv_nI (by omega) (by omega)).trans (hhi i (by omega))) ?_
            refine g_iconst (v := 1) C dX1_dryOneHour_63 (by decide) ?_
            refine g_icmp_lt (tgt := 95) C dX1_dryOneHour_64 (by decide) (fun c_16 => ?_) (fun c_16 => ?_)
            · skip
              refine g_iinc (v := nI (i + 1)) (lv' := [(5, .int (nI (i + 1))), (6, .int 1), (0, .ref h), (1, .ref a5), (2, .int (nI n8)), (3, .int (sun (n8 % 8))), (4, .int 1)]) C dX1_dryOneHour_95 6 rfl (by exact nI_add _ 1) (by decide) rfl ?_
              refine g_goto (tgt := 30) C dX1_dryOneHour_98 (by decide) ?_
              refine g_sub [2, 3, 4, 5, 6, 0] (lv' := [(0, .ref h), (1, .ref a5), (2, .int (nI n8)), (3, .int (sun (n8 % 8))), (4, .int 1), (5, .int (nI (i + 1)))]) rfl ?_
              exact ih (i + 1) _ (lo_keep hlo hhi (by first | (rw [dry1, if_neg (fun hh => i_nle (by assumption) hh.1)]; done) | simp [dry1, *])) (fun c hc => hhi c (by omega)) (by omega) (by omega)
            · skip
              refine g_iload C dX1_dryOneHour_67 0 rfl ?_
              refine g_if_ne (tgt := 77) C dX1_dryOneHour_69 (by decide) (fun c_17 => ?_) (fun c_17 => by exfalso; revert c_17; decide)
              refine g_aload_n C dX1_dryOneHour_77 rfl 2 rfl ?_
              refine g_iload C dX1_dryOneHour_78 6 rfl ?_
              refine g_iconst (v := 0) C dX1_dryOneHour_80 (by decide) ?_
              refine g_aload_n C dX1_dryOneHour_81 rfl 2 rfl ?_
              refine g_iload C dX1_dryOneHour_82 6 rfl ?_
              refine g_callS (As := [.ref a5, .int (nI i)]) (rest := [.int 0, .int (nI i), .ref a5]) C (c_X1_at l D tys cI ht0 ((h, .inr (1, [.ref a1, .ref a2, .ref a3, .ref a4, .int (nI np), .int (nI hr), .ref a5, .ref a6, .ref a7])) :: (a1, .inl (cI, 80, .inl (wet))) :: (a2, .inl (cI, 80, .inl (cover))) :: (a3, .inl (cI, 8, .inl (sun))) :: (a4, .inl (cP, 100, .inr (.inr (.inr (.inr (pcs)))))) :: (a5, .inl (cI, 80, .inl (g))) :: (a6, .inl (cI, 80, .inl (mk))) :: (a7, .inl (cI, 80, .inl (fd))) :: Z) a5 80 g (nI i) (by decide) (by decide) (gmT (gmT (gmT (gmT (gmT gm0)))))) (va_cwS 2 C.ts gX1_dryOneHour_X1_at rfl rfl rfl (by decide +kernel) ⟨(Nat.le_of_ble_eq_true rfl), (Nat.le_of_ble_eq_true rfl)⟩) rfl rfl (Nat.le_of_ble_eq_true rfl) dX1_dryOneHour_84 (Nat.le_of_ble_eq_true rfl) (Nat.le_of_ble_eq_true rfl) (g_is (x := .int (atv 80 g (nI i))) (W1 := ((h, .inr (1, [.ref a1, .ref a2, .ref a3, .ref a4, .int (nI np), .int (nI hr), .ref a5, .ref a6, .ref a7])) :: (a1, .inl (cI, 80, .inl (wet))) :: (a2, .inl (cI, 80, .inl (cover))) :: (a3, .inl (cI, 8, .inl (sun))) :: (a4, .inl (cP, 100, .inr (.inr (.inr (.inr (pcs)))))) :: (a5, .inl (cI, 80, .inl (g))) :: (a6, .inl (cI, 80, .inl (mk))) :: (a7, .inl (cI, 80, .inl (fd))) :: Z)) ?_)
              refine g_eqi (x := atv 80 g (nI i)) (y := fs i) ((atv_nI (by omega) (by omega)).trans (hhi i (by omega))) ?_
              refine g_iload_n C dX1_dryOneHour_87 rfl 4 rfl ?_
              refine g_isub C dX1_dryOneHour_88 ?_
              refine g_max C k_X1_dryOneHour_f_3 k_X1_dryOneHour_f_4 k_X1_dryOneHour_f_5 k_X1_dryOneHour_f_6 (Nat.le_of_ble_eq_true rfl) (Nat.le_of_ble_eq_true rfl) (Nat.le_of_ble_eq_true rfl) (Nat.le_of_ble_eq_true rfl) dX1_dryOneHour_89 ?_
              refine g_callS (As := [.ref a5, .int (nI i), .int (if 0 < (fs i) - (sun (n8 % 8)) then (fs i) - (sun (n8 % 8)) else 0)]) (rest := []) C (c_X1_put l D tys cI ht0 ((h, .inr (1, [.ref a1, .ref a2, .ref a3, .ref a4, .int (nI np), .int (nI hr), .ref a5, .ref a6, .ref a7])) :: (a1, .inl (cI, 80, .inl (wet))) :: (a2, .inl (cI, 80, .inl (cover))) :: (a3, .inl (cI, 8, .inl (sun))) :: (a4, .inl (cP, 100, .inr (.inr (.inr (.inr (pcs)))))) :: (a5, .inl (cI, 80, .inl (g))) :: (a6, .inl (cI, 80, .inl (mk))) :: (a7, .inl (cI, 80, .inl (fd))) :: Z) 5 a5 80 g (nI i) (if 0 < (fs i) - (sun (n8 % 8)) then (fs i) - (sun (n8 % 8)) else 0) (by decide) (by decide) rfl) (va_cwS 3 C.ts gX1_dryOneHour_X1_put rfl rfl rfl (by decide +kernel) ⟨(Nat.le_of_ble_eq_true rfl), (Nat.le_of_ble_eq_true rfl)⟩) rfl rfl (Nat.le_of_ble_eq_true rfl) dX1_dryOneHour_92 (Nat.le_of_ble_eq_true rfl) (Nat.le_of_ble_eq_true rfl) (g_isV (W1 := ((h, .inr (1, [.ref a1, .ref a2, .ref a3, .ref a4, .int (nI np), .int (nI hr), .ref a5, .ref a6, .ref a7])) :: (a1, .inl (cI, 80, .inl (wet))) :: (a2, .inl (cI, 80, .inl (cover))) :: (a3, .inl (cI, 8, .inl (sun))) :: (a4, .inl (cP, 100, .inr (.inr (.inr (.inr (pcs)))))) :: (a5, .inl (cI, 80, .inl (putv 80 g (nI i) (if 0 < (fs i) - (sun (n8 % 8)) then (fs i) - (sun (n8 % 8)) else 0)))) :: (a6, .inl (cI, 80, .inl (mk))) :: (a7, .inl (cI, 80, .inl (fd))) :: Z)) ?_)
              rw [putv_nI (c := i) (by omega) (by omega)]
              refine g_iinc (v := nI (i + 1)) (lv' := [(5, .int (nI (i + 1))), (6, .int 1), (0, .ref h), (1, .ref a5), (2, .int (nI n8)), (3, .int (sun (n8 % 8))), (4, .int 1)]) C dX1_dryOneHour_95 6 rfl (by exact nI_add _ 1) (by decide) rfl ?_
              refine g_goto (tgt := 30) C dX1_dryOneHour_98 (by decide) ?_
              refine g_sub [2, 3, 4, 5, 6, 0] (lv' := [(0, .ref h), (1, .ref a5), (2, .int (nI n8)), (3, .int (sun (n8 % 8))), (4, .int 1), (5, .int (nI (i + 1)))]) rfl ?_
              exact ih (i + 1) _ (lo_put hlo (by simp [dry1, *])) (hi_put hhi) (by omega) (by omega)
    refine g_sub [3, 4, 5, 2, 1, 0] (lv' := [(0, .ref h), (1, .ref a5), (2, .int (nI n8)), (3, .int (sun (n8 % 8))), (4, .int 1), (5, .int 0)]) rfl ?_
    exact lp30_10 81 0 fs (fun c hc => absurd hc (Nat.not_lt_zero c)) (fun c hc => rfl) (by omega) (by omega)

theorem k_X1_setCover_inX0 : ∀ w ∈ wsX00, w ∈ wsX1_setCover := by decide +kernel
theorem k_X1_setCover_1 : Cond.fieldLink RX1 110 "WetMosaic$Piece" "length" "I" ∈ wsX1_setCover := by decide +kernel
theorem k_X1_setCover_inX1 : ∀ w ∈ wsX10, w ∈ wsX1_setCover := by decide +kernel
theorem k_X1_setCover_3 : Cond.fieldLink RX1 13 "WetMosaic" "cover" "[I" ∈ wsX1_setCover := by decide +kernel
set_option maxHeartbeats 4000000 in
set_option maxRecDepth 100000 in
theorem c_X1_setCover (l : Launch) (D : va_G) (tys : List (ClassId × FieldType)) (cI cP : ClassId) (ht0 : tys[0]? = some (cI, .int)) (h a1 a2 a3 a4 a5 a6 a7 np hr : Nat) (wet cover sun fs mk fd : Nat → Int32) (pcs : Nat → Option Nat) (Z : va_W) (o : Nat) (p9 : Pd) (v : Int32) (hln : ql p9 ≤ 3) (hc : ∀ j, j < ql p9 → pcl p9 j < 80) (hm5 : (o, .inr (0, [.int (nI (qx p9)), .int (nI (qy p9)), .int (nI (ql p9)), .int (qf p9), .int (qb p9), .int (gz (qc p9)), .int (gz (qs p9)), .int (gz (qo p9))])) ∈ Z) : gM l yX1_setCover wsX1_setCover ({ frames := 2, cells := 0, slots := 0, locals := 44 } : Room) D tys [.ref h, .ref o, .int v] ((h, .inr (1, [.ref a1, .ref a2, .ref a3, .ref a4, .int (nI np), .int (nI hr), .ref a5, .ref a6, .ref a7])) :: (a1, .inl (cI, 80, .inl (wet))) :: (a2, .inl (cI, 80, .inl (cover))) :: (a3, .inl (cI, 8, .inl (sun))) :: (a4, .inl (cP, 100, .inr (.inr (.inr (.inr (pcs)))))) :: (a5, .inl (cI, 80, .inl (fs))) :: (a6, .inl (cI, 80, .inl (mk))) :: (a7, .inl (cI, 80, .inl (fd))) :: Z) (gIs none ((h, .inr (1, [.ref a1, .ref a2, .ref a3, .ref a4, .int (nI np), .int (nI hr), .ref a5, .ref a6, .ref a7])) :: (a1, .inl (cI, 80, .inl (wet))) :: (a2, .inl (cI, 80, .inl (setL cover (pcl p9) v (ql p9)))) :: (a3, .inl (cI, 8, .inl (sun))) :: (a4, .inl (cP, 100, .inr (.inr (.inr (.inr (pcs)))))) :: (a5, .inl (cI, 80, .inl (fs))) :: (a6, .inl (cI, 80, .inl (mk))) :: (a7, .inl (cI, 80, .inl (fd))) :: Z)) 0 0 := by
  refine gM_of (by decide +kernel) rfl (Nat.le_of_ble_eq_true rfl) ?_
  intro p e s m args below meth c A Q hin C hQ
  refine g_sub [0, 1, 2] (lv' := [(0, .ref h), (1, .ref o), (2, .int v)]) rfl ?_
  refine g_iconst (v := 0) C dX1_setCover_0 (by decide) ?_
  refine g_istore_n (lv' := [(3, .int 0), (0, .ref h), (1, .ref o), (2, .int v)]) C dX1_setCover_1 rfl (by decide) rfl ?_
  have lp2_1 : ∀ (n9 : Nat) (j : Nat) (g : Nat → Int32) (hg : g = setL cover (pcl p9) v j) (hi : j ≤ ql p9) (hn : ql p9 + 1 ≤ j + n9), G p l e ({ frames := 2, cells := 0, slots := 0, locals := 44 } : Room) s m args below meth c D A s.heap 4 0 0 Q 2 [(0, .ref h), (1, .ref o), (2, .int v), (3, .int (nI j))] [] ((h, .inr (1, [.ref a1, .ref a2, .ref a3, .ref a4, .int (nI np), .int (nI hr), .ref a5, .ref a6, .ref a7])) :: (a1, .inl (cI, 80, .inl (wet))) :: (a2, .inl (cI, 80, .inl (g))) :: (a3, .inl (cI, 8, .inl (sun))) :: (a4, .inl (cP, 100, .inr (.inr (.inr (.inr (pcs)))))) :: (a5, .inl (cI, 80, .inl (fs))) :: (a6, .inl (cI, 80, .inl (mk))) :: (a7, .inl (cI, 80, .inl (fd))) :: Z) := by
    intro n9
    induction n9 with
    | zero =>
      intro j g hg hi hn
      exfalso; omega
    | succ n9 ih =>
      intro j g hg hi hn
      refine g_iload_n C dX1_setCover_2 rfl 3 rfl ?_
      refine g_aload_n C dX1_setCover_3 rfl 1 rfl ?_
      refine g_get (ci := 0) (Cn := RX0) (T := TX0) (N := 8) C k_X1_setCover_inX0 (gmT (gmT (gmT (gmT (gmT (gmT (gmT (gmT hm5)))))))) rfl 2 (by decide) k_X1_setCover_1 rfl rfl dX1_setCover_4 ?_
      refine g_icmp_ge (tgt := 29) C dX1_setCover_7 (by decide) (fun c_2 => ?_) (fun c_2 => ?_)
      · skip
        rw [nI_leI (by omega) (by omega)] at c_2
        refine g_vret C hQ (Nat.le_of_ble_eq_true rfl) (Nat.le_of_ble_eq_true rfl) dX1_setCover_29 ?_
        have e : j = ql p9 := by omega
        exact ⟨rfl, by rw [hg, e]⟩
      · skip
        rw [nI_leI (by omega) (by omega)] at c_2
        refine g_aload_n C dX1_setCover_10 rfl 0 rfl ?_
        refine g_get (ci := 1) (Cn := RX1) (T := TX1) (N := 9) C k_X1_setCover_inX1 gm0 rfl 1 (by decide) k_X1_setCover_3 rfl rfl dX1_setCover_11 ?_
        refine g_aload_n C dX1_setCover_14 rfl 1 rfl ?_
        refine g_iload_n C dX1_setCover_15 rfl 3 rfl ?_
        refine g_callV (ci := 0) (Cn := RX0) (As := [.int (nI j)]) (rest := [.ref a2]) C (gmT (gmT (gmT (gmT (gmT (gmT (gmT (gmT hm5)))))))) rfl rfl (c_X0_cellAt l D tys ((h, .inr (1, [.ref a1, .ref a2, .ref a3, .ref a4, .int (nI np), .int (nI hr), .ref a5, .ref a6, .ref a7])) :: (a1, .inl (cI, 80, .inl (wet))) :: (a2, .inl (cI, 80, .inl (g))) :: (a3, .inl (cI, 8, .inl (sun))) :: (a4, .inl (cP, 100, .inr (.inr (.inr (.inr (pcs)))))) :: (a5, .inl (cI, 80, .inl (fs))) :: (a6, .inl (cI, 80, .inl (mk))) :: (a7, .inl (cI, 80, .inl (fd))) :: Z) o (qx p9) (qy p9) (ql p9) (qf p9) (qb p9) (qc p9) (qs p9) (qo p9) (gmT (gmT (gmT (gmT (gmT (gmT (gmT (gmT hm5)))))))) j) (cwV 1 C.ts gX1_setCover_X0_cellAt rfl rfl rfl (by decide +kernel) ⟨(Nat.le_of_ble_eq_true rfl), (Nat.le_of_ble_eq_true rfl)⟩) rfl rfl (Nat.le_of_ble_eq_true rfl) dX1_setCover_16 (Nat.le_of_ble_eq_true rfl) (Nat.le_of_ble_eq_true rfl) (g_is (x := .int (nI (pcl p9 j))) (W1 := ((h, .inr (1, [.ref a1, .ref a2, .ref a3, .ref a4, .int (nI np), .int (nI hr), .ref a5, .ref a6, .ref a7])) :: (a1, .inl (cI, 80, .inl (wet))) :: (a2, .inl (cI, 80, .inl (g))) :: (a3, .inl (cI, 8, .inl (sun))) :: (a4, .inl (cP, 100, .inr (.inr (.inr (.inr (pcs)))))) :: (a5, .inl (cI, 80, .inl (fs))) :: (a6, .inl (cI, 80, .inl (mk))) :: (a7, .inl (cI, 80, .inl (fd))) :: Z)) ?_)
        refine g_iload_n C dX1_setCover_19 rfl 2 rfl ?_
        refine g_callS (As := [.ref a2, .int (nI (pcl p9 j)), .int v]) (rest := []) C (c_X1_put l D tys cI ht0 ((h, .inr (1, [.ref a1, .ref a2, .ref a3, .ref a4, .int (nI np), .int (nI hr), .ref a5, .ref a6, .ref a7])) :: (a1, .inl (cI, 80, .inl (wet))) :: (a2, .inl (cI, 80, .inl (g))) :: (a3, .inl (cI, 8, .inl (sun))) :: (a4, .inl (cP, 100, .inr (.inr (.inr (.inr (pcs)))))) :: (a5, .inl (cI, 80, .inl (fs))) :: (a6, .inl (cI, 80, .inl (mk))) :: (a7, .inl (cI, 80, .inl (fd))) :: Z) 2 a2 80 g (nI (pcl p9 j)) v (by decide) (by decide) rfl) (va_cwS 3 C.ts gX1_setCover_X1_put rfl rfl rfl (by decide +kernel) ⟨(Nat.le_of_ble_eq_true rfl), (Nat.le_of_ble_eq_true rfl)⟩) rfl rfl (Nat.le_of_ble_eq_true rfl) dX1_setCover_20 (Nat.le_of_ble_eq_true rfl) (Nat.le_of_ble_eq_true rfl) (g_isV (W1 := ((h, .inr (1, [.ref a1, .ref a2, .ref a3, .ref a4, .int (nI np), .int (nI hr), .ref a5, .ref a6, .ref a7])) :: (a1, .inl (cI, 80, .inl (wet))) :: (a2, .inl (cI, 80, .inl (putv 80 g (nI (pcl p9 j)) v))) :: (a3, .inl (cI, 8, .inl (sun))) :: (a4, .inl (cP, 100, .inr (.inr (.inr (.inr (pcs)))))) :: (a5, .inl (cI, 80, .inl (fs))) :: (a6, .inl (cI, 80, .inl (mk))) :: (a7, .inl (cI, 80, .inl (fd))) :: Z)) ?_)
        rw [putv_nI (c := (pcl p9 j)) (hc _ (by omega)) (by omega)]
        refine g_iinc (v := nI (j + 1)) (lv' := [(3, .int (nI (j + 1))), (0, .ref h), (1, .ref o), (2, .int v)]) C dX1_setCover_23 3 rfl (by exact nI_add _ 1) (by decide) rfl ?_
        refine g_goto (tgt := 2) C dX1_setCover_26 (by decide) ?_
        refine g_sub [1, 2, 3, 0] (lv' := [(0, .ref h), (1, .ref o), (2, .int v), (3, .int (nI (j + 1)))]) rfl ?_
        exact ih (j + 1) _ (by rw [hg]; rfl) (by omega) (by omega)
  refine g_sub [1, 2, 3, 0] (lv' := [(0, .ref h), (1, .ref o), (2, .int v), (3, .int 0)]) rfl ?_
  exact lp2_1 (ql p9 + 1) 0 cover rfl (by omega) (by omega)

theorem k_X1_removeMortar_inX0 : ∀ w ∈ wsX00, w ∈ wsX1_removeMortar := by decide +kernel
theorem k_X1_removeMortar_1 : Cond.fieldLink RX1 110 "WetMosaic$Piece" "length" "I" ∈ wsX1_removeMortar := by decide +kernel
theorem k_X1_removeMortar_inX1 : ∀ w ∈ wsX10, w ∈ wsX1_removeMortar := by decide +kernel
theorem k_X1_removeMortar_3 : Cond.fieldLink RX1 9 "WetMosaic" "wet" "[I" ∈ wsX1_removeMortar := by decide +kernel
set_option maxHeartbeats 4000000 in
set_option maxRecDepth 100000 in
theorem c_X1_removeMortar (l : Launch) (D : va_G) (tys : List (ClassId × FieldType)) (cI cP : ClassId) (ht0 : tys[0]? = some (cI, .int)) (h a1 a2 a3 a4 a5 a6 a7 np hr : Nat) (wet cover sun fs mk fd : Nat → Int32) (pcs : Nat → Option Nat) (Z : va_W) (o : Nat) (p9 : Pd) (hln : ql p9 ≤ 3) (hc : ∀ j, j < ql p9 → pcl p9 j < 80) (hm5 : (o, .inr (0, [.int (nI (qx p9)), .int (nI (qy p9)), .int (nI (ql p9)), .int (qf p9), .int (qb p9), .int (gz (qc p9)), .int (gz (qs p9)), .int (gz (qo p9))])) ∈ Z) : gM l yX1_removeMortar wsX1_removeMortar ({ frames := 2, cells := 0, slots := 0, locals := 44 } : Room) D tys [.ref h, .ref o] ((h, .inr (1, [.ref a1, .ref a2, .ref a3, .ref a4, .int (nI np), .int (nI hr), .ref a5, .ref a6, .ref a7])) :: (a1, .inl (cI, 80, .inl (wet))) :: (a2, .inl (cI, 80, .inl (cover))) :: (a3, .inl (cI, 8, .inl (sun))) :: (a4, .inl (cP, 100, .inr (.inr (.inr (.inr (pcs)))))) :: (a5, .inl (cI, 80, .inl (fs))) :: (a6, .inl (cI, 80, .inl (mk))) :: (a7, .inl (cI, 80, .inl (fd))) :: Z) (gIs none ((h, .inr (1, [.ref a1, .ref a2, .ref a3, .ref a4, .int (nI np), .int (nI hr), .ref a5, .ref a6, .ref a7])) :: (a1, .inl (cI, 80, .inl (setL wet (pcl p9) (-1) (ql p9)))) :: (a2, .inl (cI, 80, .inl (cover))) :: (a3, .inl (cI, 8, .inl (sun))) :: (a4, .inl (cP, 100, .inr (.inr (.inr (.inr (pcs)))))) :: (a5, .inl (cI, 80, .inl (fs))) :: (a6, .inl (cI, 80, .inl (mk))) :: (a7, .inl (cI, 80, .inl (fd))) :: Z)) 0 0 := by
  refine gM_of (by decide +kernel) rfl (Nat.le_of_ble_eq_true rfl) ?_
  intro p e s m args below meth c A Q hin C hQ
  refine g_sub [0, 1] (lv' := [(0, .ref h), (1, .ref o)]) rfl ?_
  refine g_iconst (v := 0) C dX1_removeMortar_0 (by decide) ?_
  refine g_istore_n (lv' := [(2, .int 0), (0, .ref h), (1, .ref o)]) C dX1_removeMortar_1 rfl (by decide) rfl ?_
  have lp2_1 : ∀ (n9 : Nat) (j : Nat) (g : Nat → Int32) (hg : g = setL wet (pcl p9) (-1) j) (hi : j ≤ ql p9) (hn : ql p9 + 1 ≤ j + n9), G p l e ({ frames := 2, cells := 0, slots := 0, locals := 44 } : Room) s m args below meth c D A s.heap 3 0 0 Q 2 [(0, .ref h), (1, .ref o), (2, .int (nI j))] [] ((h, .inr (1, [.ref a1, .ref a2, .ref a3, .ref a4, .int (nI np), .int (nI hr), .ref a5, .ref a6, .ref a7])) :: (a1, .inl (cI, 80, .inl (g))) :: (a2, .inl (cI, 80, .inl (cover))) :: (a3, .inl (cI, 8, .inl (sun))) :: (a4, .inl (cP, 100, .inr (.inr (.inr (.inr (pcs)))))) :: (a5, .inl (cI, 80, .inl (fs))) :: (a6, .inl (cI, 80, .inl (mk))) :: (a7, .inl (cI, 80, .inl (fd))) :: Z) := by
    intro n9
    induction n9 with
    | zero =>
      intro j g hg hi hn
      exfalso; omega
    | succ n9 ih =>
      intro j g hg hi hn
      refine g_iload_n C dX1_removeMortar_2 rfl 2 rfl ?_
      refine g_aload_n C dX1_removeMortar_3 rfl 1 rfl ?_
      refine g_get (ci := 0) (Cn := RX0) (T := TX0) (N := 8) C k_X1_removeMortar_inX0 (gmT (gmT (gmT (gmT (gmT (gmT (gmT (gmT hm5)))))))) rfl 2 (by decide) k_X1_removeMortar_1 rfl rfl dX1_removeMortar_4 ?_
      refine g_icmp_ge (tgt := 29) C dX1_removeMortar_7 (by decide) (fun c_2 => ?_) (fun c_2 => ?_)
      · skip
        rw [nI_leI (by omega) (by omega)] at c_2
        refine g_vret C hQ (Nat.le_of_ble_eq_true rfl) (Nat.le_of_ble_eq_true rfl) dX1_removeMortar_29 ?_
        have e : j = ql p9 := by omega
        exact ⟨rfl, by rw [hg, e]⟩
      · skip
        rw [nI_leI (by omega) (by omega)] at c_2
        refine g_aload_n C dX1_removeMortar_10 rfl 0 rfl ?_
        refine g_get (ci := 1) (Cn := RX1) (T := TX1) (N := 9) C k_X1_removeMortar_inX1 gm0 rfl 0 (by decide) k_X1_removeMortar_3 rfl rfl dX1_removeMortar_11 ?_
        refine g_aload_n C dX1_removeMortar_14 rfl 1 rfl ?_
        refine g_iload_n C dX1_removeMortar_15 rfl 2 rfl ?_
        refine g_callV (ci := 0) (Cn := RX0) (As := [.int (nI j)]) (rest := [.ref a1]) C (gmT (gmT (gmT (gmT (gmT (gmT (gmT (gmT hm5)))))))) rfl rfl (c_X0_cellAt l D tys ((h, .inr (1, [.ref a1, .ref a2, .ref a3, .ref a4, .int (nI np), .int (nI hr), .ref a5, .ref a6, .ref a7])) :: (a1, .inl (cI, 80, .inl (g))) :: (a2, .inl (cI, 80, .inl (cover))) :: (a3, .inl (cI, 8, .inl (sun))) :: (a4, .inl (cP, 100, .inr (.inr (.inr (.inr (pcs)))))) :: (a5, .inl (cI, 80, .inl (fs))) :: (a6, .inl (cI, 80, .inl (mk))) :: (a7, .inl (cI, 80, .inl (fd))) :: Z) o (qx p9) (qy p9) (ql p9) (qf p9) (qb p9) (qc p9) (qs p9) (qo p9) (gmT (gmT (gmT (gmT (gmT (gmT (gmT (gmT hm5)))))))) j) (cwV 1 C.ts gX1_removeMortar_X0_cellAt rfl rfl rfl (by decide +kernel) ⟨(Nat.le_of_ble_eq_true rfl), (Nat.le_of_ble_eq_true rfl)⟩) rfl rfl (Nat.le_of_ble_eq_true rfl) dX1_removeMortar_16 (Nat.le_of_ble_eq_true rfl) (Nat.le_of_ble_eq_true rfl) (g_is (x := .int (nI (pcl p9 j))) (W1 := ((h, .inr (1, [.ref a1, .ref a2, .ref a3, .ref a4, .int (nI np), .int (nI hr), .ref a5, .ref a6, .ref a7])) :: (a1, .inl (cI, 80, .inl (g))) :: (a2, .inl (cI, 80, .inl (cover))) :: (a3, .inl (cI, 8, .inl (sun))) :: (a4, .inl (cP, 100, .inr (.inr (.inr (.inr (pcs)))))) :: (a5, .inl (cI, 80, .inl (fs))) :: (a6, .inl (cI, 80, .inl (mk))) :: (a7, .inl (cI, 80, .inl (fd))) :: Z)) ?_)
        refine g_iconst (v := (-1)) C dX1_removeMortar_19 (by decide) ?_
        refine g_callS (As := [.ref a1, .int (nI (pcl p9 j)), .int ((-1))]) (rest := []) C (c_X1_put l D tys cI ht0 ((h, .inr (1, [.ref a1, .ref a2, .ref a3, .ref a4, .int (nI np), .int (nI hr), .ref a5, .ref a6, .ref a7])) :: (a1, .inl (cI, 80, .inl (g))) :: (a2, .inl (cI, 80, .inl (cover))) :: (a3, .inl (cI, 8, .inl (sun))) :: (a4, .inl (cP, 100, .inr (.inr (.inr (.inr (pcs)))))) :: (a5, .inl (cI, 80, .inl (fs))) :: (a6, .inl (cI, 80, .inl (mk))) :: (a7, .inl (cI, 80, .inl (fd))) :: Z) 1 a1 80 g (nI (pcl p9 j)) (-1) (by decide) (by decide) rfl) (va_cwS 3 C.ts gX1_removeMortar_X1_put rfl rfl rfl (by decide +kernel) ⟨(Nat.le_of_ble_eq_true rfl), (Nat.le_of_ble_eq_true rfl)⟩) rfl rfl (Nat.le_of_ble_eq_true rfl) dX1_removeMortar_20 (Nat.le_of_ble_eq_true rfl) (Nat.le_of_ble_eq_true rfl) (g_isV (W1 := ((h, .inr (1, [.ref a1, .ref a2, .ref a3, .ref a4, .int (nI np), .int (nI hr), .ref a5, .ref a6, .ref a7])) :: (a1, .inl (cI, 80, .inl (putv 80 g (nI (pcl p9 j)) (-1)))) :: (a2, .inl (cI, 80, .inl (cover))) :: (a3, .inl (cI, 8, .inl (sun))) :: (a4, .inl (cP, 100, .inr (.inr (.inr (.inr (pcs)))))) :: (a5, .inl (cI, 80, .inl (fs))) :: (a6, .inl (cI, 80, .inl (mk))) :: (a7, .inl (cI, 80, .inl (fd))) :: Z)) ?_)
        rw [putv_nI (c := (pcl p9 j)) (hc _ (by omega)) (by omega)]
        refine g_iinc (v := nI (j + 1)) (lv' := [(2, .int (nI (j + 1))), (0, .ref h), (1, .ref o)]) C dX1_removeMortar_23 2 rfl (by exact nI_add _ 1) (by decide) rfl ?_
        refine g_goto (tgt := 2) C dX1_removeMortar_26 (by decide) ?_
        refine g_sub [1, 2, 0] (lv' := [(0, .ref h), (1, .ref o), (2, .int (nI (j + 1)))]) rfl ?_
        exact ih (j + 1) _ (by rw [hg]; rfl) (by omega) (by omega)
  refine g_sub [1, 2, 0] (lv' := [(0, .ref h), (1, .ref o), (2, .int 0)]) rfl ?_
  exact lp2_1 (ql p9 + 1) 0 wet rfl (by omega) (by omega)
