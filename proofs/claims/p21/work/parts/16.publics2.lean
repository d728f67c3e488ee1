theorem x_X1_spread_IA : ∀ w ∈ (vx_atS RX1 46 "java/lang/IllegalArgumentException" ["java/lang/RuntimeException", "java/lang/Exception"]).filter goodWord, w ∈ wsX1_spread := by
  intro w h
  simp only [wsX1_spread, List.mem_cons, List.mem_append, h, or_true, true_or]
theorem k_X1_spread_1 : Cond.classLink RX1 42 "java/lang/IllegalArgumentException" ∈ wsX1_spread := by decide +kernel
theorem k_X1_spread_2 : Cond.initialized "java/lang/IllegalArgumentException" ∈ wsX1_spread := by decide +kernel
theorem k_X1_spread_inX1 : ∀ w ∈ wsX10, w ∈ wsX1_spread := by decide +kernel
theorem k_X1_spread_4 : Cond.fieldLink RX1 13 "WetMosaic" "cover" "[I" ∈ wsX1_spread := by decide +kernel
theorem k_X1_spread_5 : Cond.fieldLink RX1 9 "WetMosaic" "wet" "[I" ∈ wsX1_spread := by decide +kernel
set_option maxHeartbeats 4000000 in
set_option maxRecDepth 100000 in
theorem c_X1_spread (l : Launch) (hl9 : l.stackTraces = false) (D : va_G) (tys : List (ClassId × FieldType)) (cI cP : ClassId) (ht0 : tys[0]? = some (cI, .int)) (ht1 : tys[1]? = some (cP, .object RX0)) (h a1 a2 a3 a4 a5 a6 a7 np hr : Nat) (wet cover sun fs mk fd : Nat → Int32) (pcs : Nat → Option Nat) (pa : Nat → Nat) (P : Nat → Pd) (Y : va_W) (hnp : np ≤ 100) (hpc : ∀ k, k < np → pcs k = some (pa k)) (hg : Pok np P) (x y w9 h9 : Int32) : gMx l yX1_spread wsX1_spread ({ frames := 7, cells := 2, slots := 12, locals := 121 } : Room) D tys [.ref h, .int x, .int y, .int w9, .int h9] ((h, .inr (1, [.ref a1, .ref a2, .ref a3, .ref a4, .int (nI np), .int (nI hr), .ref a5, .ref a6, .ref a7])) :: (a1, .inl (cI, 80, .inl (wet))) :: (a2, .inl (cI, 80, .inl (cover))) :: (a3, .inl (cI, 8, .inl (sun))) :: (a4, .inl (cP, 100, .inr (.inr (.inr (.inr (pcs)))))) :: (a5, .inl (cI, 80, .inl (fs))) :: (a6, .inl (cI, 80, .inl (mk))) :: (a7, .inl (cI, 80, .inl (fd))) :: (plist pa P np ++ Y)) (gIy (cdSp x y w9 h9 = 0) (some (.int (nI (cnt (sprF cover (vn x) (vn y) (vn w9)) (vn w9 * vn h9))))) ((h, .inr (1, [.ref a1, .ref a2, .ref a3, .ref a4, .int (nI np), .int (nI hr), .ref a5, .ref a6, .ref a7])) :: (a1, .inl (cI, 80, .inl (sprW wet cover (vn x) (vn y) (vn w9) (vn w9 * vn h9)))) :: (a2, .inl (cI, 80, .inl (cover))) :: (a3, .inl (cI, 8, .inl (sun))) :: (a4, .inl (cP, 100, .inr (.inr (.inr (.inr (pcs)))))) :: (a5, .inl (cI, 80, .inl (fs))) :: (a6, .inl (cI, 80, .inl (mk))) :: (a7, .inl (cI, 80, .inl (fd))) :: (plist pa P np ++ Y))) (fun E => cdE (cdSp x y w9 h9) nmOA E) 2 12 := by
  refine gMx_of2 (by decide +kernel) rfl (Nat.le_of_ble_eq_true rfl) ?_
  intro p e s m args below meth c A Q C hT hQ hQX
  refine g_sub [0, 1, 2, 3, 4] (lv' := [(0, .ref h), (1, .int x), (2, .int y), (3, .int w9), (4, .int h9)]) rfl ?_
  refine g_iload_n C dX1_spread_0 rfl 1 rfl ?_
  refine g_iload_n C dX1_spread_1 rfl 2 rfl ?_
  refine g_callSx (As := [.int x, .int y]) (rest := []) C hQX hT (c_X1_refuseOutside l hl9 D tys ((h, .inr (1, [.ref a1, .ref a2, .ref a3, .ref a4, .int (nI np), .int (nI hr), .ref a5, .ref a6, .ref a7])) :: (a1, .inl (cI, 80, .inl (wet))) :: (a2, .inl (cI, 80, .inl (cover))) :: (a3, .inl (cI, 8, .inl (sun))) :: (a4, .inl (cP, 100, .inr (.inr (.inr (.inr (pcs)))))) :: (a5, .inl (cI, 80, .inl (fs))) :: (a6, .inl (cI, 80, .inl (mk))) :: (a7, .inl (cI, 80, .inl (fd))) :: (plist pa P np ++ Y)) x y) (va_cwS 2 C.ts gX1_spread_X1_refuseOutside rfl rfl rfl (by decide +kernel) ⟨(Nat.le_of_ble_eq_true rfl), (Nat.le_of_ble_eq_true rfl)⟩) rfl rfl (Nat.le_of_ble_eq_true rfl) dX1_spread_2 (Nat.le_of_ble_eq_true rfl) (Nat.le_of_ble_eq_true rfl) (Nat.le_of_ble_eq_true rfl) (Nat.le_of_ble_eq_true rfl) (fun E h => ⟨by simp [cdSp, h.1], by rw [h.2]; simp [cdSp, h.1]⟩) (g_isYV (W1 := ((h, .inr (1, [.ref a1, .ref a2, .ref a3, .ref a4, .int (nI np), .int (nI hr), .ref a5, .ref a6, .ref a7])) :: (a1, .inl (cI, 80, .inl (wet))) :: (a2, .inl (cI, 80, .inl (cover))) :: (a3, .inl (cI, 8, .inl (sun))) :: (a4, .inl (cP, 100, .inr (.inr (.inr (.inr (pcs)))))) :: (a5, .inl (cI, 80, .inl (fs))) :: (a6, .inl (cI, 80, .inl (mk))) :: (a7, .inl (cI, 80, .inl (fd))) :: (plist pa P np ++ Y))) (fun how => ?_))
  refine g_more (k2 := 1) (n2 := 6) (Nat.le_of_ble_eq_true rfl) (Nat.le_of_ble_eq_true rfl) ?_
  have how2 : inR 0 9 x = true ∧ inR 0 7 y = true := by simpa [onW] using how
  obtain ⟨x9, hx9, rfl⟩ := inR_nI (n := 9) rfl how2.1
  have hclx9 : vn (nI x9) = x9 := nI_clamp (by omega)
  obtain ⟨y9, hy9, rfl⟩ := inR_nI (n := 7) rfl how2.2
  have hcly9 : vn (nI y9) = y9 := nI_clamp (by omega)
  refine g_iload_n C dX1_spread_5 rfl 3 rfl ?_
  refine g_iconst (v := 1) C dX1_spread_6 (by decide) ?_
  refine g_bipush (v := 10) C dX1_spread_7 (by decide) ?_
  refine g_iload_n C dX1_spread_9 rfl 1 rfl ?_
  refine g_isub C dX1_spread_10 ?_
  refine g_callS (As := [.int w9, .int 1, .int (10 - (nI x9))]) (rest := []) C (c_X1_within l D tys ((h, .inr (1, [.ref a1, .ref a2, .ref a3, .ref a4, .int (nI np), .int (nI hr), .ref a5, .ref a6, .ref a7])) :: (a1, .inl (cI, 80, .inl (wet))) :: (a2, .inl (cI, 80, .inl (cover))) :: (a3, .inl (cI, 8, .inl (sun))) :: (a4, .inl (cP, 100, .inr (.inr (.inr (.inr (pcs)))))) :: (a5, .inl (cI, 80, .inl (fs))) :: (a6, .inl (cI, 80, .inl (mk))) :: (a7, .inl (cI, 80, .inl (fd))) :: (plist pa P np ++ Y)) w9 1 (10 - (nI x9))) (va_cwS 3 C.ts gX1_spread_X1_within rfl rfl rfl (by decide +kernel) ⟨(Nat.le_of_ble_eq_true rfl), (Nat.le_of_ble_eq_true rfl)⟩) rfl rfl (Nat.le_of_ble_eq_true rfl) dX1_spread_11 (Nat.le_of_ble_eq_true rfl) (Nat.le_of_ble_eq_true rfl) (g_is (x := .int (gz (inR 1 (10 - (nI x9)) w9))) (W1 := ((h, .inr (1, [.ref a1, .ref a2, .ref a3, .ref a4, .int (nI np), .int (nI hr), .ref a5, .ref a6, .ref a7])) :: (a1, .inl (cI, 80, .inl (wet))) :: (a2, .inl (cI, 80, .inl (cover))) :: (a3, .inl (cI, 8, .inl (sun))) :: (a4, .inl (cP, 100, .inr (.inr (.inr (.inr (pcs)))))) :: (a5, .inl (cI, 80, .inl (fs))) :: (a6, .inl (cI, 80, .inl (mk))) :: (a7, .inl (cI, 80, .inl (fd))) :: (plist pa P np ++ Y))) ?_)
  refine g_if_eq (tgt := 30) C dX1_spread_14 (by decide) (fun c_1 => ?_) (fun c_1 => ?_)
  · skip
    replace c_1 := gz0.mp c_1
    refine g_throwS (own := RX1) (cls := "java/lang/IllegalArgumentException") (text := "the part reaches beyond the wall") (names := tNs) (ik := 42) (is := 44) (ic := 46) C hQX hT hl9 (by decide) (by decide) k_X1_spread_1 k_X1_spread_2 (by decide +kernel) bad_IA x_X1_spread_IA ot_IA dX1_spread_30 dX1_spread_33 dX1_spread_34 dX1_spread_36 dX1_spread_39 (Nat.le_of_ble_eq_true rfl) (Nat.le_of_ble_eq_true rfl) (Nat.le_of_ble_eq_true rfl) (Nat.le_of_ble_eq_true rfl) (Nat.le_of_ble_eq_true rfl) (Nat.le_of_ble_eq_true rfl) ?_
    exact ⟨by simp [cdSp, *], by simp [cdSp, *]⟩
  · skip
    replace c_1 := gzn.mp c_1
    refine g_iload C dX1_spread_17 4 rfl ?_
    refine g_iconst (v := 1) C dX1_spread_19 (by decide) ?_
    refine g_bipush (v := 8) C dX1_spread_20 (by decide) ?_
    refine g_iload_n C dX1_spread_22 rfl 2 rfl ?_
    refine g_isub C dX1_spread_23 ?_
    refine g_callS (As := [.int h9, .int 1, .int (8 - (nI y9))]) (rest := []) C (c_X1_within l D tys ((h, .inr (1, [.ref a1, .ref a2, .ref a3, .ref a4, .int (nI np), .int (nI hr), .ref a5, .ref a6, .ref a7])) :: (a1, .inl (cI, 80, .inl (wet))) :: (a2, .inl (cI, 80, .inl (cover))) :: (a3, .inl (cI, 8, .inl (sun))) :: (a4, .inl (cP, 100, .inr (.inr (.inr (.inr (pcs)))))) :: (a5, .inl (cI, 80, .inl (fs))) :: (a6, .inl (cI, 80, .inl (mk))) :: (a7, .inl (cI, 80, .inl (fd))) :: (plist pa P np ++ Y)) h9 1 (8 - (nI y9))) (va_cwS 3 C.ts gX1_spread_X1_within rfl rfl rfl (by decide +kernel) ⟨(Nat.le_of_ble_eq_true rfl), (Nat.le_of_ble_eq_true rfl)⟩) rfl rfl (Nat.le_of_ble_eq_true rfl) dX1_spread_24 (Nat.le_of_ble_eq_true rfl) (Nat.le_of_ble_eq_true rfl) (g_is (x := .int (gz (inR 1 (8 - (nI y9)) h9))) (W1 := ((h, .inr (1, [.ref a1, .ref a2, .ref a3, .ref a4, .int (nI np), .int (nI hr), .ref a5, .ref a6, .ref a7])) :: (a1, .inl (cI, 80, .inl (wet))) :: (a2, .inl (cI, 80, .inl (cover))) :: (a3, .inl (cI, 8, .inl (sun))) :: (a4, .inl (cP, 100, .inr (.inr (.inr (.inr (pcs)))))) :: (a5, .inl (cI, 80, .inl (fs))) :: (a6, .inl (cI, 80, .inl (mk))) :: (a7, .inl (cI, 80, .inl (fd))) :: (plist pa P np ++ Y))) ?_)
    refine g_if_ne (tgt := 40) C dX1_spread_27 (by decide) (fun c_2 => ?_) (fun c_2 => ?_)
    · skip
      replace c_2 := gzn.mp c_2
      obtain ⟨w, hw1, hw2, rfl⟩ := inR1_nI (N := 10) rfl (by decide) (by omega) c_1
      obtain ⟨v, hv1, hv2, rfl⟩ := inR1_nI (N := 8) rfl (by decide) (by omega) c_2
      have hclw : vn (nI w) = w := nI_clamp (by omega)
      have hclv : vn (nI v) = v := nI_clamp (by omega)
      refine g_iconst (v := 0) C dX1_spread_40 (by decide) ?_
      refine g_istore (lv' := [(5, .int 0), (0, .ref h), (1, .int (nI x9)), (2, .int (nI y9)), (3, .int (nI w)), (4, .int (nI v))]) C dX1_spread_41 (by decide) rfl ?_
      refine g_iconst (v := 0) C dX1_spread_43 (by decide) ?_
      refine g_istore (lv' := [(6, .int 0), (5, .int 0), (0, .ref h), (1, .int (nI x9)), (2, .int (nI y9)), (3, .int (nI w)), (4, .int (nI v))]) C dX1_spread_44 (by decide) rfl ?_
      have lp46 : ∀ (n9 : Nat) (d q : Nat) (g : Nat → Int32) (hq : q = cnt (sprF cover x9 y9 w) (w * d)) (hgg : g = sprW wet cover x9 y9 w (w * d)) (hi : d ≤ v) (hn : v + 1 ≤ d + n9), G p l e ({ frames := 7, cells := 2, slots := 12, locals := 121 } : Room) s m args below meth c D A s.heap 9 1 6 Q 46 [(0, .ref h), (1, .int (nI x9)), (2, .int (nI y9)), (3, .int (nI w)), (4, .int (nI v)), (5, .int (nI q)), (6, .int (nI d))] [] ((h, .inr (1, [.ref a1, .ref a2, .ref a3, .ref a4, .int (nI np), .int (nI hr), .ref a5, .ref a6, .ref a7])) :: (a1, .inl (cI, 80, .inl (g))) :: (a2, .inl (cI, 80, .inl (cover))) :: (a3, .inl (cI, 8, .inl (sun))) :: (a4, .inl (cP, 100, .inr (.inr (.inr (.inr (pcs)))))) :: (a5, .inl (cI, 80, .inl (fs))) :: (a6, .inl (cI, 80, .inl (mk))) :: (a7, .inl (cI, 80, .inl (fd))) :: (plist pa P np ++ Y)) := by
        intro n9
        induction n9 with
        | zero =>
          intro d q g hq hgg hi hn
          exfalso; omega
        | succ n9 ih =>
          intro d q g hq hgg hi hn
          refine g_iload C dX1_spread_46 6 rfl ?_
          refine g_iload C dX1_spread_48 4 rfl ?_
          refine g_icmp_ge (tgt := 114) C dX1_spread_50 (by decide) (fun c_3 => ?_) (fun c_3 => ?_)
          · skip
            rw [nI_leI (by omega) (by omega)] at c_3
            refine g_iload C dX1_spread_114 5 rfl ?_
            refine g_iret C hQ (Nat.le_of_ble_eq_true rfl) (Nat.le_of_ble_eq_true rfl) dX1_spread_116 ?_
            have e : d = v := by omega
            subst e
            simp only [hclx9, hcly9, hclw, hclv]
            exact ⟨by simp [cdSp, *], by rw [hq], by rw [hgg]⟩
          · skip
            rw [nI_leI (by omega) (by omega)] at c_3
            refine g_iconst (v := 0) C dX1_spread_53 (by decide) ?_
            refine g_istore (lv' := [(7, .int 0), (0, .ref h), (1, .int (nI x9)), (2, .int (nI y9)), (3, .int (nI w)), (4, .int (nI v)), (5, .int (nI q)), (6, .int (nI d))]) C dX1_spread_54 (by decide) rfl ?_
            have lp56 : ∀ (n9 : Nat) (r q : Nat) (g : Nat → Int32) (hq2 : q = cnt (sprF cover x9 y9 w) (w * d + r)) (hg2 : g = sprW wet cover x9 y9 w (w * d + r)) (hi2 : r ≤ w) (hn2 : w + 1 ≤ r + n9), G p l e ({ frames := 7, cells := 2, slots := 12, locals := 121 } : Room) s m args below meth c D A s.heap 9 1 6 Q 56 [(0, .ref h), (1, .int (nI x9)), (2, .int (nI y9)), (3, .int (nI w)), (4, .int (nI v)), (5, .int (nI q)), (6, .int (nI d)), (7, .int (nI r))] [] ((h, .inr (1, [.ref a1, .ref a2, .ref a3, .ref a4, .int (nI np), .int (nI hr), .ref a5, .ref a6, .ref a7])) :: (a1, .inl (cI, 80, .inl (g))) :: (a2, .inl (cI, 80, .inl (cover))) :: (a3, .inl (cI, 8, .inl (sun))) :: (a4, .inl (cP, 100, .inr (.inr (.inr (.inr (pcs)))))) :: (a5, .inl (cI, 80, .inl (fs))) :: (a6, .inl (cI, 80, .inl (mk))) :: (a7, .inl (cI, 80, .inl (fd))) :: (plist pa P np ++ Y)) := by
              intro n9
              induction n9 with
              | zero =>
                intro r q g hq2 hg2 hi2 hn2
                exfalso; omega
              | succ n9 ih2 =>
                intro r q g hq2 hg2 hi2 hn2
                refine g_iload C dX1_spread_56 7 rfl ?_
                refine g_iload_n C dX1_spread_58 rfl 3 rfl ?_
                refine g_icmp_ge (tgt := 108) C dX1_spread_59 (by decide) (fun c_4 => ?_) (fun c_4 => ?_)
                · skip
                  rw [nI_leI (by omega) (by omega)] at c_4
                  refine g_iinc (v := nI (d + 1)) (lv' := [(6, .int (nI (d + 1))), (0, .ref h), (1, .int (nI x9)), (2, .int (nI y9)), (3, .int (nI w)), (4, .int (nI v)), (5, .int (nI q)), (7, .int (nI r))]) C dX1_spread_108 6 rfl (by exact nI_add _ 1) (by decide) rfl ?_
                  refine g_goto (tgt := 46) C dX1_spread_111 (by decide) ?_
                  refine g_sub [1, 2, 3, 4, 5, 6, 0] (lv' := [(0, .ref h), (1, .int (nI x9)), (2, .int (nI y9)), (3, .int (nI w)), (4, .int (nI v)), (5, .int (nI q)), (6, .int (nI (d + 1)))]) rfl ?_
                  have e : r = w := by omega
                  subst e
                  exact ih (d + 1) _ _ (by rw [hq2, Nat.mul_succ]) (by rw [hg2, Nat.mul_succ]) (by omega) (by omega)
                · skip
                  rw [nI_leI (by omega) (by omega)] at c_4
                  refine g_iload_n C dX1_spread_62 rfl 1 rfl ?_
                  refine g_iload C dX1_spread_63 7 rfl ?_
                  refine g_iadd C dX1_spread_65 ?_
                  refine g_eqi (x := (nI x9) + (nI r)) (y := nI (x9 + r)) (nI_add _ _) ?_
                  refine g_iload_n C dX1_spread_66 rfl 2 rfl ?_
                  refine g_iload C dX1_spread_67 6 rfl ?_
                  refine g_iadd C dX1_spread_69 ?_
                  refine g_eqi (x := (nI y9) + (nI d)) (y := nI (y9 + d)) (nI_add _ _) ?_
                  refine g_callS (As := [.int (nI (x9 + r)), .int (nI (y9 + d))]) (rest := []) C (c_X1_cellOf l D tys ((h, .inr (1, [.ref a1, .ref a2, .ref a3, .ref a4, .int (nI np), .int (nI hr), .ref a5, .ref a6, .ref a7])) :: (a1, .inl (cI, 80, .inl (g))) :: (a2, .inl (cI, 80, .inl (cover))) :: (a3, .inl (cI, 8, .inl (sun))) :: (a4, .inl (cP, 100, .inr (.inr (.inr (.inr (pcs)))))) :: (a5, .inl (cI, 80, .inl (fs))) :: (a6, .inl (cI, 80, .inl (mk))) :: (a7, .inl (cI, 80, .inl (fd))) :: (plist pa P np ++ Y)) (nI (x9 + r)) (nI (y9 + d))) (va_cwS 2 C.ts gX1_spread_X1_cellOf rfl rfl rfl (by decide +kernel) ⟨(Nat.le_of_ble_eq_true rfl), (Nat.le_of_ble_eq_true rfl)⟩) rfl rfl (Nat.le_of_ble_eq_true rfl) dX1_spread_70 (Nat.le_of_ble_eq_true rfl) (Nat.le_of_ble_eq_true rfl) (g_is (x := .int (10 * (nI (y9 + d)) + (nI (x9 + r)))) (W1 := ((h, .inr (1, [.ref a1, .ref a2, .ref a3, .ref a4, .int (nI np), .int (nI hr), .ref a5, .ref a6, .ref a7])) :: (a1, .inl (cI, 80, .inl (g))) :: (a2, .inl (cI, 80, .inl (cover))) :: (a3, .inl (cI, 8, .inl (sun))) :: (a4, .inl (cP, 100, .inr (.inr (.inr (.inr (pcs)))))) :: (a5, .inl (cI, 80, .inl (fs))) :: (a6, .inl (cI, 80, .inl (mk))) :: (a7, .inl (cI, 80, .inl (fd))) :: (plist pa P np ++ Y))) ?_)
                  refine g_eqi (x := 10 * (nI (y9 + d)) + (nI (x9 + r))) (y := nI (10 * (y9 + d) + (x9 + r))) (cel_nI _ _) ?_
                  refine g_istore (lv' := [(8, .int (nI (10 * (y9 + d) + (x9 + r)))), (0, .ref h), (1, .int (nI x9)), (2, .int (nI y9)), (3, .int (nI w)), (4, .int (nI v)), (5, .int (nI q)), (6, .int (nI d)), (7, .int (nI r))]) C dX1_spread_73 (by decide) rfl ?_
                  refine g_aload_n C dX1_spread_75 rfl 1 rfl ?_
                  refine g_get (v := .ref a2) (ci := 1) (Cn := RX1) (T := TX1) (N := 9) C k_X1_spread_inX1 gm0 rfl 1 (by decide) k_X1_spread_4 rfl rfl dX1_spread_76 ?_
                  refine g_iload C dX1_spread_79 0 rfl ?_
                  refine g_callS (As := [.ref a2, .int (nI (10 * (y9 + d) + (x9 + r)))]) (rest := []) C (c_X1_at l D tys cI ht0 ((h, .inr (1, [.ref a1, .ref a2, .ref a3, .ref a4, .int (nI np), .int (nI hr), .ref a5, .ref a6, .ref a7])) :: (a1, .inl (cI, 80, .inl (g))) :: (a2, .inl (cI, 80, .inl (cover))) :: (a3, .inl (cI, 8, .inl (sun))) :: (a4, .inl (cP, 100, .inr (.inr (.inr (.inr (pcs)))))) :: (a5, .inl (cI, 80, .inl (fs))) :: (a6, .inl (cI, 80, .inl (mk))) :: (a7, .inl (cI, 80, .inl (fd))) :: (plist pa P np ++ Y)) a2 80 cover (nI (10 * (y9 + d) + (x9 + r))) (by decide) (by decide) (gmT (gmT gm0))) (va_cwS 2 C.ts gX1_spread_X1_at rfl rfl rfl (by decide +kernel) ⟨(Nat.le_of_ble_eq_true rfl), (Nat.le_of_ble_eq_true rfl)⟩) rfl rfl (Nat.le_of_ble_eq_true rfl) dX1_spread_81 (Nat.le_of_ble_eq_true rfl) (Nat.le_of_ble_eq_true rfl) (g_is (x := .int (atv 80 cover (nI (10 * (y9 + d) + (x9 + r))))) (W1 := ((h, .inr (1, [.ref a1, .ref a2, .ref a3, .ref a4, .int (nI np), .int (nI hr), .ref a5, .ref a6, .ref a7])) :: (a1, .inl (cI, 80, .inl (g))) :: (a2, .inl (cI, 80, .inl (cover))) :: (a3, .inl (cI, 8, .inl (sun))) :: (a4, .inl (cP, 100, .inr (.inr (.inr (.inr (pcs)))))) :: (a5, .inl (cI, 80, .inl (fs))) :: (a6, .inl (cI, 80, .inl (mk))) :: (a7, .inl (cI, 80, .inl (fd))) :: (plist pa P np ++ Y))) ?_)
                  refine g_eqi (x := atv 80 cover (nI (10 * (y9 + d) + (x9 + r)))) (y := cover (10 * (y9 + d) + (x9 + r))) (atv_nI (by omega) (by omega)) ?_
                  refine g_iconst (v := (-1)) C dX1_spread_84 (by decide) ?_
                  refine g_icmp_ne (tgt := 102) C dX1_spread_85 (by decide) (fun c_5 => ?_) (fun c_5 => ?_)
                  · skip
                    refine g_iinc (v := nI (r + 1)) (lv' := [(7, .int (nI (r + 1))), (8, .int (nI (10 * (y9 + d) + (x9 + r)))), (0, .ref h), (1, .int (nI x9)), (2, .int (nI y9)), (3, .int (nI w)), (4, .int (nI v)), (5, .int (nI q)), (6, .int (nI d))]) C dX1_spread_102 8 rfl (by exact nI_add _ 1) (by decide) rfl ?_
                    refine g_goto (tgt := 56) C dX1_spread_105 (by decide) ?_
                    refine g_sub [2, 3, 4, 5, 6, 7, 8, 0] (lv' := [(0, .ref h), (1, .int (nI x9)), (2, .int (nI y9)), (3, .int (nI w)), (4, .int (nI v)), (5, .int (nI q)), (6, .int (nI d)), (7, .int (nI (r + 1)))]) rfl ?_
                    exact ih2 (r + 1) _ _ (by rw [hq2]; first | exact (spr_t (wet := wet) (by omega) (by assumption)).1.symm | exact (spr_f (wet := wet) (by omega) (by assumption)).1.symm) (by rw [hg2]; first | exact (spr_t (by omega) (by assumption)).2.symm | exact (spr_f (by omega) (by assumption)).2.symm) (by omega) (by omega)
                  · skip
                    refine g_aload_n C dX1_spread_88 rfl 1 rfl ?_
                    refine g_get (v := .ref a1) (ci := 1) (Cn := RX1) (T := TX1) (N := 9) C k_X1_spread_inX1 gm0 rfl 0 (by decide) k_X1_spread_5 rfl rfl dX1_spread_89 ?_
                    refine g_iload C dX1_spread_92 0 rfl ?_
                    refine g_bipush (v := 12) C dX1_spread_94 (by decide) ?_
                    refine g_callS (As := [.ref a1, .int (nI (10 * (y9 + d) + (x9 + r))), .int 12]) (rest := []) C (c_X1_put l D tys cI ht0 ((h, .inr (1, [.ref a1, .ref a2, .ref a3, .ref a4, .int (nI np), .int (nI hr), .ref a5, .ref a6, .ref a7])) :: (a1, .inl (cI, 80, .inl (g))) :: (a2, .inl (cI, 80, .inl (cover))) :: (a3, .inl (cI, 8, .inl (sun))) :: (a4, .inl (cP, 100, .inr (.inr (.inr (.inr (pcs)))))) :: (a5, .inl (cI, 80, .inl (fs))) :: (a6, .inl (cI, 80, .inl (mk))) :: (a7, .inl (cI, 80, .inl (fd))) :: (plist pa P np ++ Y)) 1 a1 80 g (nI (10 * (y9 + d) + (x9 + r))) 12 (by decide) (by decide) rfl) (va_cwS 3 C.ts gX1_spread_X1_put rfl rfl rfl (by decide +kernel) ⟨(Nat.le_of_ble_eq_true rfl), (Nat.le_of_ble_eq_true rfl)⟩) rfl rfl (Nat.le_of_ble_eq_true rfl) dX1_spread_96 (Nat.le_of_ble_eq_true rfl) (Nat.le_of_ble_eq_true rfl) (g_isV (W1 := ((h, .inr (1, [.ref a1, .ref a2, .ref a3, .ref a4, .int (nI np), .int (nI hr), .ref a5, .ref a6, .ref a7])) :: (a1, .inl (cI, 80, .inl (putv 80 g (nI (10 * (y9 + d) + (x9 + r))) 12))) :: (a2, .inl (cI, 80, .inl (cover))) :: (a3, .inl (cI, 8, .inl (sun))) :: (a4, .inl (cP, 100, .inr (.inr (.inr (.inr (pcs)))))) :: (a5, .inl (cI, 80, .inl (fs))) :: (a6, .inl (cI, 80, .inl (mk))) :: (a7, .inl (cI, 80, .inl (fd))) :: (plist pa P np ++ Y))) ?_)
                    rw [putv_nI (c := (10 * (y9 + d) + (x9 + r))) (by omega) (by omega)]
                    refine g_iinc (v := nI (q + 1)) (lv' := [(5, .int (nI (q + 1))), (8, .int (nI (10 * (y9 + d) + (x9 + r)))), (0, .ref h), (1, .int (nI x9)), (2, .int (nI y9)), (3, .int (nI w)), (4, .int (nI v)), (6, .int (nI d)), (7, .int (nI r))]) C dX1_spread_99 6 rfl (by exact nI_add _ 1) (by decide) rfl ?_
                    refine g_iinc (v := nI (r + 1)) (lv' := [(7, .int (nI (r + 1))), (5, .int (nI (q + 1))), (8, .int (nI (10 * (y9 + d) + (x9 + r)))), (0, .ref h), (1, .int (nI x9)), (2, .int (nI y9)), (3, .int (nI w)), (4, .int (nI v)), (6, .int (nI d))]) C dX1_spread_102 8 rfl (by exact nI_add _ 1) (by decide) rfl ?_
                    refine g_goto (tgt := 56) C dX1_spread_105 (by decide) ?_
                    refine g_sub [3, 4, 5, 6, 7, 1, 8, 0] (lv' := [(0, .ref h), (1, .int (nI x9)), (2, .int (nI y9)), (3, .int (nI w)), (4, .int (nI v)), (5, .int (nI (q + 1))), (6, .int (nI d)), (7, .int (nI (r + 1)))]) rfl ?_
                    exact ih2 (r + 1) _ _ (by rw [hq2]; first | exact (spr_t (wet := wet) (by omega) (by assumption)).1.symm | exact (spr_f (wet := wet) (by omega) (by assumption)).1.symm) (by rw [hg2]; first | exact (spr_t (by omega) (by assumption)).2.symm | exact (spr_f (by omega) (by assumption)).2.symm) (by omega) (by omega)
            refine g_sub [1, 2, 3, 4, 5, 6, 7, 0] (lv' := [(0, .ref h), (1, .int (nI x9)), (2, .int (nI y9)), (3, .int (nI w)), (4, .int (nI v)), (5, .int (nI q)), (6, .int (nI d)), (7, .int 0)]) rfl ?_
            exact lp56 (w + 1) 0 q g hq hgg (by omega) (by omega)
      refine g_sub [2, 3, 4, 5, 6, 1, 0] (lv' := [(0, .ref h), (1, .int (nI x9)), (2, .int (nI y9)), (3, .int (nI w)), (4, .int (nI v)), (5, .int 0), (6, .int 0)]) rfl ?_
      exact lp46 (v + 1) 0 0 wet rfl rfl (by omega) (by omega)
    · skip
      replace c_2 := gz0.mp c_2
      refine g_throwS (own := RX1) (cls := "java/lang/IllegalArgumentException") (text := "the part reaches beyond the wall") (names := tNs) (ik := 42) (is := 44) (ic := 46) C hQX hT hl9 (by decide) (by decide) k_X1_spread_1 k_X1_spread_2 (by decide +kernel) bad_IA x_X1_spread_IA ot_IA dX1_spread_30 dX1_spread_33 dX1_spread_34 dX1_spread_36 dX1_spread_39 (Nat.le_of_ble_eq_true rfl) (Nat.le_of_ble_eq_true rfl) (Nat.le_of_ble_eq_true rfl) (Nat.le_of_ble_eq_true rfl) (Nat.le_of_ble_eq_true rfl) (Nat.le_of_ble_eq_true rfl) ?_
      exact ⟨by simp [cdSp, *], by simp [cdSp, *]⟩

theorem k_X1_pass_inX1 : ∀ w ∈ wsX10, w ∈ wsX1_pass := by decide +kernel
theorem k_X1_pass_1 : Cond.fieldLink RX1 9 "WetMosaic" "wet" "[I" ∈ wsX1_pass := by decide +kernel
theorem k_X1_pass_2 : Cond.fieldLink RX1 181 "WetMosaic" "hour" "I" ∈ wsX1_pass := by decide +kernel
theorem x_X1_pass_IA : ∀ w ∈ (vx_atS RX1 46 "java/lang/IllegalArgumentException" ["java/lang/RuntimeException", "java/lang/Exception"]).filter goodWord, w ∈ wsX1_pass := by
  intro w h
  simp only [wsX1_pass, List.mem_cons, List.mem_append, h, or_true, true_or]
theorem k_X1_pass_4 : Cond.classLink RX1 42 "java/lang/IllegalArgumentException" ∈ wsX1_pass := by decide +kernel
theorem k_X1_pass_5 : Cond.initialized "java/lang/IllegalArgumentException" ∈ wsX1_pass := by decide +kernel
set_option maxHeartbeats 4000000 in
set_option maxRecDepth 100000 in
theorem c_X1_pass (l : Launch) (hl9 : l.stackTraces = false) (D : va_G) (tys : List (ClassId × FieldType)) (cI cP : ClassId) (ht0 : tys[0]? = some (cI, .int)) (ht1 : tys[1]? = some (cP, .object RX0)) (h a1 a2 a3 a4 a5 a6 a7 np hr : Nat) (wet cover sun fs mk fd : Nat → Int32) (pcs : Nat → Option Nat) (pa : Nat → Nat) (P : Nat → Pd) (Y : va_W) (hnp : np ≤ 100) (hpc : ∀ k, k < np → pcs k = some (pa k)) (hg : Pok np P) (v : Int32) (hhr : hr < 2 ^ 29) : gMx l yX1_pass wsX1_pass ({ frames := 6, cells := 1, slots := 6, locals := 100 } : Room) D tys [.ref h, .int v] ((h, .inr (1, [.ref a1, .ref a2, .ref a3, .ref a4, .int (nI np), .int (nI hr), .ref a5, .ref a6, .ref a7])) :: (a1, .inl (cI, 80, .inl (wet))) :: (a2, .inl (cI, 80, .inl (cover))) :: (a3, .inl (cI, 8, .inl (sun))) :: (a4, .inl (cP, 100, .inr (.inr (.inr (.inr (pcs)))))) :: (a5, .inl (cI, 80, .inl (fs))) :: (a6, .inl (cI, 80, .inl (mk))) :: (a7, .inl (cI, 80, .inl (fd))) :: (plist pa P np ++ Y)) (gIy (cdPa v = 0) (some (.int (nI (cnt (fun k => lsp (P k) (wetN wet cover sun hr (vn v))) np)))) ((h, .inr (1, [.ref a1, .ref a2, .ref a3, .ref a4, .int (nI np), .int (nI (hr + vn v)), .ref a5, .ref a6, .ref a7])) :: (a1, .inl (cI, 80, .inl (wetN wet cover sun hr (vn v)))) :: (a2, .inl (cI, 80, .inl (cover))) :: (a3, .inl (cI, 8, .inl (sun))) :: (a4, .inl (cP, 100, .inr (.inr (.inr (.inr (pcs)))))) :: (a5, .inl (cI, 80, .inl (fs))) :: (a6, .inl (cI, 80, .inl (mk))) :: (a7, .inl (cI, 80, .inl (fd))) :: (plist pa P np ++ Y))) (fun E => cdE (cdPa v) nmA E) 1 6 := by
  refine gMx_of2 (by decide +kernel) rfl (Nat.le_of_ble_eq_true rfl) ?_
  intro p e s m args below meth c A Q C hT hQ hQX
  refine g_sub [0, 1] (lv' := [(0, .ref h), (1, .int v)]) rfl ?_
  have hp := Pin_of (Y := Y) (P := P) hpc
  refine g_iload_n C dX1_pass_0 rfl 1 rfl ?_
  refine g_iconst (v := 1) C dX1_pass_1 (by decide) ?_
  refine g_bipush (v := 100) C dX1_pass_2 (by decide) ?_
  refine g_callS (As := [.int v, .int 1, .int 100]) (rest := []) C (c_X1_within l D tys ((h, .inr (1, [.ref a1, .ref a2, .ref a3, .ref a4, .int (nI np), .int (nI hr), .ref a5, .ref a6, .ref a7])) :: (a1, .inl (cI, 80, .inl (wet))) :: (a2, .inl (cI, 80, .inl (cover))) :: (a3, .inl (cI, 8, .inl (sun))) :: (a4, .inl (cP, 100, .inr (.inr (.inr (.inr (pcs)))))) :: (a5, .inl (cI, 80, .inl (fs))) :: (a6, .inl (cI, 80, .inl (mk))) :: (a7, .inl (cI, 80, .inl (fd))) :: (plist pa P np ++ Y)) v 1 100) (va_cwS 3 C.ts gX1_pass_X1_within rfl rfl rfl (by decide +kernel) ⟨(Nat.le_of_ble_eq_true rfl), (Nat.le_of_ble_eq_true rfl)⟩) rfl rfl (Nat.le_of_ble_eq_true rfl) dX1_pass_4 (Nat.le_of_ble_eq_true rfl) (Nat.le_of_ble_eq_true rfl) (g_is (x := .int (gz (inR 1 100 v))) (W1 := ((h, .inr (1, [.ref a1, .ref a2, .ref a3, .ref a4, .int (nI np), .int (nI hr), .ref a5, .ref a6, .ref a7])) :: (a1, .inl (cI, 80, .inl (wet))) :: (a2, .inl (cI, 80, .inl (cover))) :: (a3, .inl (cI, 8, .inl (sun))) :: (a4, .inl (cP, 100, .inr (.inr (.inr (.inr (pcs)))))) :: (a5, .inl (cI, 80, .inl (fs))) :: (a6, .inl (cI, 80, .inl (mk))) :: (a7, .inl (cI, 80, .inl (fd))) :: (plist pa P np ++ Y))) ?_)
  refine g_if_ne (tgt := 20) C dX1_pass_7 (by decide) (fun c_1 => ?_) (fun c_1 => ?_)
  · skip
    replace c_1 := gzn.mp c_1
    obtain ⟨n, hn1, hn2, rfl⟩ := inR1_of (N := 100) rfl (by decide) c_1
    have hcln : vn (nI n) = n := nI_clamp (by omega)
    refine g_iconst (v := 0) C dX1_pass_20 (by decide) ?_
    refine g_istore_n (lv' := [(2, .int 0), (0, .ref h), (1, .int (nI n))]) C dX1_pass_21 rfl (by decide) rfl ?_
    have lp22 : ∀ (n9 : Nat) (i : Nat) (hi : i ≤ n) (hn : n + 1 ≤ i + n9), G p l e ({ frames := 6, cells := 1, slots := 6, locals := 100 } : Room) s m args below meth c D A s.heap 3 0 0 Q 22 [(0, .ref h), (1, .int (nI n)), (2, .int (nI i))] [] ((h, .inr (1, [.ref a1, .ref a2, .ref a3, .ref a4, .int (nI np), .int (nI (hr + i)), .ref a5, .ref a6, .ref a7])) :: (a1, .inl (cI, 80, .inl (wetN wet cover sun hr i))) :: (a2, .inl (cI, 80, .inl (cover))) :: (a3, .inl (cI, 8, .inl (sun))) :: (a4, .inl (cP, 100, .inr (.inr (.inr (.inr (pcs)))))) :: (a5, .inl (cI, 80, .inl (fs))) :: (a6, .inl (cI, 80, .inl (mk))) :: (a7, .inl (cI, 80, .inl (fd))) :: (plist pa P np ++ Y)) := by
      intro n9
      induction n9 with
      | zero =>
        intro i hi hn
        exfalso; omega
      | succ n9 ih =>
        intro i hi hn
        refine g_iload_n C dX1_pass_22 rfl 2 rfl ?_
        refine g_iload_n C dX1_pass_23 rfl 1 rfl ?_
        refine g_icmp_ge (tgt := 55) C dX1_pass_24 (by decide) (fun c_2 => ?_) (fun c_2 => ?_)
        · skip
          rw [nI_leI (by omega) (by omega)] at c_2
          refine g_aload_n C dX1_pass_55 rfl 0 rfl ?_
          refine g_callV (ci := 1) (Cn := RX1) (As := []) (rest := []) C gm0 rfl rfl (c_X1_loosePieces l D tys cI ht0 cP ht1 ((h, .inr (1, [.ref a1, .ref a2, .ref a3, .ref a4, .int (nI np), .int (nI (hr + i)), .ref a5, .ref a6, .ref a7])) :: (a1, .inl (cI, 80, .inl (wetN wet cover sun hr i))) :: (a2, .inl (cI, 80, .inl (cover))) :: (a3, .inl (cI, 8, .inl (sun))) :: (a4, .inl (cP, 100, .inr (.inr (.inr (.inr (pcs)))))) :: (a5, .inl (cI, 80, .inl (fs))) :: (a6, .inl (cI, 80, .inl (mk))) :: (a7, .inl (cI, 80, .inl (fd))) :: (plist pa P np ++ Y)) h a1 a2 a3 a4 a5 a6 a7 np (hr + i) (wetN wet cover sun hr i) pcs pa P hnp (fun k9 hk9 => ⟨(hp k9 hk9).1, gmT (gmT (gmT (gmT (gmT (gmT (gmT (gmT (hp k9 hk9).2)))))))⟩) hg gm0 (gmT (gmT (gmT (gmT gm0)))) (gmT gm0)) (cwV 0 C.ts gX1_pass_X1_loosePieces rfl rfl rfl (by decide +kernel) ⟨(Nat.le_of_ble_eq_true rfl), (Nat.le_of_ble_eq_true rfl)⟩) rfl rfl (Nat.le_of_ble_eq_true rfl) dX1_pass_56 (Nat.le_of_ble_eq_true rfl) (Nat.le_of_ble_eq_true rfl) (g_is (x := .int (nI (cnt (fun k => lsp (P k) (wetN wet cover sun hr i)) np))) (W1 := ((h, .inr (1, [.ref a1, .ref a2, .ref a3, .ref a4, .int (nI np), .int (nI (hr + i)), .ref a5, .ref a6, .ref a7])) :: (a1, .inl (cI, 80, .inl (wetN wet cover sun hr i))) :: (a2, .inl (cI, 80, .inl (cover))) :: (a3, .inl (cI, 8, .inl (sun))) :: (a4, .inl (cP, 100, .inr (.inr (.inr (.inr (pcs)))))) :: (a5, .inl (cI, 80, .inl (fs))) :: (a6, .inl (cI, 80, .inl (mk))) :: (a7, .inl (cI, 80, .inl (fd))) :: (plist pa P np ++ Y))) ?_)
          refine g_iret C hQ (Nat.le_of_ble_eq_true rfl) (Nat.le_of_ble_eq_true rfl) dX1_pass_59 ?_
          have e : i = n := by omega
          subst e
          simp only [hcln]
          exact ⟨by simp [cdPa, *], rfl, rfl⟩
        · skip
          rw [nI_leI (by omega) (by omega)] at c_2
          refine g_aload_n C dX1_pass_27 rfl 0 rfl ?_
          refine g_aload_n C dX1_pass_28 rfl 0 rfl ?_
          refine g_get (v := .ref a1) (ci := 1) (Cn := RX1) (T := TX1) (N := 9) C k_X1_pass_inX1 gm0 rfl 0 (by decide) k_X1_pass_1 rfl rfl dX1_pass_29 ?_
          refine g_aload_n C dX1_pass_32 rfl 0 rfl ?_
          refine g_get (v := .int (nI (hr + i))) (ci := 1) (Cn := RX1) (T := TX1) (N := 9) C k_X1_pass_inX1 gm0 rfl 5 (by decide) k_X1_pass_2 rfl rfl dX1_pass_33 ?_
          refine g_callV (ci := 1) (Cn := RX1) (As := [.ref a1, .int (nI (hr + i))]) (rest := []) C gm0 rfl rfl (c_X1_dryOneHour_w l D tys cI cP ht0 h a1 a2 a3 a4 a5 a6 a7 np (hr + i) (wetN wet cover sun hr i) cover sun fs mk fd pcs (plist pa P np ++ Y) (hr + i) (by omega)) (cwV 2 C.ts gX1_pass_X1_dryOneHour rfl rfl rfl (by decide +kernel) ⟨(Nat.le_of_ble_eq_true rfl), (Nat.le_of_ble_eq_true rfl)⟩) rfl rfl (Nat.le_of_ble_eq_true rfl) dX1_pass_36 (Nat.le_of_ble_eq_true rfl) (Nat.le_of_ble_eq_true rfl) (g_isV (W1 := ((h, .inr (1, [.ref a1, .ref a2, .ref a3, .ref a4, .int (nI np), .int (nI (hr + i)), .ref a5, .ref a6, .ref a7])) :: (a1, .inl (cI, 80, .inl (wetN wet cover sun hr (i + 1)))) :: (a2, .inl (cI, 80, .inl (cover))) :: (a3, .inl (cI, 8, .inl (sun))) :: (a4, .inl (cP, 100, .inr (.inr (.inr (.inr (pcs)))))) :: (a5, .inl (cI, 80, .inl (fs))) :: (a6, .inl (cI, 80, .inl (mk))) :: (a7, .inl (cI, 80, .inl (fd))) :: (plist pa P np ++ Y))) ?_)
          refine g_aload_n C dX1_pass_39 rfl 0 rfl ?_
          refine g_dup C dX1_pass_40 rfl ?_
          refine g_get (v := .int (nI (hr + i))) (ci := 1) (Cn := RX1) (T := TX1) (N := 9) C k_X1_pass_inX1 gm0 rfl 5 (by decide) k_X1_pass_2 rfl rfl dX1_pass_41 ?_
          refine g_iconst (v := 1) C dX1_pass_44 (by decide) ?_
          refine g_iadd C dX1_pass_45 ?_
          refine g_eqi (x := (nI (hr + i)) + 1) (y := nI ((hr + i) + 1)) (nI_add _ 1) ?_
          refine g_put (ci := 1) (Cn := RX1) (T := TX1) (N := 9) (ty := .int) (ws' := ((h, .inr (1, [.ref a1, .ref a2, .ref a3, .ref a4, .int (nI np), .int (nI ((hr + i) + 1)), .ref a5, .ref a6, .ref a7])) :: (a1, .inl (cI, 80, .inl (wetN wet cover sun hr (i + 1)))) :: (a2, .inl (cI, 80, .inl (cover))) :: (a3, .inl (cI, 8, .inl (sun))) :: (a4, .inl (cP, 100, .inr (.inr (.inr (.inr (pcs)))))) :: (a5, .inl (cI, 80, .inl (fs))) :: (a6, .inl (cI, 80, .inl (mk))) :: (a7, .inl (cI, 80, .inl (fd))) :: (plist pa P np ++ Y))) C k_X1_pass_inX1 tyX1 tyX1_ok nmX1 0 rfl rfl 5 (by decide) k_X1_pass_2 rfl rfl (by decide +kernel) rfl rfl (Nat.le_of_ble_eq_true rfl) dX1_pass_46 rfl ?_
          refine g_iinc (v := nI (i + 1)) (lv' := [(2, .int (nI (i + 1))), (0, .ref h), (1, .int (nI n))]) C dX1_pass_49 2 rfl (by exact nI_add _ 1) (by decide) rfl ?_
          refine g_goto (tgt := 22) C dX1_pass_52 (by decide) ?_
          refine g_sub [1, 2, 0] (lv' := [(0, .ref h), (1, .int (nI n)), (2, .int (nI (i + 1)))]) rfl ?_
          exact ih (i + 1) (by omega) (by omega)
    refine g_sub [1, 2, 0] (lv' := [(0, .ref h), (1, .int (nI n)), (2, .int 0)]) rfl ?_
    exact lp22 (n + 1) 0 (by omega) (by omega)
  · skip
    replace c_1 := gz0.mp c_1
    refine g_throwS (own := RX1) (cls := "java/lang/IllegalArgumentException") (text := "so many hours cannot pass") (names := tNs) (ik := 42) (is := 179) (ic := 46) C hQX hT hl9 (by decide) (by decide) k_X1_pass_4 k_X1_pass_5 (by decide +kernel) bad_IA x_X1_pass_IA ot_IA dX1_pass_10 dX1_pass_13 dX1_pass_14 dX1_pass_16 dX1_pass_19 (Nat.le_of_ble_eq_true rfl) (Nat.le_of_ble_eq_true rfl) (Nat.le_of_ble_eq_true rfl) (Nat.le_of_ble_eq_true rfl) (Nat.le_of_ble_eq_true rfl) (Nat.le_of_ble_eq_true rfl) ?_
    exact ⟨by simp [cdPa, *], by simp [cdPa, *]⟩

theorem x_X1_loose_IO : ∀ w ∈ (vx_atS RX1 65 "java/lang/IndexOutOfBoundsException" ["java/lang/RuntimeException", "java/lang/Exception"]).filter goodWord, w ∈ wsX1_loose := by
  intro w h
  simp only [wsX1_loose, List.mem_cons, List.mem_append, h, or_true, true_or]
theorem k_X1_loose_1 : Cond.classLink RX1 61 "java/lang/IndexOutOfBoundsException" ∈ wsX1_loose := by decide +kernel
theorem k_X1_loose_2 : Cond.initialized "java/lang/IndexOutOfBoundsException" ∈ wsX1_loose := by decide +kernel
theorem k_X1_loose_inX1 : ∀ w ∈ wsX10, w ∈ wsX1_loose := by decide +kernel
theorem k_X1_loose_4 : Cond.fieldLink RX1 9 "WetMosaic" "wet" "[I" ∈ wsX1_loose := by decide +kernel
theorem k_X1_loose_5 : Cond.fieldLink RX1 25 "WetMosaic" "foreseen" "[I" ∈ wsX1_loose := by decide +kernel
theorem k_X1_loose_6 : Cond.methodLink RX1 191 arraycopyName ∈ wsX1_loose := by decide +kernel
theorem k_X1_loose_7 : Cond.native arraycopyName ∈ wsX1_loose := by decide +kernel
theorem k_X1_loose_8 : Cond.static arraycopyName ∈ wsX1_loose := by decide +kernel
theorem k_X1_loose_9 : Cond.initialized "java/lang/System" ∈ wsX1_loose := by decide +kernel
theorem k_X1_loose_10 : Cond.fieldLink RX1 181 "WetMosaic" "hour" "I" ∈ wsX1_loose := by decide +kernel
set_option maxHeartbeats 4000000 in
set_option maxRecDepth 100000 in
theorem c_X1_loose (l : Launch) (hl9 : l.stackTraces = false) (D : va_G) (tys : List (ClassId × FieldType)) (cI cP : ClassId) (ht0 : tys[0]? = some (cI, .int)) (ht1 : tys[1]? = some (cP, .object RX0)) (h a1 a2 a3 a4 a5 a6 a7 np hr : Nat) (wet cover sun fs mk fd : Nat → Int32) (pcs : Nat → Option Nat) (pa : Nat → Nat) (P : Nat → Pd) (Y : va_W) (hnp : np ≤ 100) (hpc : ∀ k, k < np → pcs k = some (pa k)) (hg : Pok np P) (v : Int32) (hhr : hr < 2 ^ 29) : gMx l yX1_loose wsX1_loose ({ frames := 6, cells := 1, slots := 6, locals := 100 } : Room) D tys [.ref h, .int v] ((h, .inr (1, [.ref a1, .ref a2, .ref a3, .ref a4, .int (nI np), .int (nI hr), .ref a5, .ref a6, .ref a7])) :: (a1, .inl (cI, 80, .inl (wet))) :: (a2, .inl (cI, 80, .inl (cover))) :: (a3, .inl (cI, 8, .inl (sun))) :: (a4, .inl (cP, 100, .inr (.inr (.inr (.inr (pcs)))))) :: (a5, .inl (cI, 80, .inl (fs))) :: (a6, .inl (cI, 80, .inl (mk))) :: (a7, .inl (cI, 80, .inl (fd))) :: (plist pa P np ++ Y)) (fun u w => cdLo np v = 0 ∧ u = some (.int (fstI (fun i => !lsp (P (vn v)) (wetN wet cover sun hr i)) 201 0)) ∧ ∃ fs2, w = ((h, .inr (1, [.ref a1, .ref a2, .ref a3, .ref a4, .int (nI np), .int (nI hr), .ref a5, .ref a6, .ref a7])) :: (a1, .inl (cI, 80, .inl (wet))) :: (a2, .inl (cI, 80, .inl (cover))) :: (a3, .inl (cI, 8, .inl (sun))) :: (a4, .inl (cP, 100, .inr (.inr (.inr (.inr (pcs)))))) :: (a5, .inl (cI, 80, .inl (fs2))) :: (a6, .inl (cI, 80, .inl (mk))) :: (a7, .inl (cI, 80, .inl (fd))) :: (plist pa P np ++ Y))) (fun E => cdE (cdLo np v) nmO E) 1 6 := by
  refine gMx_of2 (by decide +kernel) rfl (Nat.le_of_ble_eq_true rfl) ?_
  intro p e s m args below meth c A Q C hT hQ hQX
  refine g_sub [0, 1] (lv' := [(0, .ref h), (1, .int v)]) rfl ?_
  have hp := Pin_of (Y := Y) (P := P) hpc
  refine g_aload_n C dX1_loose_0 rfl 0 rfl ?_
  refine g_iload_n C dX1_loose_1 rfl 1 rfl ?_
  refine g_callV (ci := 1) (Cn := RX1) (As := [.int v]) (rest := []) C gm0 rfl rfl (c_X1_find l D tys cP ht1 ((h, .inr (1, [.ref a1, .ref a2, .ref a3, .ref a4, .int (nI np), .int (nI hr), .ref a5, .ref a6, .ref a7])) :: (a1, .inl (cI, 80, .inl (wet))) :: (a2, .inl (cI, 80, .inl (cover))) :: (a3, .inl (cI, 8, .inl (sun))) :: (a4, .inl (cP, 100, .inr (.inr (.inr (.inr (pcs)))))) :: (a5, .inl (cI, 80, .inl (fs))) :: (a6, .inl (cI, 80, .inl (mk))) :: (a7, .inl (cI, 80, .inl (fd))) :: (plist pa P np ++ Y)) h a1 a2 a3 a4 a5 a6 a7 np hr pcs v hnp gm0 (gmT (gmT (gmT (gmT gm0))))) (cwV 1 C.ts gX1_loose_X1_find rfl rfl rfl (by decide +kernel) ⟨(Nat.le_of_ble_eq_true rfl), (Nat.le_of_ble_eq_true rfl)⟩) rfl rfl (Nat.le_of_ble_eq_true rfl) dX1_loose_2 (Nat.le_of_ble_eq_true rfl) (Nat.le_of_ble_eq_true rfl) (g_is (x := va_rf (fnd np pcs v)) (W1 := ((h, .inr (1, [.ref a1, .ref a2, .ref a3, .ref a4, .int (nI np), .int (nI hr), .ref a5, .ref a6, .ref a7])) :: (a1, .inl (cI, 80, .inl (wet))) :: (a2, .inl (cI, 80, .inl (cover))) :: (a3, .inl (cI, 8, .inl (sun))) :: (a4, .inl (cP, 100, .inr (.inr (.inr (.inr (pcs)))))) :: (a5, .inl (cI, 80, .inl (fs))) :: (a6, .inl (cI, 80, .inl (mk))) :: (a7, .inl (cI, 80, .inl (fd))) :: (plist pa P np ++ Y))) ?_)
  cases hv : inR 0 (nI np - 1) v with
  | false =>
    refine g_eqv (x := va_rf (fnd np pcs v)) (y := .null) (by rw [fnd, if_neg (by simp [hv])]; rfl) ?_
    refine g_astore_nN (lv' := [(2, .null), (0, .ref h), (1, .int v)]) C dX1_loose_5 rfl (by decide) rfl ?_
    refine g_aload_nN C dX1_loose_6 rfl 0 rfl ?_
    refine g_ifnonnullN C dX1_loose_7 ?_
    refine g_throwS (own := RX1) (cls := "java/lang/IndexOutOfBoundsException") (text := "no such piece") (names := tNs) (ik := 61) (is := 98) (ic := 65) C hQX hT hl9 (by decide) (by decide) k_X1_loose_1 k_X1_loose_2 (by decide +kernel) bad_IO x_X1_loose_IO ot_IO dX1_loose_10 dX1_loose_13 dX1_loose_14 dX1_loose_16 dX1_loose_19 (Nat.le_of_ble_eq_true rfl) (Nat.le_of_ble_eq_true rfl) (Nat.le_of_ble_eq_true rfl) (Nat.le_of_ble_eq_true rfl) (Nat.le_of_ble_eq_true rfl) (Nat.le_of_ble_eq_true rfl) ?_
    exact ⟨by simp [cdLo, pIn, *], by simp [cdLo, pIn, *]⟩
  | true =>
    obtain ⟨k, hk, rfl⟩ := inR_np (by omega) hv
    have hclk : vn (nI k) = k := nI_clamp (by omega)
    refine g_eqv (x := va_rf (fnd np pcs (nI k))) (y := .ref (pa k)) (fnd_nI hk hnp (hp k hk).1) ?_
    refine g_astore_n (lv' := [(2, .ref (pa k)), (0, .ref h), (1, .int (nI k))]) C dX1_loose_5 rfl (by decide) rfl ?_
    refine g_aload_n C dX1_loose_6 rfl 0 rfl ?_
    refine g_ifnonnull (tgt := 20) C dX1_loose_7 (by decide) ?_
    refine g_aload_n C dX1_loose_20 rfl 1 rfl ?_
    refine g_get (v := .ref a1) (ci := 1) (Cn := RX1) (T := TX1) (N := 9) C k_X1_loose_inX1 gm0 rfl 0 (by decide) k_X1_loose_4 rfl rfl dX1_loose_21 ?_
    refine g_iconst (v := 0) C dX1_loose_24 (by decide) ?_
    refine g_aload_n C dX1_loose_25 rfl 1 rfl ?_
    refine g_get (v := .ref a5) (ci := 1) (Cn := RX1) (T := TX1) (N := 9) C k_X1_loose_inX1 gm0 rfl 6 (by decide) k_X1_loose_5 rfl rfl dX1_loose_26 ?_
    refine g_iconst (v := 0) C dX1_loose_29 (by decide) ?_
    refine g_bipush (v := 80) C dX1_loose_30 (by decide) ?_
    refine g_copy (ws' := ((h, .inr (1, [.ref a1, .ref a2, .ref a3, .ref a4, .int (nI np), .int (nI hr), .ref a5, .ref a6, .ref a7])) :: (a1, .inl (cI, 80, .inl (wet))) :: (a2, .inl (cI, 80, .inl (cover))) :: (a3, .inl (cI, 8, .inl (sun))) :: (a4, .inl (cP, 100, .inr (.inr (.inr (.inr (pcs)))))) :: (a5, .inl (cI, 80, .inl (va_cpy wet fs 0 0 80))) :: (a6, .inl (cI, 80, .inl (mk))) :: (a7, .inl (cI, 80, .inl (fd))) :: (plist pa P np ++ Y))) (N0 := 80) C 1 5 0 rfl rfl ht0 k_X1_loose_6 k_X1_loose_7 k_X1_loose_8 k_X1_loose_9 (by decide) (by decide) (by decide) (by decide) (Nat.le_of_ble_eq_true rfl) (Nat.le_of_ble_eq_true rfl) dX1_loose_32 rfl ?_
    refine g_cong (g := wet) (ws' := ((h, .inr (1, [.ref a1, .ref a2, .ref a3, .ref a4, .int (nI np), .int (nI hr), .ref a5, .ref a6, .ref a7])) :: (a1, .inl (cI, 80, .inl (wet))) :: (a2, .inl (cI, 80, .inl (cover))) :: (a3, .inl (cI, 8, .inl (sun))) :: (a4, .inl (cP, 100, .inr (.inr (.inr (.inr (pcs)))))) :: (a5, .inl (cI, 80, .inl (wet))) :: (a6, .inl (cI, 80, .inl (mk))) :: (a7, .inl (cI, 80, .inl (fd))) :: (plist pa P np ++ Y))) 5 rfl cpy80 rfl ?_
    refine g_iconst (v := 0) C dX1_loose_35 (by decide) ?_
    refine g_istore_n (lv' := [(3, .int 0), (2, .ref (pa k)), (0, .ref h), (1, .int (nI k))]) C dX1_loose_36 rfl (by decide) rfl ?_
    have lp37 : ∀ (n9 : Nat) (i : Nat) (hT : fstI (fun i => !lsp (P k) (wetN wet cover sun hr i)) (201 - i) i = fstI (fun i => !lsp (P k) (wetN wet cover sun hr i)) 201 0) (hi : i ≤ 201) (hn : 202 ≤ i + n9), G p l e ({ frames := 6, cells := 1, slots := 6, locals := 100 } : Room) s m args below meth c D A s.heap 4 0 0 Q 37 [(0, .ref h), (1, .int (nI k)), (2, .ref (pa k)), (3, .int (nI i))] [] ((h, .inr (1, [.ref a1, .ref a2, .ref a3, .ref a4, .int (nI np), .int (nI hr), .ref a5, .ref a6, .ref a7])) :: (a1, .inl (cI, 80, .inl (wet))) :: (a2, .inl (cI, 80, .inl (cover))) :: (a3, .inl (cI, 8, .inl (sun))) :: (a4, .inl (cP, 100, .inr (.inr (.inr (.inr (pcs)))))) :: (a5, .inl (cI, 80, .inl (wetN wet cover sun hr i))) :: (a6, .inl (cI, 80, .inl (mk))) :: (a7, .inl (cI, 80, .inl (fd))) :: (plist pa P np ++ Y)) := by
      intro n9
      induction n9 with
      | zero =>
        intro i hT hi hn
        exfalso; omega
      | succ n9 ih =>
        intro i hT hi hn
        refine g_iload_n C dX1_loose_37 rfl 3 rfl ?_
        refine g_sipush (v := 200) C dX1_loose_38 (by decide) ?_
        refine g_icmp_gt (tgt := 77) C dX1_loose_41 (by decide) (fun c_1 => ?_) (fun c_1 => ?_)
        · skip
          rw [show (200 : Int32) = nI 200 from rfl, nI_ltI (by omega) (by omega)] at c_1
          refine g_iconst (v := (-1)) C dX1_loose_77 (by decide) ?_
          refine g_iret C hQ (Nat.le_of_ble_eq_true rfl) (Nat.le_of_ble_eq_true rfl) dX1_loose_78 ?_
          refine ⟨by simp [cdLo, pIn, *], ?_, _, rfl⟩
          rw [hclk, ← hT, show i = 201 by omega]; rfl
        · skip
          rw [show (200 : Int32) = nI 200 from rfl, nI_ltI (by omega) (by omega)] at c_1
          refine g_aload_n C dX1_loose_44 rfl 2 rfl ?_
          refine g_aload_n C dX1_loose_45 rfl 0 rfl ?_
          refine g_get (v := .ref a5) (ci := 1) (Cn := RX1) (T := TX1) (N := 9) C k_X1_loose_inX1 gm0 rfl 6 (by decide) k_X1_loose_5 rfl rfl dX1_loose_46 ?_
          refine g_callS (As := [.ref (pa k), .ref a5]) (rest := []) C (c_X1_isLoose l D tys cI ht0 ((h, .inr (1, [.ref a1, .ref a2, .ref a3, .ref a4, .int (nI np), .int (nI hr), .ref a5, .ref a6, .ref a7])) :: (a1, .inl (cI, 80, .inl (wet))) :: (a2, .inl (cI, 80, .inl (cover))) :: (a3, .inl (cI, 8, .inl (sun))) :: (a4, .inl (cP, 100, .inr (.inr (.inr (.inr (pcs)))))) :: (a5, .inl (cI, 80, .inl (wetN wet cover sun hr i))) :: (a6, .inl (cI, 80, .inl (mk))) :: (a7, .inl (cI, 80, .inl (fd))) :: (plist pa P np ++ Y)) (pa k) (qx (P k)) (qy (P k)) (ql (P k)) (qf (P k)) (qb (P k)) (qc (P k)) (qs (P k)) (qo (P k)) a5 (wetN wet cover sun hr i) (hg _ (by assumption)).2.1 (hg _ (by assumption)).2.2.2.2 (gmT (gmT (gmT (gmT (gmT (gmT (gmT (gmT (hp k hk).2)))))))) (gmT (gmT (gmT (gmT (gmT gm0)))))) (va_cwS 2 C.ts gX1_loose_X1_isLoose rfl rfl rfl (by decide +kernel) ⟨(Nat.le_of_ble_eq_true rfl), (Nat.le_of_ble_eq_true rfl)⟩) rfl rfl (Nat.le_of_ble_eq_true rfl) dX1_loose_49 (Nat.le_of_ble_eq_true rfl) (Nat.le_of_ble_eq_true rfl) (g_is (x := .int (gz (lsp (P k) (wetN wet cover sun hr i)))) (W1 := ((h, .inr (1, [.ref a1, .ref a2, .ref a3, .ref a4, .int (nI np), .int (nI hr), .ref a5, .ref a6, .ref a7])) :: (a1, .inl (cI, 80, .inl (wet))) :: (a2, .inl (cI, 80, .inl (cover))) :: (a3, .inl (cI, 8, .inl (sun))) :: (a4, .inl (cP, 100, .inr (.inr (.inr (.inr (pcs)))))) :: (a5, .inl (cI, 80, .inl (wetN wet cover sun hr i))) :: (a6, .inl (cI, 80, .inl (mk))) :: (a7, .inl (cI, 80, .inl (fd))) :: (plist pa P np ++ Y))) ?_)
          refine g_if_ne (tgt := 57) C dX1_loose_52 (by decide) (fun c_2 => ?_) (fun c_2 => ?_)
          · skip
            replace c_2 := gzn.mp c_2
            refine g_aload_n C dX1_loose_57 rfl 0 rfl ?_
            refine g_aload_n C dX1_loose_58 rfl 0 rfl ?_
            refine g_get (v := .ref a5) (ci := 1) (Cn := RX1) (T := TX1) (N := 9) C k_X1_loose_inX1 gm0 rfl 6 (by decide) k_X1_loose_5 rfl rfl dX1_loose_59 ?_
            refine g_aload_n C dX1_loose_62 rfl 0 rfl ?_
            refine g_get (v := .int (nI hr)) (ci := 1) (Cn := RX1) (T := TX1) (N := 9) C k_X1_loose_inX1 gm0 rfl 5 (by decide) k_X1_loose_10 rfl rfl dX1_loose_63 ?_
            refine g_iload_n C dX1_loose_66 rfl 3 rfl ?_
            refine g_iadd C dX1_loose_67 ?_
            refine g_eqi (x := (nI hr) + (nI i)) (y := nI (hr + i)) (nI_add _ _) ?_
            refine g_callV (ci := 1) (Cn := RX1) (As := [.ref a5, .int (nI (hr + i))]) (rest := []) C gm0 rfl rfl (c_X1_dryOneHour_f l D tys cI cP ht0 h a1 a2 a3 a4 a5 a6 a7 np hr wet cover sun (wetN wet cover sun hr i) mk fd pcs (plist pa P np ++ Y) (hr + i) (by omega)) (cwV 2 C.ts gX1_loose_X1_dryOneHour rfl rfl rfl (by decide +kernel) ⟨(Nat.le_of_ble_eq_true rfl), (Nat.le_of_ble_eq_true rfl)⟩) rfl rfl (Nat.le_of_ble_eq_true rfl) dX1_loose_68 (Nat.le_of_ble_eq_true rfl) (Nat.le_of_ble_eq_true rfl) (g_isV (W1 := ((h, .inr (1, [.ref a1, .ref a2, .ref a3, .ref a4, .int (nI np), .int (nI hr), .ref a5, .ref a6, .ref a7])) :: (a1, .inl (cI, 80, .inl (wet))) :: (a2, .inl (cI, 80, .inl (cover))) :: (a3, .inl (cI, 8, .inl (sun))) :: (a4, .inl (cP, 100, .inr (.inr (.inr (.inr (pcs)))))) :: (a5, .inl (cI, 80, .inl (wetN wet cover sun hr (i + 1)))) :: (a6, .inl (cI, 80, .inl (mk))) :: (a7, .inl (cI, 80, .inl (fd))) :: (plist pa P np ++ Y))) ?_)
            refine g_iinc (v := nI (i + 1)) (lv' := [(3, .int (nI (i + 1))), (0, .ref h), (1, .int (nI k)), (2, .ref (pa k))]) C dX1_loose_71 3 rfl (by exact nI_add _ 1) (by decide) rfl ?_
            refine g_goto (tgt := 37) C dX1_loose_74 (by decide) ?_
            refine g_sub [1, 2, 3, 0] (lv' := [(0, .ref h), (1, .int (nI k)), (2, .ref (pa k)), (3, .int (nI (i + 1)))]) rfl ?_
            exact ih (i + 1) (by rw [← fstI_f (by omega) (by simp [*])]; exact hT) (by omega) (by omega)
          · skip
            replace c_2 := gz0.mp c_2
            refine g_iload_n C dX1_loose_55 rfl 3 rfl ?_
            refine g_iret C hQ (Nat.le_of_ble_eq_true rfl) (Nat.le_of_ble_eq_true rfl) dX1_loose_56 ?_
            refine ⟨by simp [cdLo, pIn, *], ?_, _, rfl⟩
            rw [hclk, ← hT, fstI_t (by omega) (by simp [*])]
    refine g_sub [2, 3, 1, 0] (lv' := [(0, .ref h), (1, .int (nI k)), (2, .ref (pa k)), (3, .int 0)]) rfl ?_
    exact lp37 202 0 rfl (by omega) (by omega)

theorem k_X1_dry_inX1 : ∀ w ∈ wsX10, w ∈ wsX1_dry := by decide +kernel
theorem k_X1_dry_1 : Cond.fieldLink RX1 9 "WetMosaic" "wet" "[I" ∈ wsX1_dry := by decide +kernel
theorem k_X1_dry_2 : Cond.fieldLink RX1 25 "WetMosaic" "foreseen" "[I" ∈ wsX1_dry := by decide +kernel
theorem k_X1_dry_3 : Cond.methodLink RX1 191 arraycopyName ∈ wsX1_dry := by decide +kernel
theorem k_X1_dry_4 : Cond.native arraycopyName ∈ wsX1_dry := by decide +kernel
theorem k_X1_dry_5 : Cond.static arraycopyName ∈ wsX1_dry := by decide +kernel
theorem k_X1_dry_6 : Cond.initialized "java/lang/System" ∈ wsX1_dry := by decide +kernel
theorem k_X1_dry_7 : Cond.fieldLink RX1 181 "WetMosaic" "hour" "I" ∈ wsX1_dry := by decide +kernel
set_option maxHeartbeats 4000000 in
set_option maxRecDepth 100000 in
theorem c_X1_dry (l : Launch) (D : va_G) (tys : List (ClassId × FieldType)) (cI cP : ClassId) (ht0 : tys[0]? = some (cI, .int)) (ht1 : tys[1]? = some (cP, .object RX0)) (h a1 a2 a3 a4 a5 a6 a7 np hr : Nat) (wet cover sun fs mk fd : Nat → Int32) (pcs : Nat → Option Nat) (pa : Nat → Nat) (P : Nat → Pd) (Y : va_W) (hnp : np ≤ 100) (hpc : ∀ k, k < np → pcs k = some (pa k)) (hg : Pok np P) (hhr : hr < 2 ^ 29) : gM l yX1_dry wsX1_dry ({ frames := 3, cells := 0, slots := 0, locals := 70 } : Room) D tys [.ref h] ((h, .inr (1, [.ref a1, .ref a2, .ref a3, .ref a4, .int (nI np), .int (nI hr), .ref a5, .ref a6, .ref a7])) :: (a1, .inl (cI, 80, .inl (wet))) :: (a2, .inl (cI, 80, .inl (cover))) :: (a3, .inl (cI, 8, .inl (sun))) :: (a4, .inl (cP, 100, .inr (.inr (.inr (.inr (pcs)))))) :: (a5, .inl (cI, 80, .inl (fs))) :: (a6, .inl (cI, 80, .inl (mk))) :: (a7, .inl (cI, 80, .inl (fd))) :: (plist pa P np ++ Y)) (fun u w => u = some (.int (fstI (fun i => decide (cnt (fun c => decide (1 ≤ wetN wet cover sun hr i c)) 80 = 0)) 201 0)) ∧ ∃ fs2, w = ((h, .inr (1, [.ref a1, .ref a2, .ref a3, .ref a4, .int (nI np), .int (nI hr), .ref a5, .ref a6, .ref a7])) :: (a1, .inl (cI, 80, .inl (wet))) :: (a2, .inl (cI, 80, .inl (cover))) :: (a3, .inl (cI, 8, .inl (sun))) :: (a4, .inl (cP, 100, .inr (.inr (.inr (.inr (pcs)))))) :: (a5, .inl (cI, 80, .inl (fs2))) :: (a6, .inl (cI, 80, .inl (mk))) :: (a7, .inl (cI, 80, .inl (fd))) :: (plist pa P np ++ Y))) 0 0 := by
  refine gM_of (by decide +kernel) rfl (Nat.le_of_ble_eq_true rfl) ?_
  intro p e s m args below meth c A Q hin C hQ
  refine g_sub [0] (lv' := [(0, .ref h)]) rfl ?_
  refine g_aload_n C dX1_dry_0 rfl 0 rfl ?_
  refine g_get (v := .ref a1) (ci := 1) (Cn := RX1) (T := TX1) (N := 9) C k_X1_dry_inX1 gm0 rfl 0 (by decide) k_X1_dry_1 rfl rfl dX1_dry_1 ?_
  refine g_iconst (v := 0) C dX1_dry_4 (by decide) ?_
  refine g_aload_n C dX1_dry_5 rfl 0 rfl ?_
  refine g_get (v := .ref a5) (ci := 1) (Cn := RX1) (T := TX1) (N := 9) C k_X1_dry_inX1 gm0 rfl 6 (by decide) k_X1_dry_2 rfl rfl dX1_dry_6 ?_
  refine g_iconst (v := 0) C dX1_dry_9 (by decide) ?_
  refine g_bipush (v := 80) C dX1_dry_10 (by decide) ?_
  refine g_copy (ws' := ((h, .inr (1, [.ref a1, .ref a2, .ref a3, .ref a4, .int (nI np), .int (nI hr), .ref a5, .ref a6, .ref a7])) :: (a1, .inl (cI, 80, .inl (wet))) :: (a2, .inl (cI, 80, .inl (cover))) :: (a3, .inl (cI, 8, .inl (sun))) :: (a4, .inl (cP, 100, .inr (.inr (.inr (.inr (pcs)))))) :: (a5, .inl (cI, 80, .inl (va_cpy wet fs 0 0 80))) :: (a6, .inl (cI, 80, .inl (mk))) :: (a7, .inl (cI, 80, .inl (fd))) :: (plist pa P np ++ Y))) (N0 := 80) C 1 5 0 rfl rfl ht0 k_X1_dry_3 k_X1_dry_4 k_X1_dry_5 k_X1_dry_6 (by decide) (by decide) (by decide) (by decide) (Nat.le_of_ble_eq_true rfl) (Nat.le_of_ble_eq_true rfl) dX1_dry_12 rfl ?_
  refine g_cong (g := wet) (ws' := ((h, .inr (1, [.ref a1, .ref a2, .ref a3, .ref a4, .int (nI np), .int (nI hr), .ref a5, .ref a6, .ref a7])) :: (a1, .inl (cI, 80, .inl (wet))) :: (a2, .inl (cI, 80, .inl (cover))) :: (a3, .inl (cI, 8, .inl (sun))) :: (a4, .inl (cP, 100, .inr (.inr (.inr (.inr (pcs)))))) :: (a5, .inl (cI, 80, .inl (wet))) :: (a6, .inl (cI, 80, .inl (mk))) :: (a7, .inl (cI, 80, .inl (fd))) :: (plist pa P np ++ Y))) 5 rfl cpy80 rfl ?_
  refine g_iconst (v := 0) C dX1_dry_15 (by decide) ?_
  refine g_istore_n (lv' := [(1, .int 0), (0, .ref h)]) C dX1_dry_16 rfl (by decide) rfl ?_
  have lp17 : ∀ (n9 : Nat) (i : Nat) (hT : fstI (fun i => decide (cnt (fun c => decide (1 ≤ wetN wet cover sun hr i c)) 80 = 0)) (201 - i) i = fstI (fun i => decide (cnt (fun c => decide (1 ≤ wetN wet cover sun hr i c)) 80 = 0)) 201 0) (hi : i ≤ 201) (hn : 202 ≤ i + n9), G p l e ({ frames := 3, cells := 0, slots := 0, locals := 70 } : Room) s m args below meth c D A s.heap 2 0 0 Q 17 [(0, .ref h), (1, .int (nI i))] [] ((h, .inr (1, [.ref a1, .ref a2, .ref a3, .ref a4, .int (nI np), .int (nI hr), .ref a5, .ref a6, .ref a7])) :: (a1, .inl (cI, 80, .inl (wet))) :: (a2, .inl (cI, 80, .inl (cover))) :: (a3, .inl (cI, 8, .inl (sun))) :: (a4, .inl (cP, 100, .inr (.inr (.inr (.inr (pcs)))))) :: (a5, .inl (cI, 80, .inl (wetN wet cover sun hr i))) :: (a6, .inl (cI, 80, .inl (mk))) :: (a7, .inl (cI, 80, .inl (fd))) :: (plist pa P np ++ Y)) := by
    intro n9
    induction n9 with
    | zero =>
      intro i hT hi hn
      exfalso; omega
    | succ n9 ih =>
      intro i hT hi hn
      refine g_iload_n C dX1_dry_17 rfl 1 rfl ?_
      refine g_sipush (v := 200) C dX1_dry_18 (by decide) ?_
      refine g_icmp_gt (tgt := 57) C dX1_dry_21 (by decide) (fun c_1 => ?_) (fun c_1 => ?_)
      · skip
        rw [show (200 : Int32) = nI 200 from rfl, nI_ltI (by omega) (by omega)] at c_1
        refine g_iconst (v := (-1)) C dX1_dry_57 (by decide) ?_
        refine g_iret C hQ (Nat.le_of_ble_eq_true rfl) (Nat.le_of_ble_eq_true rfl) dX1_dry_58 ?_
        refine ⟨?_, _, rfl⟩
        rw [← hT, show i = 201 by omega]; rfl
      · skip
        rw [show (200 : Int32) = nI 200 from rfl, nI_ltI (by omega) (by omega)] at c_1
        refine g_aload_n C dX1_dry_24 rfl 0 rfl ?_
        refine g_get (v := .ref a5) (ci := 1) (Cn := RX1) (T := TX1) (N := 9) C k_X1_dry_inX1 gm0 rfl 6 (by decide) k_X1_dry_2 rfl rfl dX1_dry_25 ?_
        refine g_iconst (v := 1) C dX1_dry_28 (by decide) ?_
        refine g_callS (As := [.ref a5, .int 1]) (rest := []) C (c_X1_cellsFrom l D tys cI ht0 ((h, .inr (1, [.ref a1, .ref a2, .ref a3, .ref a4, .int (nI np), .int (nI hr), .ref a5, .ref a6, .ref a7])) :: (a1, .inl (cI, 80, .inl (wet))) :: (a2, .inl (cI, 80, .inl (cover))) :: (a3, .inl (cI, 8, .inl (sun))) :: (a4, .inl (cP, 100, .inr (.inr (.inr (.inr (pcs)))))) :: (a5, .inl (cI, 80, .inl (wetN wet cover sun hr i))) :: (a6, .inl (cI, 80, .inl (mk))) :: (a7, .inl (cI, 80, .inl (fd))) :: (plist pa P np ++ Y)) a5 80 (wetN wet cover sun hr i) 1 (by decide) (gmT (gmT (gmT (gmT (gmT gm0)))))) (va_cwS 2 C.ts gX1_dry_X1_cellsFrom rfl rfl rfl (by decide +kernel) ⟨(Nat.le_of_ble_eq_true rfl), (Nat.le_of_ble_eq_true rfl)⟩) rfl rfl (Nat.le_of_ble_eq_true rfl) dX1_dry_29 (Nat.le_of_ble_eq_true rfl) (Nat.le_of_ble_eq_true rfl) (g_is (x := .int (nI (cnt (fun c => decide (1 ≤ (wetN wet cover sun hr i) c)) 80))) (W1 := ((h, .inr (1, [.ref a1, .ref a2, .ref a3, .ref a4, .int (nI np), .int (nI hr), .ref a5, .ref a6, .ref a7])) :: (a1, .inl (cI, 80, .inl (wet))) :: (a2, .inl (cI, 80, .inl (cover))) :: (a3, .inl (cI, 8, .inl (sun))) :: (a4, .inl (cP, 100, .inr (.inr (.inr (.inr (pcs)))))) :: (a5, .inl (cI, 80, .inl (wetN wet cover sun hr i))) :: (a6, .inl (cI, 80, .inl (mk))) :: (a7, .inl (cI, 80, .inl (fd))) :: (plist pa P np ++ Y))) ?_)
        have hcn := cnt_le (fun c => decide (1 ≤ (wetN wet cover sun hr i) c)) 80
        refine g_if_ne (tgt := 37) C dX1_dry_32 (by decide) (fun c_2 => ?_) (fun c_2 => ?_)
        · skip
          rw [show (0 : Int32) = nI 0 from rfl, nI_eq (by omega) (by omega)] at c_2
          refine g_aload_n C dX1_dry_37 rfl 0 rfl ?_
          refine g_aload_n C dX1_dry_38 rfl 0 rfl ?_
          refine g_get (v := .ref a5) (ci := 1) (Cn := RX1) (T := TX1) (N := 9) C k_X1_dry_inX1 gm0 rfl 6 (by decide) k_X1_dry_2 rfl rfl dX1_dry_39 ?_
          refine g_aload_n C dX1_dry_42 rfl 0 rfl ?_
          refine g_get (v := .int (nI hr)) (ci := 1) (Cn := RX1) (T := TX1) (N := 9) C k_X1_dry_inX1 gm0 rfl 5 (by decide) k_X1_dry_7 rfl rfl dX1_dry_43 ?_
          refine g_iload_n C dX1_dry_46 rfl 1 rfl ?_
          refine g_iadd C dX1_dry_47 ?_
          refine g_eqi (x := (nI hr) + (nI i)) (y := nI (hr + i)) (nI_add _ _) ?_
          refine g_callV (ci := 1) (Cn := RX1) (As := [.ref a5, .int (nI (hr + i))]) (rest := []) C gm0 rfl rfl (c_X1_dryOneHour_f l D tys cI cP ht0 h a1 a2 a3 a4 a5 a6 a7 np hr wet cover sun (wetN wet cover sun hr i) mk fd pcs (plist pa P np ++ Y) (hr + i) (by omega)) (cwV 2 C.ts gX1_dry_X1_dryOneHour rfl rfl rfl (by decide +kernel) ⟨(Nat.le_of_ble_eq_true rfl), (Nat.le_of_ble_eq_true rfl)⟩) rfl rfl (Nat.le_of_ble_eq_true rfl) dX1_dry_48 (Nat.le_of_ble_eq_true rfl) (Nat.le_of_ble_eq_true rfl) (g_isV (W1 := ((h, .inr (1, [.ref a1, .ref a2, .ref a3, .ref a4, .int (nI np), .int (nI hr), .ref a5, .ref a6, .ref a7])) :: (a1, .inl (cI, 80, .inl (wet))) :: (a2, .inl (cI, 80, .inl (cover))) :: (a3, .inl (cI, 8, .inl (sun))) :: (a4, .inl (cP, 100, .inr (.inr (.inr (.inr (pcs)))))) :: (a5, .inl (cI, 80, .inl (wetN wet cover sun hr (i + 1)))) :: (a6, .inl (cI, 80, .inl (mk))) :: (a7, .inl (cI, 80, .inl (fd))) :: (plist pa P np ++ Y))) ?_)
          refine g_iinc (v := nI (i + 1)) (lv' := [(1, .int (nI (i + 1))), (0, .ref h)]) C dX1_dry_51 1 rfl (by exact nI_add _ 1) (by decide) rfl ?_
          refine g_goto (tgt := 17) C dX1_dry_54 (by decide) ?_
          refine g_sub [1, 0] (lv' := [(0, .ref h), (1, .int (nI (i + 1)))]) rfl ?_
          exact ih (i + 1) (by rw [← fstI_f (by omega) (by simp [*])]; exact hT) (by omega) (by omega)
        · skip
          rw [show (0 : Int32) = nI 0 from rfl, nI_eq (by omega) (by omega)] at c_2
          refine g_iload_n C dX1_dry_35 rfl 1 rfl ?_
          refine g_iret C hQ (Nat.le_of_ble_eq_true rfl) (Nat.le_of_ble_eq_true rfl) dX1_dry_36 ?_
          refine ⟨?_, _, rfl⟩
          rw [← hT, fstI_t (by omega) (by simp [*])]
  refine g_sub [1, 0] (lv' := [(0, .ref h), (1, .int 0)]) rfl ?_
  exact lp17 202 0 rfl (by omega) (by omega)

theorem k_X1_share_inX1 : ∀ w ∈ wsX10, w ∈ wsX1_share := by decide +kernel
theorem k_X1_share_1 : Cond.fieldLink RX1 13 "WetMosaic" "cover" "[I" ∈ wsX1_share := by decide +kernel
theorem k_X1_share_2 : Cond.constantDouble RX1 200 4635329916471083008 ∈ wsX1_share := by decide +kernel
set_option maxHeartbeats 4000000 in
set_option maxRecDepth 100000 in
theorem c_X1_share (l : Launch) (D : va_G) (tys : List (ClassId × FieldType)) (cI cP : ClassId) (ht0 : tys[0]? = some (cI, .int)) (ht1 : tys[1]? = some (cP, .object RX0)) (h a1 a2 a3 a4 a5 a6 a7 np hr : Nat) (wet cover sun fs mk fd : Nat → Int32) (pcs : Nat → Option Nat) (pa : Nat → Nat) (P : Nat → Pd) (Y : va_W) (hnp : np ≤ 100) (hpc : ∀ k, k < np → pcs k = some (pa k)) (hg : Pok np P) : gM l yX1_share wsX1_share ({ frames := 1, cells := 0, slots := 0, locals := 23 } : Room) D tys [.ref h] ((h, .inr (1, [.ref a1, .ref a2, .ref a3, .ref a4, .int (nI np), .int (nI hr), .ref a5, .ref a6, .ref a7])) :: (a1, .inl (cI, 80, .inl (wet))) :: (a2, .inl (cI, 80, .inl (cover))) :: (a3, .inl (cI, 8, .inl (sun))) :: (a4, .inl (cP, 100, .inr (.inr (.inr (.inr (pcs)))))) :: (a5, .inl (cI, 80, .inl (fs))) :: (a6, .inl (cI, 80, .inl (mk))) :: (a7, .inl (cI, 80, .inl (fd))) :: (plist pa P np ++ Y)) (gIs (some (.double (shareD (cnt (fun c => decide (0 ≤ cover c)) 80)))) ((h, .inr (1, [.ref a1, .ref a2, .ref a3, .ref a4, .int (nI np), .int (nI hr), .ref a5, .ref a6, .ref a7])) :: (a1, .inl (cI, 80, .inl (wet))) :: (a2, .inl (cI, 80, .inl (cover))) :: (a3, .inl (cI, 8, .inl (sun))) :: (a4, .inl (cP, 100, .inr (.inr (.inr (.inr (pcs)))))) :: (a5, .inl (cI, 80, .inl (fs))) :: (a6, .inl (cI, 80, .inl (mk))) :: (a7, .inl (cI, 80, .inl (fd))) :: (plist pa P np ++ Y))) 0 0 := by
  refine gM_of (by decide +kernel) rfl (Nat.le_of_ble_eq_true rfl) ?_
  intro p e s m args below meth c A Q hin C hQ
  refine g_sub [0] (lv' := [(0, .ref h)]) rfl ?_
  refine g_aload_n C dX1_share_0 rfl 0 rfl ?_
  refine g_get (v := .ref a2) (ci := 1) (Cn := RX1) (T := TX1) (N := 9) C k_X1_share_inX1 gm0 rfl 1 (by decide) k_X1_share_1 rfl rfl dX1_share_1 ?_
  refine g_iconst (v := 0) C dX1_share_4 (by decide) ?_
  refine g_callS (As := [.ref a2, .int 0]) (rest := []) C (c_X1_cellsFrom l D tys cI ht0 ((h, .inr (1, [.ref a1, .ref a2, .ref a3, .ref a4, .int (nI np), .int (nI hr), .ref a5, .ref a6, .ref a7])) :: (a1, .inl (cI, 80, .inl (wet))) :: (a2, .inl (cI, 80, .inl (cover))) :: (a3, .inl (cI, 8, .inl (sun))) :: (a4, .inl (cP, 100, .inr (.inr (.inr (.inr (pcs)))))) :: (a5, .inl (cI, 80, .inl (fs))) :: (a6, .inl (cI, 80, .inl (mk))) :: (a7, .inl (cI, 80, .inl (fd))) :: (plist pa P np ++ Y)) a2 80 cover 0 (by decide) (gmT (gmT gm0))) (va_cwS 2 C.ts gX1_share_X1_cellsFrom rfl rfl rfl (by decide +kernel) ⟨(Nat.le_of_ble_eq_true rfl), (Nat.le_of_ble_eq_true rfl)⟩) rfl rfl (Nat.le_of_ble_eq_true rfl) dX1_share_5 (Nat.le_of_ble_eq_true rfl) (Nat.le_of_ble_eq_true rfl) (g_is (x := .int (nI (cnt (fun c => decide (0 ≤ cover c)) 80))) (W1 := ((h, .inr (1, [.ref a1, .ref a2, .ref a3, .ref a4, .int (nI np), .int (nI hr), .ref a5, .ref a6, .ref a7])) :: (a1, .inl (cI, 80, .inl (wet))) :: (a2, .inl (cI, 80, .inl (cover))) :: (a3, .inl (cI, 8, .inl (sun))) :: (a4, .inl (cP, 100, .inr (.inr (.inr (.inr (pcs)))))) :: (a5, .inl (cI, 80, .inl (fs))) :: (a6, .inl (cI, 80, .inl (mk))) :: (a7, .inl (cI, 80, .inl (fd))) :: (plist pa P np ++ Y))) ?_)
  have hcn := cnt_le (fun c => decide (0 ≤ cover c)) 80
  refine g_i2d C dX1_share_8 ?_
  refine g_ldc2d (v := 4635329916471083008) C dX1_share_9 k_X1_share_2 ?_
  refine g_ddiv C dX1_share_12 (shareOk _ (cnt_le _ _)) ?_
  refine g_dret C hQ (Nat.le_of_ble_eq_true rfl) (Nat.le_of_ble_eq_true rfl) dX1_share_13 ?_
  exact ⟨rfl, rfl⟩
