/-! the law's wall -/
theorem inwX1 : ∀ w ∈ wsX10, w ∈ wsL_wall := by decide +kernel
theorem k_wall_0 : Cond.classLink RL 9 RX1 ∈ wsL_wall := by decide +kernel
theorem k_wall_1 : Cond.instantiable RX1 9 ∈ wsL_wall := by decide +kernel
theorem k_wall_2 : Cond.initialized RX1 ∈ wsL_wall := by decide +kernel
theorem k_wall_6 : Cond.methodLink RL 11 yX1_init ∈ wsL_wall := by decide +kernel
theorem k_wall_7 : Cond.instanceMethod yX1_init ∈ wsL_wall := by decide +kernel
set_option maxHeartbeats 8000000 in
set_option maxRecDepth 100000 in
theorem c_L_wall (l : Launch) (hl9 : l.stackTraces = false) (D : va_G) (tys : List (ClassId × FieldType)) (cI cP : ClassId) (ht0 : tys[0]? = some (cI, .int)) (ht1 : tys[1]? = some (cP, .object RX0)) (b L : Nat) (xs : Nat → Int32) (hL : L ≤ 260) : gMs l yL_wall wsL_wall rmW D tys [.ref b] [] b L xs (fun u w => ∃ (h : Nat) (ad : Nat → Nat) (np hr : Nat) (wet cover sun fs mk fd : Nat → Int32) (pcs : Nat → Option Nat) (pa : Nat → Nat) (P : Nat → Pd), u = some (.ref h) ∧ w = Wm cI cP h ad np hr wet cover sun fs mk fd pcs pa P [] ∧ JV np wet cover sun P pcs pa ∧ hr ≤ 300) 400 4000 := by
  refine gMs_of (by decide +kernel) rfl (Nat.le_of_ble_eq_true rfl) ?_
  intro p e s m args below meth c A Q hin C hX hbl hbA hQ
  have X : CxW p l s m args meth c D A tys (some (.object "WetMosaic")) cI cP b L xs := ⟨hl9, C, ht0, ht1, hX, hbl, hbA, hL⟩
  refine g_sub [0] (lv' := [(0, .ref b)]) rfl ?_
  refine g_new (ci := 1) (Cn := RX1) (T := TX1) (N := 9) (fs := [.null, .null, .null, .null, .int 0, .int 0, .null, .null, .null]) C (fun w hw => inwX1 w hw) tyX1 tyX1_ok k_wall_0 k_wall_1 k_wall_2 rfl (fun j hj => by rcases (show j = 0 ∨ j = 1 ∨ j = 2 ∨ j = 3 ∨ j = 4 ∨ j = 5 ∨ j = 6 ∨ j = 7 ∨ j = 8 by omega) with rfl | rfl | rfl | rfl | rfl | rfl | rfl | rfl | rfl <;> rfl) (Nat.le_of_ble_eq_true rfl) (Nat.le_of_ble_eq_true rfl) dL_wall_0 (fun h hq0 => ?_)
  refine g_perm (ws' := ((h, .inr (1, [.null, .null, .null, .null, .int 0, .int 0, .null, .null, .null])) :: [])) (List.Perm.refl _) ?_
  refine g_dup C dL_wall_3 rfl ?_
  refine g_callI (As := []) (rest := [.ref h]) C (c_X1_init l D _ cI cP ht0 ht1 [] h) (cwI 0 C.ts gL_wall_X1_init rfl rfl rfl (C.w _ k_wall_2) (C.w _ k_wall_6) (C.w _ k_wall_7) rfl (by decide +kernel) ⟨(Nat.le_of_ble_eq_true rfl), (Nat.le_of_ble_eq_true rfl)⟩) rfl rfl (Nat.le_of_ble_eq_true rfl) dL_wall_4 (Nat.le_of_ble_eq_true rfl) (Nat.le_of_ble_eq_true rfl) (fun v w hq9 => ?_)
  refine g_more (k2 := 8) (n2 := 517) (Nat.le_of_ble_eq_true rfl) (Nat.le_of_ble_eq_true rfl) ?_
  obtain ⟨rfl, n7, n15, n23, n31, n40, n48, n56, rfl⟩ := hq9
  obtain ⟨ad, had⟩ : ∃ ad : Nat → Nat, ad = (fun i => if i = 1 then n7 else if i = 2 then n15 else if i = 3 then n23 else if i = 4 then n31 else if i = 5 then n40 else if i = 6 then n48 else n56) := ⟨_, rfl⟩
  refine g_eqw (ws' := Wm cI cP h ad 0 0 (fun _ => -1) (fun _ => -1) (fun _ => 1) (fun _ => 0) (fun _ => 0) (fun _ => 0) (fun _ => none) (fun _ => 0) (fun _ => (0, 0, 0, 0, 0, false, false, false)) []) (by subst had; rfl) ?_
  refine g_astore_n (lv' := [(1, .ref h), (0, .ref b)]) C dL_wall_7 rfl (by decide) rfl ?_
  refine g_iconst (v := 0) C dL_wall_8 (by decide) ?_
  refine g_istore_n (lv' := [(2, .int 0), (1, .ref h), (0, .ref b)]) C dL_wall_9 rfl (by decide) rfl ?_
  have lp10_1 : ∀ (n9 : Nat) (j : Nat) (sun : Nat → Int32) (J : JV 0 (fun _ => -1) (fun _ => -1) sun (fun _ => (0, 0, 0, 0, 0, false, false, false)) (fun _ => none) (fun _ => 0)) (hj : j ≤ 8) (hn9 : 9 ≤ j + n9), G p l e rmW s m args below meth c D A s.heap 5 (8 + 1 * j) (517 + 6 * j) Q 10 [(2, .int (nI j)), (1, .ref h), (0, .ref b)] [] (Wm cI cP h ad 0 0 (fun _ => -1) (fun _ => -1) sun (fun _ => 0) (fun _ => 0) (fun _ => 0) (fun _ => none) (fun _ => 0) (fun _ => (0, 0, 0, 0, 0, false, false, false)) []) := by
    intro n9
    induction n9 with
    | zero =>
      intro j sun J hj hn9
      exfalso; omega
    | succ n9 ih =>
      intro j sun J hj hn9
      refine g_iload_n C dL_wall_10 rfl 0 rfl ?_
      refine g_bipush (v := 8) C dL_wall_11 (by decide) ?_
      refine g_icmp_ge (tgt := 57) C dL_wall_13 (by decide) (fun c_2 => ?_) (fun c_2 => ?_)
      · skip
        rw [show (8 : Int32) = nI 8 from rfl, nI_leI (by omega) (by omega)] at c_2
        refine g_aload_n C dL_wall_57 rfl 1 rfl ?_
        refine g_iconst (v := 0) C dL_wall_58 (by decide) ?_
        refine g_iconst (v := 0) C dL_wall_59 (by decide) ?_
        refine g_bipush (v := 10) C dL_wall_60 (by decide) ?_
        refine g_bipush (v := 8) C dL_wall_62 (by decide) ?_
        refine v_spread (x := 0) (y := 0) (w9 := 10) (h9 := 8) X J (by omega) (by omega) (by omega) (by omega) (by omega) (by omega) rfl rfl rfl rfl dL_wall_64 (Nat.le_of_ble_eq_true rfl) (by omega) (by omega) ?_
        have J_3 := jv_spread J 0 0 10 (10 * 8)
        refine g_pop C dL_wall_67 rfl ?_
        refine g_iconst (v := 4) C dL_wall_68 (by decide) ?_
        refine g_aload_n C dL_wall_69 rfl 2 rfl ?_
        refine g_iconst (v := 2) C dL_wall_70 (by decide) ?_
        refine v_cellL (j := 2) X rfl (by omega) dL_wall_71 (Nat.le_of_ble_eq_true rfl) (by omega) (by omega) (fun u_4 => ?_)
        refine g_bipush (v := 60) C dL_wall_74 (by decide) ?_
        refine v_below (j := 60) X rfl (by omega) (by omega) dL_wall_76 (Nat.le_of_ble_eq_true rfl) (by omega) (by omega) (fun j60 hj60 => ?_)
        refine g_iadd C dL_wall_79 ?_
        refine g_eqi (x := 4 + (nI j60)) (y := nI (4 + j60)) (by exact nI_add 4 j60) ?_
        refine g_istore_n (lv' := [(2, .int (nI (4 + j60))), (1, .ref h), (0, .ref b)]) C dL_wall_80 rfl (by decide) rfl ?_
        refine g_iconst (v := 0) C dL_wall_81 (by decide) ?_
        refine g_istore_n (lv' := [(3, .int 0), (2, .int (nI (4 + j60))), (1, .ref h), (0, .ref b)]) C dL_wall_82 rfl (by decide) rfl ?_
        have lp83_5 : ∀ (n9 : Nat) (j : Nat) (np hr : Nat) (wet cover sun fs mk fd : Nat → Int32) (pcs : Nat → Option Nat) (pa : Nat → Nat) (P : Nat → Pd) (J : JV np wet cover sun P pcs pa) (hj : j ≤ 4 + j60) (hhr : hr ≤ 3 * j) (hn8 : 5 + j60 ≤ j + n9), G p l e rmW s m args below meth c D A s.heap 5 (18 + 4 * j) (577 + 20 * j) Q 83 [(3, .int (nI j)), (2, .int (nI (4 + j60))), (1, .ref h), (0, .ref b)] [] (Wm cI cP h ad np hr wet cover sun fs mk fd pcs pa P []) := by
          intro n9
          induction n9 with
          | zero =>
            intro j np hr wet cover sun fs mk fd pcs pa P J hj hhr hn8
            exfalso; omega
          | succ n9 ih2 =>
            intro j np hr wet cover sun fs mk fd pcs pa P J hj hhr hn8
            have hnp := J.1
            refine g_iload_n C dL_wall_83 rfl 0 rfl ?_
            refine g_iload_n C dL_wall_84 rfl 1 rfl ?_
            refine g_icmp_ge (tgt := 316) C dL_wall_85 (by decide) (fun c_6 => ?_) (fun c_6 => ?_)
            · skip
              rw [nI_leI (by omega) (by omega)] at c_6
              refine g_aload_n C dL_wall_316 rfl 2 rfl ?_
              refine g_aret C (Or.inr ⟨_, rfl⟩) hQ (by omega) (by omega) dL_wall_317 ?_
              exact ⟨h, ad, np, hr, wet, cover, sun, fs, mk, fd, pcs, pa, P, rfl, rfl, J, by omega⟩
            · skip
              rw [nI_leI (by omega) (by omega)] at c_6
              refine g_aload_n C dL_wall_88 rfl 3 rfl ?_
              refine g_iconst (v := 3) C dL_wall_89 (by decide) ?_
              refine g_iload_n C dL_wall_90 rfl 0 rfl ?_
              refine g_bipush (v := 11) C dL_wall_91 (by decide) ?_
              refine g_irem C dL_wall_93 (by decide) ?_
              refine g_eqi (y := nI (j % 11)) (remI j 11 (by omega) (by omega) (by omega) rfl) ?_
              refine g_iadd C dL_wall_94 ?_
              refine g_eqi (x := 3 + (nI (j % 11))) (y := nI (3 + j % 11)) (by exact nI_add 3 (j % 11)) ?_
              refine v_cellL (j := 3 + j % 11) X rfl (by omega) dL_wall_95 (Nat.le_of_ble_eq_true rfl) (by omega) (by omega) (fun u_7 => ?_)
              refine g_iload_n C dL_wall_98 rfl 0 rfl ?_
              refine g_bipush (v := 11) C dL_wall_99 (by decide) ?_
              refine g_idiv C dL_wall_101 (by decide) ?_
              refine g_eqi (y := nI (j / 11)) (divI j 11 (by omega) (by omega) (by omega) rfl) ?_
              refine g_iconst (v := 4) C dL_wall_102 (by decide) ?_
              refine g_imul C dL_wall_103 ?_
              refine g_eqi (x := (nI (j / 11)) * 4) (y := nI ((j / 11) * 4)) (by rw [show (4 : Int32) = nI 4 from rfl, pk_mul]) ?_
              refine g_ishr C dL_wall_104 ?_
              refine g_topi (fun z104 _ => ?_)
              refine g_bipush (v := 37) C dL_wall_105 (by decide) ?_
              refine g_iload_n C dL_wall_107 rfl 0 rfl ?_
              refine g_imul C dL_wall_108 ?_
              refine g_eqi (x := 37 * (nI j)) (y := nI (37 * j)) (by rw [show (37 : Int32) = nI 37 from rfl, pk_mul]) ?_
              refine g_iadd C dL_wall_109 ?_
              refine g_topi (fun x9 _ => ?_)
              refine g_istore (lv' := [(4, .int x9), (3, .int (nI j)), (2, .int (nI (4 + j60))), (1, .ref h), (0, .ref b)]) C dL_wall_110 (by decide) rfl ?_
              refine g_iload C dL_wall_112 0 rfl ?_
              refine g_bipush (v := 9) C dL_wall_114 (by decide) ?_
              refine g_ishr C dL_wall_116 ?_
              refine g_topi (fun z_8 _ => ?_)
              refine g_bipush (v := 12) C dL_wall_117 (by decide) ?_
              refine v_below (j := 12) X rfl (by omega) (by omega) dL_wall_119 (Nat.le_of_ble_eq_true rfl) (by omega) (by omega) (fun isw hisw => ?_)
              rcases (show isw = 0 ∨ isw = 1 ∨ isw = 2 ∨ isw = 3 ∨ isw = 4 ∨ 5 ≤ isw by omega) with rfl | rfl | rfl | rfl | rfl | h18
              · refine g_tableIn (off := 34) (tgt := 156) C dL_wall_122 (by decide) (by decide) (by decide) (by decide) ?_
                refine g_aload_n C dL_wall_156 rfl 3 rfl ?_
                refine g_iload C dL_wall_157 0 rfl ?_
                refine g_bipush (v := 8) C dL_wall_159 (by decide) ?_
                refine v_below (j := 8) X rfl (by omega) (by omega) dL_wall_161 (Nat.le_of_ble_eq_true rfl) (by omega) (by omega) (fun i_9 hi_9 => ?_)
                refine g_iload C dL_wall_164 0 rfl ?_
                refine g_iconst (v := 3) C dL_wall_166 (by decide) ?_
                refine g_ishr C dL_wall_167 ?_
                refine g_topi (fun z_10 _ => ?_)
                refine g_bipush (v := 6) C dL_wall_168 (by decide) ?_
                refine v_below (j := 6) X rfl (by omega) (by omega) dL_wall_170 (Nat.le_of_ble_eq_true rfl) (by omega) (by omega) (fun i_11 hi_11 => ?_)
                refine g_iconst (v := 2) C dL_wall_173 (by decide) ?_
                refine g_iconst (v := 2) C dL_wall_174 (by decide) ?_
                refine v_spread (x := i_9) (y := i_11) (w9 := 2) (h9 := 2) X J (by omega) (by omega) (by omega) (by omega) (by omega) (by omega) rfl rfl rfl rfl dL_wall_175 (Nat.le_of_ble_eq_true rfl) (by omega) (by omega) ?_
                have J_12 := jv_spread J i_9 i_11 2 (2 * 2)
                refine g_pop C dL_wall_178 rfl ?_
                refine g_goto (tgt := 310) C dL_wall_179 (by decide) ?_
                refine g_iinc (v := nI (j + 1)) (lv' := [(3, .int (nI (j + 1))), (4, .int x9), (2, .int (nI (4 + j60))), (1, .ref h), (0, .ref b)]) C dL_wall_310 1 rfl (by exact nI_add _ 1) (by decide) rfl ?_
                refine g_goto (tgt := 83) C dL_wall_313 (by decide) ?_
                refine g_sub [0, 2, 3, 4] (lv' := [(3, .int (nI (j + 1))), (2, .int (nI (4 + j60))), (1, .ref h), (0, .ref b)]) rfl ?_
                refine g_more (k2 := 18 + 4 * (j + 1)) (n2 := 577 + 20 * (j + 1)) (by omega) (by omega) ?_
                exact ih2 (j + 1) _ _ _ _ _ _ _ _ _ _ _ J_12 (by omega) (by omega) (by omega)
              · refine g_tableIn (off := 60) (tgt := 182) C dL_wall_122 (by decide) (by decide) (by decide) (by decide) ?_
                refine g_iload C dL_wall_182 0 rfl ?_
                refine g_iconst (v := 4) C dL_wall_184 (by decide) ?_
                refine v_below (j := 4) X rfl (by omega) (by omega) dL_wall_185 (Nat.le_of_ble_eq_true rfl) (by omega) (by omega) (fun i_13 hi_13 => ?_)
                refine g_if_ne (tgt := 310) C dL_wall_188 (by decide) (fun c_14 => ?_) (fun c_14 => ?_)
                · skip
                  rw [show (0 : Int32) = nI 0 from rfl, nI_eq (by omega) (by omega)] at c_14
                  refine g_iinc (v := nI (j + 1)) (lv' := [(3, .int (nI (j + 1))), (4, .int x9), (2, .int (nI (4 + j60))), (1, .ref h), (0, .ref b)]) C dL_wall_310 1 rfl (by exact nI_add _ 1) (by decide) rfl ?_
                  refine g_goto (tgt := 83) C dL_wall_313 (by decide) ?_
                  refine g_sub [0, 2, 3, 4] (lv' := [(3, .int (nI (j + 1))), (2, .int (nI (4 + j60))), (1, .ref h), (0, .ref b)]) rfl ?_
                  refine g_more (k2 := 18 + 4 * (j + 1)) (n2 := 577 + 20 * (j + 1)) (by omega) (by omega) ?_
                  exact ih2 (j + 1) _ _ _ _ _ _ _ _ _ _ _ J (by omega) (by omega) (by omega)
                · skip
                  rw [show (0 : Int32) = nI 0 from rfl, nI_eq (by omega) (by omega)] at c_14
                  refine g_aload_n C dL_wall_191 rfl 3 rfl ?_
                  refine g_iconst (v := 1) C dL_wall_192 (by decide) ?_
                  refine g_iload C dL_wall_193 0 rfl ?_
                  refine g_iconst (v := 2) C dL_wall_195 (by decide) ?_
                  refine g_ishr C dL_wall_196 ?_
                  refine g_topi (fun z_15 _ => ?_)
                  refine g_iconst (v := 3) C dL_wall_197 (by decide) ?_
                  refine v_below (j := 3) X rfl (by omega) (by omega) dL_wall_198 (Nat.le_of_ble_eq_true rfl) (by omega) (by omega) (fun i_16 hi_16 => ?_)
                  refine g_iadd C dL_wall_201 ?_
                  refine g_eqi (x := 1 + (nI i_16)) (y := nI (1 + i_16)) (by exact nI_add 1 i_16) ?_
                  refine v_pass (v := 1 + i_16) X J (by omega) (by omega) (by omega) dL_wall_202 (Nat.le_of_ble_eq_true rfl) (by omega) (by omega) ?_
                  have Jp_17 := jv_pass J hr (1 + i_16)
                  refine g_pop C dL_wall_205 rfl ?_
                  refine g_goto (tgt := 310) C dL_wall_206 (by decide) ?_
                  refine g_iinc (v := nI (j + 1)) (lv' := [(3, .int (nI (j + 1))), (4, .int x9), (2, .int (nI (4 + j60))), (1, .ref h), (0, .ref b)]) C dL_wall_310 1 rfl (by exact nI_add _ 1) (by decide) rfl ?_
                  refine g_goto (tgt := 83) C dL_wall_313 (by decide) ?_
                  refine g_sub [0, 2, 3, 4] (lv' := [(3, .int (nI (j + 1))), (2, .int (nI (4 + j60))), (1, .ref h), (0, .ref b)]) rfl ?_
                  refine g_more (k2 := 18 + 4 * (j + 1)) (n2 := 577 + 20 * (j + 1)) (by omega) (by omega) ?_
                  exact ih2 (j + 1) _ _ _ _ _ _ _ _ _ _ _ Jp_17 (by omega) (by omega) (by omega)
              · refine g_tableIn (off := 87) (tgt := 209) C dL_wall_122 (by decide) (by decide) (by decide) (by decide) ?_
                refine g_aload_n C dL_wall_209 rfl 3 rfl ?_
                refine g_iconst (v := 1) C dL_wall_210 (by decide) ?_
                refine v_count (w := 1) X J (by omega) rfl dL_wall_211 (Nat.le_of_ble_eq_true rfl) (by omega) (by omega) ?_
                refine g_eqi (y := nI np) rfl ?_
                refine g_if_le (tgt := 310) C dL_wall_214 (by decide) (fun c_18 => ?_) (fun c_18 => ?_)
                · skip
                  rw [show (0 : Int32) = nI 0 from rfl, nI_leI (by omega) (by omega)] at c_18
                  refine g_iinc (v := nI (j + 1)) (lv' := [(3, .int (nI (j + 1))), (4, .int x9), (2, .int (nI (4 + j60))), (1, .ref h), (0, .ref b)]) C dL_wall_310 1 rfl (by exact nI_add _ 1) (by decide) rfl ?_
                  refine g_goto (tgt := 83) C dL_wall_313 (by decide) ?_
                  refine g_sub [0, 2, 3, 4] (lv' := [(3, .int (nI (j + 1))), (2, .int (nI (4 + j60))), (1, .ref h), (0, .ref b)]) rfl ?_
                  refine g_more (k2 := 18 + 4 * (j + 1)) (n2 := 577 + 20 * (j + 1)) (by omega) (by omega) ?_
                  exact ih2 (j + 1) _ _ _ _ _ _ _ _ _ _ _ J (by omega) (by omega) (by omega)
                · skip
                  rw [show (0 : Int32) = nI 0 from rfl, nI_leI (by omega) (by omega)] at c_18
                  refine g_aload_n C dL_wall_217 rfl 3 rfl ?_
                  refine g_iload C dL_wall_218 0 rfl ?_
                  refine g_aload_n C dL_wall_220 rfl 3 rfl ?_
                  refine g_iconst (v := 1) C dL_wall_221 (by decide) ?_
                  refine v_count (w := 1) X J (by omega) rfl dL_wall_222 (Nat.le_of_ble_eq_true rfl) (by omega) (by omega) ?_
                  refine g_eqi (y := nI np) rfl ?_
                  refine v_below (j := np) X rfl (by omega) (by omega) dL_wall_225 (Nat.le_of_ble_eq_true rfl) (by omega) (by omega) (fun jv hjv => ?_)
                  refine g_iload C dL_wall_228 0 rfl ?_
                  refine g_iconst (v := 4) C dL_wall_230 (by decide) ?_
                  refine g_ishr C dL_wall_231 ?_
                  refine g_topi (fun z_19 _ => ?_)
                  refine g_iconst (v := 4) C dL_wall_232 (by decide) ?_
                  refine v_below (j := 4) X rfl (by omega) (by omega) dL_wall_233 (Nat.le_of_ble_eq_true rfl) (by omega) (by omega) (fun ja hja => ?_)
                  refine v_act (v := jv) (a9 := ja) X J (by omega) (by omega) rfl dL_wall_236 (Nat.le_of_ble_eq_true rfl) (by omega) (by omega) ?_ ?_ ?_ ?_
                  · intro h1 hcd
                    obtain ⟨-, J2⟩ := jv_flip J (by omega) hcd
                    refine g_eqw (ws' := (Wm cI cP h ad np hr (decL wet (pcl (P jv)) (ql (P jv))) cover sun fs mk fd pcs pa (pup P jv (flp (P jv))) [])) rfl ?_
                    refine g_pop C dL_wall_239 rfl ?_
                    refine g_goto (tgt := 310) C dL_wall_240 (by decide) ?_
                    refine g_iinc (v := nI (j + 1)) (lv' := [(3, .int (nI (j + 1))), (4, .int x9), (2, .int (nI (4 + j60))), (1, .ref h), (0, .ref b)]) C dL_wall_310 1 rfl (by exact nI_add _ 1) (by decide) rfl ?_
                    refine g_goto (tgt := 83) C dL_wall_313 (by decide) ?_
                    refine g_sub [0, 2, 3, 4] (lv' := [(3, .int (nI (j + 1))), (2, .int (nI (4 + j60))), (1, .ref h), (0, .ref b)]) rfl ?_
                    refine g_more (k2 := 18 + 4 * (j + 1)) (n2 := 577 + 20 * (j + 1)) (by omega) (by omega) ?_
                    exact ih2 (j + 1) _ _ _ _ _ _ _ _ _ _ _ J2 (by omega) (by omega) (by omega)
                  · intro h1 hcd
                    obtain ⟨⟨-, J2⟩, -⟩ := jv_turn J (by omega) hcd
                    refine g_eqw (ws' := (Wm cI cP h ad np hr wet (setL (setL cover (pcl (P jv)) (-1) (ql (P jv))) (pcl (trn (P jv))) (nI jv) (ql (P jv))) sun fs mk fd pcs pa (pup P jv (trn (P jv))) [])) rfl ?_
                    refine g_pop C dL_wall_239 rfl ?_
                    refine g_goto (tgt := 310) C dL_wall_240 (by decide) ?_
                    refine g_iinc (v := nI (j + 1)) (lv' := [(3, .int (nI (j + 1))), (4, .int x9), (2, .int (nI (4 + j60))), (1, .ref h), (0, .ref b)]) C dL_wall_310 1 rfl (by exact nI_add _ 1) (by decide) rfl ?_
                    refine g_goto (tgt := 83) C dL_wall_313 (by decide) ?_
                    refine g_sub [0, 2, 3, 4] (lv' := [(3, .int (nI (j + 1))), (2, .int (nI (4 + j60))), (1, .ref h), (0, .ref b)]) rfl ?_
                    refine g_more (k2 := 18 + 4 * (j + 1)) (n2 := 577 + 20 * (j + 1)) (by omega) (by omega) ?_
                    exact ih2 (j + 1) _ _ _ _ _ _ _ _ _ _ _ J2 (by omega) (by omega) (by omega)
                  · intro h1 hcd
                    obtain ⟨-, J2⟩ := jv_take J (by omega) hcd
                    refine g_eqw (ws' := (Wm cI cP h ad np hr (if lsp (P jv) wet = true then wet else setL wet (pcl (P jv)) (-1) (ql (P jv))) (setL cover (pcl (P jv)) (-1) (ql (P jv))) sun fs mk fd pcs pa (pup P jv (tko (P jv))) [])) rfl ?_
                    refine g_pop C dL_wall_239 rfl ?_
                    refine g_goto (tgt := 310) C dL_wall_240 (by decide) ?_
                    refine g_iinc (v := nI (j + 1)) (lv' := [(3, .int (nI (j + 1))), (4, .int x9), (2, .int (nI (4 + j60))), (1, .ref h), (0, .ref b)]) C dL_wall_310 1 rfl (by exact nI_add _ 1) (by decide) rfl ?_
                    refine g_goto (tgt := 83) C dL_wall_313 (by decide) ?_
                    refine g_sub [0, 2, 3, 4] (lv' := [(3, .int (nI (j + 1))), (2, .int (nI (4 + j60))), (1, .ref h), (0, .ref b)]) rfl ?_
                    refine g_more (k2 := 18 + 4 * (j + 1)) (n2 := 577 + 20 * (j + 1)) (by omega) (by omega) ?_
                    exact ih2 (j + 1) _ _ _ _ _ _ _ _ _ _ _ J2 (by omega) (by omega) (by omega)
                  · intro f1 f2 f3
                    refine g_pop C dL_wall_239 rfl ?_
                    refine g_goto (tgt := 310) C dL_wall_240 (by decide) ?_
                    refine g_iinc (v := nI (j + 1)) (lv' := [(3, .int (nI (j + 1))), (4, .int x9), (2, .int (nI (4 + j60))), (1, .ref h), (0, .ref b)]) C dL_wall_310 1 rfl (by exact nI_add _ 1) (by decide) rfl ?_
                    refine g_goto (tgt := 83) C dL_wall_313 (by decide) ?_
                    refine g_sub [0, 2, 3, 4] (lv' := [(3, .int (nI (j + 1))), (2, .int (nI (4 + j60))), (1, .ref h), (0, .ref b)]) rfl ?_
                    refine g_more (k2 := 18 + 4 * (j + 1)) (n2 := 577 + 20 * (j + 1)) (by omega) (by omega) ?_
                    exact ih2 (j + 1) _ _ _ _ _ _ _ _ _ _ _ J (by omega) (by omega) (by omega)
              · refine g_tableIn (off := 87) (tgt := 209) C dL_wall_122 (by decide) (by decide) (by decide) (by decide) ?_
                refine g_aload_n C dL_wall_209 rfl 3 rfl ?_
                refine g_iconst (v := 1) C dL_wall_210 (by decide) ?_
                refine v_count (w := 1) X J (by omega) rfl dL_wall_211 (Nat.le_of_ble_eq_true rfl) (by omega) (by omega) ?_
                refine g_eqi (y := nI np) rfl ?_
                refine g_if_le (tgt := 310) C dL_wall_214 (by decide) (fun c_20 => ?_) (fun c_20 => ?_)
                · skip
                  rw [show (0 : Int32) = nI 0 from rfl, nI_leI (by omega) (by omega)] at c_20
                  refine g_iinc (v := nI (j + 1)) (lv' := [(3, .int (nI (j + 1))), (4, .int x9), (2, .int (nI (4 + j60))), (1, .ref h), (0, .ref b)]) C dL_wall_310 1 rfl (by exact nI_add _ 1) (by decide) rfl ?_
                  refine g_goto (tgt := 83) C dL_wall_313 (by decide) ?_
                  refine g_sub [0, 2, 3, 4] (lv' := [(3, .int (nI (j + 1))), (2, .int (nI (4 + j60))), (1, .ref h), (0, .ref b)]) rfl ?_
                  refine g_more (k2 := 18 + 4 * (j + 1)) (n2 := 577 + 20 * (j + 1)) (by omega) (by omega) ?_
                  exact ih2 (j + 1) _ _ _ _ _ _ _ _ _ _ _ J (by omega) (by omega) (by omega)
                · skip
                  rw [show (0 : Int32) = nI 0 from rfl, nI_leI (by omega) (by omega)] at c_20
                  refine g_aload_n C dL_wall_217 rfl 3 rfl ?_
                  refine g_iload C dL_wall_218 0 rfl ?_
                  refine g_aload_n C dL_wall_220 rfl 3 rfl ?_
                  refine g_iconst (v := 1) C dL_wall_221 (by decide) ?_
                  refine v_count (w := 1) X J (by omega) rfl dL_wall_222 (Nat.le_of_ble_eq_true rfl) (by omega) (by omega) ?_
                  refine g_eqi (y := nI np) rfl ?_
                  refine v_below (j := np) X rfl (by omega) (by omega) dL_wall_225 (Nat.le_of_ble_eq_true rfl) (by omega) (by omega) (fun jv hjv => ?_)
                  refine g_iload C dL_wall_228 0 rfl ?_
                  refine g_iconst (v := 4) C dL_wall_230 (by decide) ?_
                  refine g_ishr C dL_wall_231 ?_
                  refine g_topi (fun z_21 _ => ?_)
                  refine g_iconst (v := 4) C dL_wall_232 (by decide) ?_
                  refine v_below (j := 4) X rfl (by omega) (by omega) dL_wall_233 (Nat.le_of_ble_eq_true rfl) (by omega) (by omega) (fun ja hja => ?_)
                  refine v_act (v := jv) (a9 := ja) X J (by omega) (by omega) rfl dL_wall_236 (Nat.le_of_ble_eq_true rfl) (by omega) (by omega) ?_ ?_ ?_ ?_
                  · intro h1 hcd
                    obtain ⟨-, J2⟩ := jv_flip J (by omega) hcd
                    refine g_eqw (ws' := (Wm cI cP h ad np hr (decL wet (pcl (P jv)) (ql (P jv))) cover sun fs mk fd pcs pa (pup P jv (flp (P jv))) [])) rfl ?_
                    refine g_pop C dL_wall_239 rfl ?_
                    refine g_goto (tgt := 310) C dL_wall_240 (by decide) ?_
                    refine g_iinc (v := nI (j + 1)) (lv' := [(3, .int (nI (j + 1))), (4, .int x9), (2, .int (nI (4 + j60))), (1, .ref h), (0, .ref b)]) C dL_wall_310 1 rfl (by exact nI_add _ 1) (by decide) rfl ?_
                    refine g_goto (tgt := 83) C dL_wall_313 (by decide) ?_
                    refine g_sub [0, 2, 3, 4] (lv' := [(3, .int (nI (j + 1))), (2, .int (nI (4 + j60))), (1, .ref h), (0, .ref b)]) rfl ?_
                    refine g_more (k2 := 18 + 4 * (j + 1)) (n2 := 577 + 20 * (j + 1)) (by omega) (by omega) ?_
                    exact ih2 (j + 1) _ _ _ _ _ _ _ _ _ _ _ J2 (by omega) (by omega) (by omega)
                  · intro h1 hcd
                    obtain ⟨⟨-, J2⟩, -⟩ := jv_turn J (by omega) hcd
                    refine g_eqw (ws' := (Wm cI cP h ad np hr wet (setL (setL cover (pcl (P jv)) (-1) (ql (P jv))) (pcl (trn (P jv))) (nI jv) (ql (P jv))) sun fs mk fd pcs pa (pup P jv (trn (P jv))) [])) rfl ?_
                    refine g_pop C dL_wall_239 rfl ?_
                    refine g_goto (tgt := 310) C dL_wall_240 (by decide) ?_
                    refine g_iinc (v := nI (j + 1)) (lv' := [(3, .int (nI (j + 1))), (4, .int x9), (2, .int (nI (4 + j60))), (1, .ref h), (0, .ref b)]) C dL_wall_310 1 rfl (by exact nI_add _ 1) (by decide) rfl ?_
                    refine g_goto (tgt := 83) C dL_wall_313 (by decide) ?_
                    refine g_sub [0, 2, 3, 4] (lv' := [(3, .int (nI (j + 1))), (2, .int (nI (4 + j60))), (1, .ref h), (0, .ref b)]) rfl ?_
                    refine g_more (k2 := 18 + 4 * (j + 1)) (n2 := 577 + 20 * (j + 1)) (by omega) (by omega) ?_
                    exact ih2 (j + 1) _ _ _ _ _ _ _ _ _ _ _ J2 (by omega) (by omega) (by omega)
                  · intro h1 hcd
                    obtain ⟨-, J2⟩ := jv_take J (by omega) hcd
                    refine g_eqw (ws' := (Wm cI cP h ad np hr (if lsp (P jv) wet = true then wet else setL wet (pcl (P jv)) (-1) (ql (P jv))) (setL cover (pcl (P jv)) (-1) (ql (P jv))) sun fs mk fd pcs pa (pup P jv (tko (P jv))) [])) rfl ?_
                    refine g_pop C dL_wall_239 rfl ?_
                    refine g_goto (tgt := 310) C dL_wall_240 (by decide) ?_
                    refine g_iinc (v := nI (j + 1)) (lv' := [(3, .int (nI (j + 1))), (4, .int x9), (2, .int (nI (4 + j60))), (1, .ref h), (0, .ref b)]) C dL_wall_310 1 rfl (by exact nI_add _ 1) (by decide) rfl ?_
                    refine g_goto (tgt := 83) C dL_wall_313 (by decide) ?_
                    refine g_sub [0, 2, 3, 4] (lv' := [(3, .int (nI (j + 1))), (2, .int (nI (4 + j60))), (1, .ref h), (0, .ref b)]) rfl ?_
                    refine g_more (k2 := 18 + 4 * (j + 1)) (n2 := 577 + 20 * (j + 1)) (by omega) (by omega) ?_
                    exact ih2 (j + 1) _ _ _ _ _ _ _ _ _ _ _ J2 (by omega) (by omega) (by omega)
                  · intro f1 f2 f3
                    refine g_pop C dL_wall_239 rfl ?_
                    refine g_goto (tgt := 310) C dL_wall_240 (by decide) ?_
                    refine g_iinc (v := nI (j + 1)) (lv' := [(3, .int (nI (j + 1))), (4, .int x9), (2, .int (nI (4 + j60))), (1, .ref h), (0, .ref b)]) C dL_wall_310 1 rfl (by exact nI_add _ 1) (by decide) rfl ?_
                    refine g_goto (tgt := 83) C dL_wall_313 (by decide) ?_
                    refine g_sub [0, 2, 3, 4] (lv' := [(3, .int (nI (j + 1))), (2, .int (nI (4 + j60))), (1, .ref h), (0, .ref b)]) rfl ?_
                    refine g_more (k2 := 18 + 4 * (j + 1)) (n2 := 577 + 20 * (j + 1)) (by omega) (by omega) ?_
                    exact ih2 (j + 1) _ _ _ _ _ _ _ _ _ _ _ J (by omega) (by omega) (by omega)
              · refine g_tableIn (off := 87) (tgt := 209) C dL_wall_122 (by decide) (by decide) (by decide) (by decide) ?_
                refine g_aload_n C dL_wall_209 rfl 3 rfl ?_
                refine g_iconst (v := 1) C dL_wall_210 (by decide) ?_
                refine v_count (w := 1) X J (by omega) rfl dL_wall_211 (Nat.le_of_ble_eq_true rfl) (by omega) (by omega) ?_
                refine g_eqi (y := nI np) rfl ?_
                refine g_if_le (tgt := 310) C dL_wall_214 (by decide) (fun c_22 => ?_) (fun c_22 => ?_)
                · skip
                  rw [show (0 : Int32) = nI 0 from rfl, nI_leI (by omega) (by omega)] at c_22
                  refine g_iinc (v := nI (j + 1)) (lv' := [(3, .int (nI (j + 1))), (4, .int x9), (2, .int (nI (4 + j60))), (1, .ref h), (0, .ref b)]) C dL_wall_310 1 rfl (by exact nI_add _ 1) (by decide) rfl ?_
                  refine g_goto (tgt := 83) C dL_wall_313 (by decide) ?_
                  refine g_sub [0, 2, 3, 4] (lv' := [(3, .int (nI (j + 1))), (2, .int (nI (4 + j60))), (1, .ref h), (0, .ref b)]) rfl ?_
                  refine g_more (k2 := 18 + 4 * (j + 1)) (n2 := 577 + 20 * (j + 1)) (by omega) (by omega) ?_
                  exact ih2 (j + 1) _ _ _ _ _ _ _ _ _ _ _ J (by omega) (by omega) (by omega)
                · skip
                  rw [show (0 : Int32) = nI 0 from rfl, nI_leI (by omega) (by omega)] at c_22
                  refine g_aload_n C dL_wall_217 rfl 3 rfl ?_
                  refine g_iload C dL_wall_218 0 rfl ?_
                  refine g_aload_n C dL_wall_220 rfl 3 rfl ?_
                  refine g_iconst (v := 1) C dL_wall_221 (by decide) ?_
                  refine v_count (w := 1) X J (by omega) rfl dL_wall_222 (Nat.le_of_ble_eq_true rfl) (by omega) (by omega) ?_
                  refine g_eqi (y := nI np) rfl ?_
                  refine v_below (j := np) X rfl (by omega) (by omega) dL_wall_225 (Nat.le_of_ble_eq_true rfl) (by omega) (by omega) (fun jv hjv => ?_)
                  refine g_iload C dL_wall_228 0 rfl ?_
                  refine g_iconst (v := 4) C dL_wall_230 (by decide) ?_
                  refine g_ishr C dL_wall_231 ?_
                  refine g_topi (fun z_23 _ => ?_)
                  refine g_iconst (v := 4) C dL_wall_232 (by decide) ?_
                  refine v_below (j := 4) X rfl (by omega) (by omega) dL_wall_233 (Nat.le_of_ble_eq_true rfl) (by omega) (by omega) (fun ja hja => ?_)
                  refine v_act (v := jv) (a9 := ja) X J (by omega) (by omega) rfl dL_wall_236 (Nat.le_of_ble_eq_true rfl) (by omega) (by omega) ?_ ?_ ?_ ?_
                  · intro h1 hcd
                    obtain ⟨-, J2⟩ := jv_flip J (by omega) hcd
                    refine g_eqw (ws' := (Wm cI cP h ad np hr (decL wet (pcl (P jv)) (ql (P jv))) cover sun fs mk fd pcs pa (pup P jv (flp (P jv))) [])) rfl ?_
                    refine g_pop C dL_wall_239 rfl ?_
                    refine g_goto (tgt := 310) C dL_wall_240 (by decide) ?_
                    refine g_iinc (v := nI (j + 1)) (lv' := [(3, .int (nI (j + 1))), (4, .int x9), (2, .int (nI (4 + j60))), (1, .ref h), (0, .ref b)]) C dL_wall_310 1 rfl (by exact nI_add _ 1) (by decide) rfl ?_
                    refine g_goto (tgt := 83) C dL_wall_313 (by decide) ?_
                    refine g_sub [0, 2, 3, 4] (lv' := [(3, .int (nI (j + 1))), (2, .int (nI (4 + j60))), (1, .ref h), (0, .ref b)]) rfl ?_
                    refine g_more (k2 := 18 + 4 * (j + 1)) (n2 := 577 + 20 * (j + 1)) (by omega) (by omega) ?_
                    exact ih2 (j + 1) _ _ _ _ _ _ _ _ _ _ _ J2 (by omega) (by omega) (by omega)
                  · intro h1 hcd
                    obtain ⟨⟨-, J2⟩, -⟩ := jv_turn J (by omega) hcd
                    refine g_eqw (ws' := (Wm cI cP h ad np hr wet (setL (setL cover (pcl (P jv)) (-1) (ql (P jv))) (pcl (trn (P jv))) (nI jv) (ql (P jv))) sun fs mk fd pcs pa (pup P jv (trn (P jv))) [])) rfl ?_
                    refine g_pop C dL_wall_239 rfl ?_
                    refine g_goto (tgt := 310) C dL_wall_240 (by decide) ?_
                    refine g_iinc (v := nI (j + 1)) (lv' := [(3, .int (nI (j + 1))), (4, .int x9), (2, .int (nI (4 + j60))), (1, .ref h), (0, .ref b)]) C dL_wall_310 1 rfl (by exact nI_add _ 1) (by decide) rfl ?_
                    refine g_goto (tgt := 83) C dL_wall_313 (by decide) ?_
                    refine g_sub [0, 2, 3, 4] (lv' := [(3, .int (nI (j + 1))), (2, .int (nI (4 + j60))), (1, .ref h), (0, .ref b)]) rfl ?_
                    refine g_more (k2 := 18 + 4 * (j + 1)) (n2 := 577 + 20 * (j + 1)) (by omega) (by omega) ?_
                    exact ih2 (j + 1) _ _ _ _ _ _ _ _ _ _ _ J2 (by omega) (by omega) (by omega)
                  · intro h1 hcd
                    obtain ⟨-, J2⟩ := jv_take J (by omega) hcd
                    refine g_eqw (ws' := (Wm cI cP h ad np hr (if lsp (P jv) wet = true then wet else setL wet (pcl (P jv)) (-1) (ql (P jv))) (setL cover (pcl (P jv)) (-1) (ql (P jv))) sun fs mk fd pcs pa (pup P jv (tko (P jv))) [])) rfl ?_
                    refine g_pop C dL_wall_239 rfl ?_
                    refine g_goto (tgt := 310) C dL_wall_240 (by decide) ?_
                    refine g_iinc (v := nI (j + 1)) (lv' := [(3, .int (nI (j + 1))), (4, .int x9), (2, .int (nI (4 + j60))), (1, .ref h), (0, .ref b)]) C dL_wall_310 1 rfl (by exact nI_add _ 1) (by decide) rfl ?_
                    refine g_goto (tgt := 83) C dL_wall_313 (by decide) ?_
                    refine g_sub [0, 2, 3, 4] (lv' := [(3, .int (nI (j + 1))), (2, .int (nI (4 + j60))), (1, .ref h), (0, .ref b)]) rfl ?_
                    refine g_more (k2 := 18 + 4 * (j + 1)) (n2 := 577 + 20 * (j + 1)) (by omega) (by omega) ?_
                    exact ih2 (j + 1) _ _ _ _ _ _ _ _ _ _ _ J2 (by omega) (by omega) (by omega)
                  · intro f1 f2 f3
                    refine g_pop C dL_wall_239 rfl ?_
                    refine g_goto (tgt := 310) C dL_wall_240 (by decide) ?_
                    refine g_iinc (v := nI (j + 1)) (lv' := [(3, .int (nI (j + 1))), (4, .int x9), (2, .int (nI (4 + j60))), (1, .ref h), (0, .ref b)]) C dL_wall_310 1 rfl (by exact nI_add _ 1) (by decide) rfl ?_
                    refine g_goto (tgt := 83) C dL_wall_313 (by decide) ?_
                    refine g_sub [0, 2, 3, 4] (lv' := [(3, .int (nI (j + 1))), (2, .int (nI (4 + j60))), (1, .ref h), (0, .ref b)]) rfl ?_
                    refine g_more (k2 := 18 + 4 * (j + 1)) (n2 := 577 + 20 * (j + 1)) (by omega) (by omega) ?_
                    exact ih2 (j + 1) _ _ _ _ _ _ _ _ _ _ _ J (by omega) (by omega) (by omega)
              · refine g_tableOut (tgt := 243) C dL_wall_122 (Or.inr (by rw [nI_toInt (by omega)]; omega)) (by decide) ?_
                refine g_aload_n C dL_wall_243 rfl 3 rfl ?_
                refine g_iload C dL_wall_244 0 rfl ?_
                refine g_bipush (v := 10) C dL_wall_246 (by decide) ?_
                refine v_below (j := 10) X rfl (by omega) (by omega) dL_wall_248 (Nat.le_of_ble_eq_true rfl) (by omega) (by omega) (fun jx hjx => ?_)
                refine g_iload C dL_wall_251 0 rfl ?_
                refine g_iconst (v := 3) C dL_wall_253 (by decide) ?_
                refine g_ishr C dL_wall_254 ?_
                refine g_topi (fun z_24 _ => ?_)
                refine g_bipush (v := 8) C dL_wall_255 (by decide) ?_
                refine v_below (j := 8) X rfl (by omega) (by omega) dL_wall_257 (Nat.le_of_ble_eq_true rfl) (by omega) (by omega) (fun jy hjy => ?_)
                refine g_iconst (v := 1) C dL_wall_260 (by decide) ?_
                refine g_iload C dL_wall_261 0 rfl ?_
                refine g_iconst (v := 5) C dL_wall_263 (by decide) ?_
                refine g_ishr C dL_wall_264 ?_
                refine g_topi (fun z_25 _ => ?_)
                refine g_iconst (v := 3) C dL_wall_265 (by decide) ?_
                refine v_below (j := 3) X rfl (by omega) (by omega) dL_wall_266 (Nat.le_of_ble_eq_true rfl) (by omega) (by omega) (fun jl hjl => ?_)
                refine g_iadd C dL_wall_269 ?_
                refine g_eqi (x := 1 + (nI jl)) (y := nI (1 + jl)) (by exact nI_add 1 jl) ?_
                refine g_iload C dL_wall_270 0 rfl ?_
                refine g_bipush (v := 7) C dL_wall_272 (by decide) ?_
                refine g_ishr C dL_wall_274 ?_
                refine g_topi (fun z_26 _ => ?_)
                refine g_iconst (v := 2) C dL_wall_275 (by decide) ?_
                refine v_below (j := 2) X rfl (by omega) (by omega) dL_wall_276 (Nat.le_of_ble_eq_true rfl) (by omega) (by omega) (fun jc hjc => ?_)
                refine tif_ne (v := decide (jc = 0)) C (fun h => decide_eq_false (fun h9 => h (by rw [h9]; rfl))) (fun h => decide_eq_true (by have h9 := Classical.not_not.mp h; rw [show (0 : Int32) = nI 0 from rfl, nI_eq (by omega) (by omega)] at h9; exact h9)) dL_wall_279 dL_wall_282 dL_wall_283 dL_wall_286 ?_
                refine g_iload C dL_wall_287 0 rfl ?_
                refine g_iconst (v := 2) C dL_wall_289 (by decide) ?_
                refine g_ishr C dL_wall_290 ?_
                refine g_topi (fun z_27 _ => ?_)
                refine g_bipush (v := 7) C dL_wall_291 (by decide) ?_
                refine v_below (j := 7) X rfl (by omega) (by omega) dL_wall_293 (Nat.le_of_ble_eq_true rfl) (by omega) (by omega) (fun jf hjf => ?_)
                refine g_iload C dL_wall_296 0 rfl ?_
                refine g_bipush (v := 6) C dL_wall_298 (by decide) ?_
                refine g_ishr C dL_wall_300 ?_
                refine g_topi (fun z_28 _ => ?_)
                refine g_bipush (v := 7) C dL_wall_301 (by decide) ?_
                refine v_below (j := 7) X rfl (by omega) (by omega) dL_wall_303 (Nat.le_of_ble_eq_true rfl) (by omega) (by omega) (fun jb hjb => ?_)
                refine v_press (x := jx) (y := jy) (ln := 1 + jl) (f9 := jf) (b9 := jb) (ac := (decide (jc = 0))) X J (by omega) (by omega) (by omega) (by omega) (by omega) (by omega) rfl dL_wall_306 (Nat.le_of_ble_eq_true rfl) (by omega) (by omega) (fun q2 hcd => ?_) ?_
                · obtain ⟨J2, -⟩ := jv_press2 J (by omega) (by omega) (by omega) hcd q2
                  refine g_pop C dL_wall_309 rfl ?_
                  refine g_iinc (v := nI (j + 1)) (lv' := [(3, .int (nI (j + 1))), (4, .int x9), (2, .int (nI (4 + j60))), (1, .ref h), (0, .ref b)]) C dL_wall_310 1 rfl (by exact nI_add _ 1) (by decide) rfl ?_
                  refine g_goto (tgt := 83) C dL_wall_313 (by decide) ?_
                  refine g_sub [0, 2, 3, 4] (lv' := [(3, .int (nI (j + 1))), (2, .int (nI (4 + j60))), (1, .ref h), (0, .ref b)]) rfl ?_
                  refine g_more (k2 := 18 + 4 * (j + 1)) (n2 := 577 + 20 * (j + 1)) (by omega) (by omega) ?_
                  exact ih2 (j + 1) _ _ _ _ _ _ _ _ _ _ _ J2 (by omega) (by omega) (by omega)
                · skip
                  refine g_pop C dL_wall_309 rfl ?_
                  refine g_iinc (v := nI (j + 1)) (lv' := [(3, .int (nI (j + 1))), (4, .int x9), (2, .int (nI (4 + j60))), (1, .ref h), (0, .ref b)]) C dL_wall_310 1 rfl (by exact nI_add _ 1) (by decide) rfl ?_
                  refine g_goto (tgt := 83) C dL_wall_313 (by decide) ?_
                  refine g_sub [0, 2, 3, 4] (lv' := [(3, .int (nI (j + 1))), (2, .int (nI (4 + j60))), (1, .ref h), (0, .ref b)]) rfl ?_
                  refine g_more (k2 := 18 + 4 * (j + 1)) (n2 := 577 + 20 * (j + 1)) (by omega) (by omega) ?_
                  exact ih2 (j + 1) _ _ _ _ _ _ _ _ _ _ _ J (by omega) (by omega) (by omega)
        refine g_sub [0, 1, 2, 3] (lv' := [(3, .int 0), (2, .int (nI (4 + j60))), (1, .ref h), (0, .ref b)]) rfl ?_
        refine g_more (k2 := 18 + 4 * 0) (n2 := 577 + 20 * 0) (by omega) (by omega) ?_
        exact lp83_5 (5 + j60) 0 _ _ _ _ _ _ _ _ _ _ _ J_3 (by omega) (by omega) (by omega)
      · skip
        rw [show (8 : Int32) = nI 8 from rfl, nI_leI (by omega) (by omega)] at c_2
        refine g_aload_n C dL_wall_16 rfl 1 rfl ?_
        refine g_iload_n C dL_wall_17 rfl 0 rfl ?_
        refine g_aload_n C dL_wall_18 rfl 2 rfl ?_
        refine g_iconst (v := 0) C dL_wall_19 (by decide) ?_
        refine v_cellL (j := 0) X rfl (by omega) dL_wall_20 (Nat.le_of_ble_eq_true rfl) (by omega) (by omega) (fun u_29 => ?_)
        refine g_iconst (v := 2) C dL_wall_23 (by decide) ?_
        refine g_iload_n C dL_wall_24 rfl 0 rfl ?_
        refine g_imul C dL_wall_25 ?_
        refine g_eqi (x := 2 * (nI j)) (y := nI (2 * j)) (by rw [show (2 : Int32) = nI 2 from rfl, pk_mul]) ?_
        refine g_ishr C dL_wall_26 ?_
        refine g_topi (fun z_30 _ => ?_)
        refine g_aload_n C dL_wall_27 rfl 2 rfl ?_
        refine g_iconst (v := 1) C dL_wall_28 (by decide) ?_
        refine v_cellL (j := 1) X rfl (by omega) dL_wall_29 (Nat.le_of_ble_eq_true rfl) (by omega) (by omega) (fun u_31 => ?_)
        refine g_iconst (v := 3) C dL_wall_32 (by decide) ?_
        refine v_below (j := 3) X rfl (by omega) (by omega) dL_wall_33 (Nat.le_of_ble_eq_true rfl) (by omega) (by omega) (fun i_32 hi_32 => ?_)
        refine g_if_ne (tgt := 43) C dL_wall_36 (by decide) (fun c_33 => ?_) (fun c_33 => ?_)
        · skip
          rw [show (0 : Int32) = nI 0 from rfl, nI_eq (by omega) (by omega)] at c_33
          refine g_iconst (v := 2) C dL_wall_43 (by decide) ?_
          refine v_below (j := 2) X rfl (by omega) (by omega) dL_wall_44 (Nat.le_of_ble_eq_true rfl) (by omega) (by omega) (fun i_34 hi_34 => ?_)
          refine v_setSun (v := j) (s9 := i_34) X J (by omega) (by omega) dL_wall_47 (Nat.le_of_ble_eq_true rfl) (by omega) (by omega) ?_
          have J_35 := jv_sun J (cdSu_0 (v := j) (s9 := i_34) (by omega) (by omega))
          refine g_pop C dL_wall_50 rfl ?_
          refine g_iinc (v := nI (j + 1)) (lv' := [(2, .int (nI (j + 1))), (1, .ref h), (0, .ref b)]) C dL_wall_51 0 rfl (by exact nI_add _ 1) (by decide) rfl ?_
          refine g_goto (tgt := 10) C dL_wall_54 (by decide) ?_
          refine g_sub [0, 1, 2] (lv' := [(2, .int (nI (j + 1))), (1, .ref h), (0, .ref b)]) rfl ?_
          refine g_more (k2 := 8 + 1 * (j + 1)) (n2 := 517 + 6 * (j + 1)) (by omega) (by omega) ?_
          exact ih (j + 1) _ J_35 (by omega) (by omega)
        · skip
          rw [show (0 : Int32) = nI 0 from rfl, nI_eq (by omega) (by omega)] at c_33
          refine g_iconst (v := 5) C dL_wall_39 (by decide) ?_
          refine g_goto (tgt := 44) C dL_wall_40 (by decide) ?_
          refine v_below (j := 5) X rfl (by omega) (by omega) dL_wall_44 (Nat.le_of_ble_eq_true rfl) (by omega) (by omega) (fun i_36 hi_36 => ?_)
          refine v_setSun (v := j) (s9 := i_36) X J (by omega) (by omega) dL_wall_47 (Nat.le_of_ble_eq_true rfl) (by omega) (by omega) ?_
          have J_37 := jv_sun J (cdSu_0 (v := j) (s9 := i_36) (by omega) (by omega))
          refine g_pop C dL_wall_50 rfl ?_
          refine g_iinc (v := nI (j + 1)) (lv' := [(2, .int (nI (j + 1))), (1, .ref h), (0, .ref b)]) C dL_wall_51 0 rfl (by exact nI_add _ 1) (by decide) rfl ?_
          refine g_goto (tgt := 10) C dL_wall_54 (by decide) ?_
          refine g_sub [0, 1, 2] (lv' := [(2, .int (nI (j + 1))), (1, .ref h), (0, .ref b)]) rfl ?_
          refine g_more (k2 := 8 + 1 * (j + 1)) (n2 := 517 + 6 * (j + 1)) (by omega) (by omega) ?_
          exact ih (j + 1) _ J_37 (by omega) (by omega)
  refine g_sub [0, 1, 2] (lv' := [(2, .int 0), (1, .ref h), (0, .ref b)]) rfl ?_
  refine g_more (k2 := 8 + 1 * 0) (n2 := 517 + 6 * 0) (by omega) (by omega) ?_
  exact lp10_1 9 0 _ jv_0 (by omega) (by omega)
