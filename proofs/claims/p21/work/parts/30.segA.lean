set_option maxHeartbeats 4000000 in
set_option maxRecDepth 100000 in
theorem sg_A {p : Program} {l : Launch} {e : Env} {s : State} {m : MethodId} {args : Array Value} {below : List Frame} {meth : Method} {c : Code} {Q : State → Prop} {D : va_G} {A : Nat → Prop} {tys : List (ClassId × FieldType)} {rt : Option FieldType} {cI cP cZ cA cB : ClassId} {b L : Nat} {xs : Nat → Int32} {k n : Nat} {h np hr : Nat} {ad : Nat → Nat} {wet cover sun fs mk fd : Nat → Int32} {pcs : Nat → Option Nat} {pa : Nat → Nat} {P : Nat → Pd} {t : Nat} (X : Cx p l s m args meth c D A tys rt cI cP cZ cA cB b L xs) (J : JV np wet cover sun P pcs pa) (ht : t < 20) (hk : k + 180 ≤ 605351) (hn : n + 1100 ≤ 7285716)
    (kk : ∀ (v : Int32) (mk fd : Nat → Int32) (q : Nat) (r : Nat → Nat) (F : Nat → Nat → Int32) (pp wh : Nat) (il : Bool), (∀ i j, i ≤ 9 → j ≤ 7 → F i j = wet (10 * j + i)) → wh < 6 → (0 < np → pp < np) → il = (decide (0 < np) && lsp (P pp) wet) → G p l e room_1 s m args below meth c D A s.heap 21 (k + 180) (n + 1100) Q 147 [(10, .int (nI wh)), (8, .long (dgT np hr P wet cover sun (fun _ => 0))), (7, .int (gz il)), (6, .int (nI pp)), (5, .ref q), (4, .int (nI np)), (3, .int v), (2, .int (nI t)), (1, .ref h), (0, .ref b)] [] (Wm cI cP h ad np hr wet cover sun fs mk fd pcs pa P ((Mt cA cI q r F)))) :
    G p l e room_1 s m args below meth c D A s.heap 21 k n Q 13 [(2, .int (nI t)), (1, .ref h), (0, .ref b)] [] (Wm cI cP h ad np hr wet cover sun fs mk fd pcs pa P []) := by
  have C := X.C
  have hnp := J.1
  obtain ⟨M, hM0, hM1, hM2, hMe⟩ := maxN hnp
  refine g_aload_n C dL_law_13 rfl 2 rfl ?_
  refine g_iload_n C dL_law_14 rfl 0 rfl ?_
  refine g_bipush (v := 16) C dL_law_15 (by decide) ?_
  refine g_irem C dL_law_17 (by decide) ?_
  refine g_eqi (y := nI (t % 16)) (remI t 16 (by omega) (by omega) (by omega) rfl) ?_
  refine q_cellL (j := t % 16) X rfl (by omega) dL_law_18 (Nat.le_of_ble_eq_true rfl) (by omega) (by omega) (fun u_1 => ?_)
  refine g_iload_n C dL_law_21 rfl 0 rfl ?_
  refine g_bipush (v := 16) C dL_law_22 (by decide) ?_
  refine g_idiv C dL_law_24 (by decide) ?_
  refine g_eqi (y := nI (t / 16)) (divI t 16 (by omega) (by omega) (by omega) rfl) ?_
  refine g_iconst (v := 5) C dL_law_25 (by decide) ?_
  refine g_imul C dL_law_26 ?_
  refine g_eqi (x := (nI (t / 16)) * 5) (y := nI ((t / 16) * 5)) (by rw [show (5 : Int32) = nI 5 from rfl, pk_mul]) ?_
  refine g_ishr C dL_law_27 ?_
  refine g_topi (fun v _ => ?_)
  refine g_istore_n (lv' := [(3, .int v), (2, .int (nI t)), (1, .ref h), (0, .ref b)]) C dL_law_28 rfl (by decide) rfl ?_
  refine g_aload_n C dL_law_29 rfl 2 rfl ?_
  refine g_iconst (v := 1) C dL_law_30 (by decide) ?_
  refine q_count (w := 1) X J (by omega) rfl dL_law_31 (Nat.le_of_ble_eq_true rfl) (by omega) (by omega) ?_
  refine g_eqi (y := nI np) rfl ?_
  refine g_istore (lv' := [(4, .int (nI np)), (3, .int v), (2, .int (nI t)), (1, .ref h), (0, .ref b)]) C dL_law_34 (by decide) rfl ?_
  refine g_bipush (v := 10) C dL_law_36 (by decide) ?_
  refine g_bipush (v := 8) C dL_law_38 (by decide) ?_
  refine q_mnaI X dL_law_40 (by omega) (by omega) (fun q5 r5 => ?_)
  refine g_astore (lv' := [(5, .ref q5), (4, .int (nI np)), (3, .int v), (2, .int (nI t)), (1, .ref h), (0, .ref b)]) C dL_law_44 (by decide) rfl ?_
  refine g_iconst (v := 0) C dL_law_46 (by decide) ?_
  refine g_istore (lv' := [(6, .int 0), (5, .ref q5), (4, .int (nI np)), (3, .int v), (2, .int (nI t)), (1, .ref h), (0, .ref b)]) C dL_law_47 (by decide) rfl ?_
  have lp49_2 : ∀ (n9 : Nat) (x : Nat) (F : Nat → Nat → Int32) (hF : ∀ i j, i < x → j ≤ 7 → F i j = wet (10 * j + i)) (hx : x ≤ 10) (hn9 : 11 ≤ x + n9), G p l e room_1 s m args below meth c D A s.heap 21 (k + 12 + 2 * (8 * x)) (n + 96 + 12 * (8 * x)) Q 49 [(6, .int (nI x)), (5, .ref q5), (4, .int (nI np)), (3, .int v), (2, .int (nI t)), (1, .ref h), (0, .ref b)] [] (Wm cI cP h ad np hr wet cover sun fs mk fd pcs pa P ((Mt cA cI q5 r5 F))) := by
    intro n9
    induction n9 with
    | zero =>
      intro x F hF hx hn9
      exfalso; omega
    | succ n9 ih =>
      intro x F hF hx hn9
      refine g_iload C dL_law_49 0 rfl ?_
      refine g_bipush (v := 10) C dL_law_51 (by decide) ?_
      refine g_icmp_ge (tgt := 95) C dL_law_53 (by decide) (fun c_3 => ?_) (fun c_3 => ?_)
      · skip
        rw [show (10 : Int32) = nI 10 from rfl, nI_leI (by omega) (by omega)] at c_3
        refine g_iload_n C dL_law_95 rfl 3 rfl ?_
        refine g_iconst (v := 3) C dL_law_96 (by decide) ?_
        refine g_ishr C dL_law_97 ?_
        refine g_topi (fun z_4 _ => ?_)
        refine g_iconst (v := 1) C dL_law_98 (by decide) ?_
        refine g_iload C dL_law_99 2 rfl ?_
        refine g_max C k_law_x0 k_law_x1 k_law_x2 k_law_x3 (Nat.le_of_ble_eq_true rfl) (Nat.le_of_ble_eq_true rfl) (by show _ ≤ 605351; omega) (by show _ ≤ 7285716; omega) dL_law_101 ?_
        refine g_eqi (x := if 1 < nI np then nI np else 1) (y := nI M) (hMe) ?_
        refine q_below (j := M) X rfl (by omega) (by omega) dL_law_104 (Nat.le_of_ble_eq_true rfl) (by omega) (by omega) (fun pp hpp => ?_)
        refine g_istore (lv' := [(6, .int (nI pp)), (5, .ref q5), (4, .int (nI np)), (3, .int v), (2, .int (nI t)), (1, .ref h), (0, .ref b)]) C dL_law_107 (by decide) rfl ?_
        refine g_iload C dL_law_109 2 rfl ?_
        refine g_if_le (tgt := 130) C dL_law_111 (by decide) (fun c_5 => ?_) (fun c_5 => ?_)
        · skip
          rw [show (0 : Int32) = nI 0 from rfl, nI_leI (by omega) (by omega)] at c_5
          refine g_iconst (v := 0) C dL_law_130 (by decide) ?_
          refine g_istore (lv' := [(7, .int 0), (6, .int (nI pp)), (5, .ref q5), (4, .int (nI np)), (3, .int v), (2, .int (nI t)), (1, .ref h), (0, .ref b)]) C dL_law_131 (by decide) rfl ?_
          refine g_aload_n C dL_law_133 rfl 6 rfl ?_
          refine q_digest X J dL_law_134 (Nat.le_of_ble_eq_true rfl) (by omega) (by omega) (fun mk_6 fd_7 => ?_)
          refine g_eql (y := dgT np hr P wet cover sun (fun _ => 0)) dig_fd ?_
          refine g_lstore (lv' := [(8, .long (dgT np hr P wet cover sun (fun _ => 0))), (7, .int 0), (6, .int (nI pp)), (5, .ref q5), (4, .int (nI np)), (3, .int v), (2, .int (nI t)), (1, .ref h), (0, .ref b)]) C dL_law_137 (by decide) rfl ?_
          refine g_iload_n C dL_law_139 rfl 5 rfl ?_
          refine g_bipush (v := 6) C dL_law_140 (by decide) ?_
          refine q_below (j := 6) X rfl (by omega) (by omega) dL_law_142 (Nat.le_of_ble_eq_true rfl) (by omega) (by omega) (fun wh hwh => ?_)
          refine g_istore (lv' := [(10, .int (nI wh)), (8, .long (dgT np hr P wet cover sun (fun _ => 0))), (7, .int 0), (6, .int (nI pp)), (5, .ref q5), (4, .int (nI np)), (3, .int v), (2, .int (nI t)), (1, .ref h), (0, .ref b)]) C dL_law_145 (by decide) rfl ?_
          refine g_sub [0, 1, 2, 3, 4, 5, 6, 7, 8, 9] (lv' := [(10, .int (nI wh)), (8, .long (dgT np hr P wet cover sun (fun _ => 0))), (7, .int 0), (6, .int (nI pp)), (5, .ref q5), (4, .int (nI np)), (3, .int v), (2, .int (nI t)), (1, .ref h), (0, .ref b)]) rfl ?_
          refine g_more (k2 := k + 180) (n2 := n + 1100) (by omega) (by omega) ?_
          exact kk v _ _ q5 r5 F pp wh false (fun i j hi hj => hF i j (by omega) hj) hwh (fun h0 => by have := hM2 h0; omega) (by simp [show np = 0 by omega])
        · skip
          rw [show (0 : Int32) = nI 0 from rfl, nI_leI (by omega) (by omega)] at c_5
          refine g_aload_n C dL_law_114 rfl 5 rfl ?_
          refine g_iload C dL_law_115 0 rfl ?_
          refine g_bipush (v := 6) C dL_law_117 (by decide) ?_
          refine q_piece (w := 6) (v := pp) X J (by omega) (by omega) rfl dL_law_119 (Nat.le_of_ble_eq_true rfl) (by omega) (by omega) ?_
          refine g_eqi (y := gz (lsp (P pp) wet)) rfl ?_
          refine g_iconst (v := 1) C dL_law_122 (by decide) ?_
          refine tic_ne (v := lsp (P pp) wet) C (fun h => gzn1.mp h) (fun h => gz1.mp (Classical.not_not.mp h)) dL_law_123 dL_law_126 dL_law_127 dL_law_130 ?_
          refine g_istore (lv' := [(7, .int (gz (lsp (P pp) wet))), (6, .int (nI pp)), (5, .ref q5), (4, .int (nI np)), (3, .int v), (2, .int (nI t)), (1, .ref h), (0, .ref b)]) C dL_law_131 (by decide) rfl ?_
          refine g_aload_n C dL_law_133 rfl 6 rfl ?_
          refine q_digest X J dL_law_134 (Nat.le_of_ble_eq_true rfl) (by omega) (by omega) (fun mk_8 fd_9 => ?_)
          refine g_eql (y := dgT np hr P wet cover sun (fun _ => 0)) dig_fd ?_
          refine g_lstore (lv' := [(8, .long (dgT np hr P wet cover sun (fun _ => 0))), (7, .int (gz (lsp (P pp) wet))), (6, .int (nI pp)), (5, .ref q5), (4, .int (nI np)), (3, .int v), (2, .int (nI t)), (1, .ref h), (0, .ref b)]) C dL_law_137 (by decide) rfl ?_
          refine g_iload_n C dL_law_139 rfl 5 rfl ?_
          refine g_bipush (v := 6) C dL_law_140 (by decide) ?_
          refine q_below (j := 6) X rfl (by omega) (by omega) dL_law_142 (Nat.le_of_ble_eq_true rfl) (by omega) (by omega) (fun wh hwh => ?_)
          refine g_istore (lv' := [(10, .int (nI wh)), (8, .long (dgT np hr P wet cover sun (fun _ => 0))), (7, .int (gz (lsp (P pp) wet))), (6, .int (nI pp)), (5, .ref q5), (4, .int (nI np)), (3, .int v), (2, .int (nI t)), (1, .ref h), (0, .ref b)]) C dL_law_145 (by decide) rfl ?_
          refine g_sub [0, 1, 2, 3, 4, 5, 6, 7, 8, 9] (lv' := [(10, .int (nI wh)), (8, .long (dgT np hr P wet cover sun (fun _ => 0))), (7, .int (gz (lsp (P pp) wet))), (6, .int (nI pp)), (5, .ref q5), (4, .int (nI np)), (3, .int v), (2, .int (nI t)), (1, .ref h), (0, .ref b)]) rfl ?_
          refine g_more (k2 := k + 180) (n2 := n + 1100) (by omega) (by omega) ?_
          exact kk v _ _ q5 r5 F pp wh (lsp (P pp) wet) (fun i j hi hj => hF i j (by omega) hj) hwh (fun h0 => by have := hM2 h0; omega) (by rw [decide_eq_true (show 0 < np by omega), Bool.true_and])
      · skip
        rw [show (10 : Int32) = nI 10 from rfl, nI_leI (by omega) (by omega)] at c_3
        refine g_iconst (v := 0) C dL_law_56 (by decide) ?_
        refine g_istore (lv' := [(7, .int 0), (6, .int (nI x)), (5, .ref q5), (4, .int (nI np)), (3, .int v), (2, .int (nI t)), (1, .ref h), (0, .ref b)]) C dL_law_57 (by decide) rfl ?_
        have lp59_10 : ∀ (n9 : Nat) (y : Nat) (F2 : Nat → Nat → Int32) (hF2 : ∀ i j, (i < x ∧ j ≤ 7) ∨ (i = x ∧ j < y) → F2 i j = wet (10 * j + i)) (hy : y ≤ 8) (hn8 : 9 ≤ y + n9), G p l e room_1 s m args below meth c D A s.heap 21 (k + 12 + 2 * (8 * x + y)) (n + 96 + 12 * (8 * x + y)) Q 59 [(7, .int (nI y)), (6, .int (nI x)), (5, .ref q5), (4, .int (nI np)), (3, .int v), (2, .int (nI t)), (1, .ref h), (0, .ref b)] [] (Wm cI cP h ad np hr wet cover sun fs mk fd pcs pa P ((Mt cA cI q5 r5 F2))) := by
          intro n9
          induction n9 with
          | zero =>
            intro y F2 hF2 hy hn8
            exfalso; omega
          | succ n9 ih2 =>
            intro y F2 hF2 hy hn8
            refine g_iload C dL_law_59 0 rfl ?_
            refine g_bipush (v := 8) C dL_law_61 (by decide) ?_
            refine g_icmp_ge (tgt := 89) C dL_law_63 (by decide) (fun c_11 => ?_) (fun c_11 => ?_)
            · skip
              rw [show (8 : Int32) = nI 8 from rfl, nI_leI (by omega) (by omega)] at c_11
              refine g_iinc (v := nI (x + 1)) (lv' := [(6, .int (nI (x + 1))), (7, .int (nI y)), (5, .ref q5), (4, .int (nI np)), (3, .int v), (2, .int (nI t)), (1, .ref h), (0, .ref b)]) C dL_law_89 1 rfl (by exact nI_add _ 1) (by decide) rfl ?_
              refine g_goto (tgt := 49) C dL_law_92 (by decide) ?_
              refine g_sub [0, 2, 3, 4, 5, 6, 7] (lv' := [(6, .int (nI (x + 1))), (5, .ref q5), (4, .int (nI np)), (3, .int v), (2, .int (nI t)), (1, .ref h), (0, .ref b)]) rfl ?_
              refine g_more (k2 := k + 12 + 2 * (8 * (x + 1))) (n2 := n + 96 + 12 * (8 * (x + 1))) (by omega) (by omega) ?_
              exact ih (x + 1) F2 (fun i j hi hj => hF2 i j (by omega)) (by omega) (by omega)
            · skip
              rw [show (8 : Int32) = nI 8 from rfl, nI_leI (by omega) (by omega)] at c_11
              refine g_aload C dL_law_66 2 rfl ?_
              refine g_iload C dL_law_68 1 rfl ?_
              refine q_rowI X (by omega) dL_law_70 ?_
              refine g_iload C dL_law_71 0 rfl ?_
              refine g_aload_n C dL_law_73 rfl 6 rfl ?_
              refine g_iload C dL_law_74 1 rfl ?_
              refine g_iload C dL_law_76 0 rfl ?_
              refine g_iconst (v := 0) C dL_law_78 (by decide) ?_
              refine q_cell (w := 0) X J (by omega) (by omega) (by omega) rfl dL_law_79 (Nat.le_of_ble_eq_true rfl) (by omega) (by omega) ?_
              refine g_eqi (y := wet (10 * y + x)) rfl ?_
              refine q_iast X (by omega) (by omega) dL_law_82 ?_
              refine g_iinc (v := nI (y + 1)) (lv' := [(7, .int (nI (y + 1))), (6, .int (nI x)), (5, .ref q5), (4, .int (nI np)), (3, .int v), (2, .int (nI t)), (1, .ref h), (0, .ref b)]) C dL_law_83 0 rfl (by exact nI_add _ 1) (by decide) rfl ?_
              refine g_goto (tgt := 59) C dL_law_86 (by decide) ?_
              refine g_sub [0, 1, 2, 3, 4, 5, 6, 7] (lv' := [(7, .int (nI (y + 1))), (6, .int (nI x)), (5, .ref q5), (4, .int (nI np)), (3, .int v), (2, .int (nI t)), (1, .ref h), (0, .ref b)]) rfl ?_
              refine g_more (k2 := k + 12 + 2 * (8 * x + (y + 1))) (n2 := n + 96 + 12 * (8 * x + (y + 1))) (by omega) (by omega) ?_
              exact ih2 (y + 1) _ (mat_step hF2 rfl) (by omega) (by omega)
        refine g_sub [0, 1, 2, 3, 4, 5, 6, 7] (lv' := [(7, .int 0), (6, .int (nI x)), (5, .ref q5), (4, .int (nI np)), (3, .int v), (2, .int (nI t)), (1, .ref h), (0, .ref b)]) rfl ?_
        refine g_more (k2 := k + 12 + 2 * (8 * x + 0)) (n2 := n + 96 + 12 * (8 * x + 0)) (by omega) (by omega) ?_
        exact lp59_10 9 0 F (fun i j hij => hF i j (by omega) (by omega)) (by omega) (by omega)
  refine g_sub [0, 1, 2, 3, 4, 5, 6] (lv' := [(6, .int 0), (5, .ref q5), (4, .int (nI np)), (3, .int v), (2, .int (nI t)), (1, .ref h), (0, .ref b)]) rfl ?_
  refine g_more (k2 := k + 12 + 2 * (8 * 0)) (n2 := n + 96 + 12 * (8 * 0)) (by omega) (by omega) ?_
  exact lp49_2 11 0 _ (fun i j hi => absurd hi (Nat.not_lt_zero i)) (by omega) (by omega)
