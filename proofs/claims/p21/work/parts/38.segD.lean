set_option maxHeartbeats 4000000 in
set_option maxRecDepth 100000 in
theorem sg_D {p : Program} {l : Launch} {e : Env} {s : State} {m : MethodId} {args : Array Value} {below : List Frame} {meth : Method} {c : Code} {Q : State → Prop} {D : va_G} {A : Nat → Prop} {tys : List (ClassId × FieldType)} {rt : Option FieldType} {cI cP cZ cA cB : ClassId} {b L : Nat} {xs : Nat → Int32} {k n : Nat} {h np hr : Nat} {ad : Nat → Nat} {wet cover sun fs mk fd : Nat → Int32} {pcs : Nat → Option Nat} {pa : Nat → Nat} {P : Nat → Pd} {t q cv : Nat} {v : Int32} {r : Nat → Nat} {F : Nat → Nat → Int32} (X : Cx p l s m args meth c D A tys rt cI cP cZ cA cB b L xs) (J : JV np wet cover sun P pcs pa) (ht : t < 20) (hF : ∀ x y, x ≤ 9 → y ≤ 7 → F x y = gz (decide (0 ≤ cover (10 * y + x)))) (hcv : cv = cnt (fun c => decide (0 ≤ cover c)) 80) (hk : k + 1300 ≤ 605351) (hn : n + 7800 ≤ 7285716)
    (kk : ∀ (mk fd : Nat → Int32) (ja sh : Nat), ja < 7 → sh = cnt (fun c => decide (colv np P cover c = nI ja)) 80 → G p l e room_1 s m args below meth c D A s.heap 21 (k + 1300) (n + 7800) Q 1354 [(16, .int (nI sh)), (15, .int (nI ja)), (14, .int (nI cv)), (4, .int (nI np)), (3, .int v), (2, .int (nI t)), (1, .ref h), (0, .ref b)] [] (Wm cI cP h ad np hr wet cover sun fs mk fd pcs pa P [])) :
    G p l e room_1 s m args below meth c D A s.heap 21 k n Q 1062 [(14, .int (nI cv)), (11, .ref q), (4, .int (nI np)), (3, .int v), (2, .int (nI t)), (1, .ref h), (0, .ref b)] [] (Wm cI cP h ad np hr wet cover sun fs mk fd pcs pa P ((Mt cB cZ q r F))) := by
  have C := X.C
  have hnp := J.1
  have hcv80 : cv ≤ 80 := by rw [hcv]; exact cnt_le _ _
  refine g_iload_n C dL_law_1062 rfl 3 rfl ?_
  refine g_iconst (v := 2) C dL_law_1063 (by decide) ?_
  refine g_ishr C dL_law_1064 ?_
  refine g_topi (fun z_1 _ => ?_)
  refine g_bipush (v := 7) C dL_law_1065 (by decide) ?_
  refine q_below (j := 7) X rfl (by omega) (by omega) dL_law_1067 (Nat.le_of_ble_eq_true rfl) (by omega) (by omega) (fun ja hja => ?_)
  refine g_istore (lv' := [(15, .int (nI ja)), (14, .int (nI cv)), (11, .ref q), (4, .int (nI np)), (3, .int v), (2, .int (nI t)), (1, .ref h), (0, .ref b)]) C dL_law_1070 (by decide) rfl ?_
  refine g_iconst (v := 0) C dL_law_1072 (by decide) ?_
  refine g_istore (lv' := [(16, .int 0), (15, .int (nI ja)), (14, .int (nI cv)), (11, .ref q), (4, .int (nI np)), (3, .int v), (2, .int (nI t)), (1, .ref h), (0, .ref b)]) C dL_law_1073 (by decide) rfl ?_
  refine g_iconst (v := 0) C dL_law_1075 (by decide) ?_
  refine g_istore (lv' := [(17, .int 0), (16, .int 0), (15, .int (nI ja)), (14, .int (nI cv)), (11, .ref q), (4, .int (nI np)), (3, .int v), (2, .int (nI t)), (1, .ref h), (0, .ref b)]) C dL_law_1076 (by decide) rfl ?_
  have lp1078_2 : ∀ (n9 : Nat) (x sh : Nat) (mk2 fd2 : Nat → Int32) (hsh : sh = cs (fun x y => decide (colv np P cover (10 * y + x) = nI ja)) 8 x) (hx : x ≤ 10) (hn9 : 11 ≤ x + n9), G p l e room_1 s m args below meth c D A s.heap 21 (k + 16 * (8 * x)) (n + 96 * (8 * x)) Q 1078 [(17, .int (nI x)), (16, .int (nI sh)), (15, .int (nI ja)), (14, .int (nI cv)), (11, .ref q), (4, .int (nI np)), (3, .int v), (2, .int (nI t)), (1, .ref h), (0, .ref b)] [] (Wm cI cP h ad np hr wet cover sun fs mk2 fd2 pcs pa P ((Mt cB cZ q r F))) := by
    intro n9
    induction n9 with
    | zero =>
      intro x sh mk2 fd2 hsh hx hn9
      exfalso; omega
    | succ n9 ih =>
      intro x sh mk2 fd2 hsh hx hn9
      refine g_iload C dL_law_1078 0 rfl ?_
      refine g_bipush (v := 10) C dL_law_1080 (by decide) ?_
      refine g_icmp_ge (tgt := 1354) C dL_law_1082 (by decide) (fun c_3 => ?_) (fun c_3 => ?_)
      · skip
        rw [show (10 : Int32) = nI 10 from rfl, nI_leI (by omega) (by omega)] at c_3
        refine g_sub [1, 2, 3, 5, 6, 7, 8, 9] (lv' := [(16, .int (nI sh)), (15, .int (nI ja)), (14, .int (nI cv)), (4, .int (nI np)), (3, .int v), (2, .int (nI t)), (1, .ref h), (0, .ref b)]) rfl ?_
        refine g_more (k2 := k + 1300) (n2 := n + 7800) (by omega) (by omega) ?_
        refine g_less (ws' := (Wm cI cP h ad np hr wet cover sun fs mk2 fd2 pcs pa P [])) tl_less ?_
        exact kk _ _ ja sh hja (by rw [hsh, show x = 10 by omega]; exact cs_80 (fun c => decide (colv np P cover c = nI ja)))
      · skip
        rw [show (10 : Int32) = nI 10 from rfl, nI_leI (by omega) (by omega)] at c_3
        refine g_iconst (v := 0) C dL_law_1085 (by decide) ?_
        refine g_istore (lv' := [(18, .int 0), (17, .int (nI x)), (16, .int (nI sh)), (15, .int (nI ja)), (14, .int (nI cv)), (11, .ref q), (4, .int (nI np)), (3, .int v), (2, .int (nI t)), (1, .ref h), (0, .ref b)]) C dL_law_1086 (by decide) rfl ?_
        have lp1088_4 : ∀ (n9 : Nat) (y sh : Nat) (mk2 fd2 : Nat → Int32) (hsh : sh = cs (fun x y => decide (colv np P cover (10 * y + x) = nI ja)) 8 x + cnt ((fun x y => decide (colv np P cover (10 * y + x) = nI ja)) x) y) (hy : y ≤ 8) (hn8 : 9 ≤ y + n9), G p l e room_1 s m args below meth c D A s.heap 21 (k + 16 * (8 * x + y)) (n + 96 * (8 * x + y)) Q 1088 [(18, .int (nI y)), (17, .int (nI x)), (16, .int (nI sh)), (15, .int (nI ja)), (14, .int (nI cv)), (11, .ref q), (4, .int (nI np)), (3, .int v), (2, .int (nI t)), (1, .ref h), (0, .ref b)] [] (Wm cI cP h ad np hr wet cover sun fs mk2 fd2 pcs pa P ((Mt cB cZ q r F))) := by
          intro n9
          induction n9 with
          | zero =>
            intro y sh mk2 fd2 hsh hy hn8
            exfalso; omega
          | succ n9 ih2 =>
            intro y sh mk2 fd2 hsh hy hn8
            refine g_iload C dL_law_1088 0 rfl ?_
            refine g_bipush (v := 8) C dL_law_1090 (by decide) ?_
            refine g_icmp_ge (tgt := 1348) C dL_law_1092 (by decide) (fun c_5 => ?_) (fun c_5 => ?_)
            · skip
              rw [show (8 : Int32) = nI 8 from rfl, nI_leI (by omega) (by omega)] at c_5
              refine g_iinc (v := nI (x + 1)) (lv' := [(17, .int (nI (x + 1))), (18, .int (nI y)), (16, .int (nI sh)), (15, .int (nI ja)), (14, .int (nI cv)), (11, .ref q), (4, .int (nI np)), (3, .int v), (2, .int (nI t)), (1, .ref h), (0, .ref b)]) C dL_law_1348 1 rfl (by exact nI_add _ 1) (by decide) rfl ?_
              refine g_goto (tgt := 1078) C dL_law_1351 (by decide) ?_
              refine g_sub [0, 2, 3, 4, 5, 6, 7, 8, 9, 10] (lv' := [(17, .int (nI (x + 1))), (16, .int (nI sh)), (15, .int (nI ja)), (14, .int (nI cv)), (11, .ref q), (4, .int (nI np)), (3, .int v), (2, .int (nI t)), (1, .ref h), (0, .ref b)]) rfl ?_
              refine g_more (k2 := k + 16 * (8 * (x + 1))) (n2 := n + 96 * (8 * (x + 1))) (by omega) (by omega) ?_
              exact ih (x + 1) sh _ _ (by rw [hsh, show y = 8 by omega]; rfl) (by omega) (by omega)
            · skip
              rw [show (8 : Int32) = nI 8 from rfl, nI_leI (by omega) (by omega)] at c_5
              refine g_aload_n C dL_law_1095 rfl 9 rfl ?_
              refine g_iload C dL_law_1096 1 rfl ?_
              refine g_iload C dL_law_1098 0 rfl ?_
              refine g_iconst (v := 1) C dL_law_1100 (by decide) ?_
              refine q_cell (w := 1) X J (by omega) (by omega) (by omega) rfl dL_law_1101 (Nat.le_of_ble_eq_true rfl) (by omega) (by omega) ?_
              refine g_eqi (y := cover (10 * y + x)) rfl ?_
              refine tif_ge (v := decide (cover (10 * y + x) = -1)) C (fun h => cov_h1 h) (fun h => cov_h2 J (by omega) h) dL_law_1104 dL_law_1107 dL_law_1108 dL_law_1111 ?_
              refine g_istore (lv' := [(19, .int (gz (decide (cover (10 * y + x) = -1)))), (18, .int (nI y)), (17, .int (nI x)), (16, .int (nI sh)), (15, .int (nI ja)), (14, .int (nI cv)), (11, .ref q), (4, .int (nI np)), (3, .int v), (2, .int (nI t)), (1, .ref h), (0, .ref b)]) C dL_law_1112 (by decide) rfl ?_
              refine g_iload C dL_law_1114 0 rfl ?_
              refine g_aload C dL_law_1116 6 rfl ?_
              refine g_iload C dL_law_1118 2 rfl ?_
              refine q_rowZ X (by omega) dL_law_1120 ?_
              refine g_iload C dL_law_1121 1 rfl ?_
              refine q_zald X (by omega) (by omega) dL_law_1123 ?_
              refine g_eqi (x := F x y) (y := gz (decide (0 ≤ cover (10 * y + x)))) (hF _ _ (by omega) (by omega)) ?_
              refine g_icmp_eq (tgt := 1163) C dL_law_1124 (by decide) (fun c_6 => by exfalso; exact gap_ne J (by omega) c_6) (fun c_6 => ?_)
              refine g_aload_n C dL_law_1127 rfl 10 rfl ?_
              refine g_iload C dL_law_1128 2 rfl ?_
              refine g_iload C dL_law_1130 1 rfl ?_
              refine g_iconst (v := 2) C dL_law_1132 (by decide) ?_
              refine q_cell (w := 2) X J (by omega) (by omega) (by omega) rfl dL_law_1133 (Nat.le_of_ble_eq_true rfl) (by omega) (by omega) ?_
              refine g_eqi (y := colv np P cover (10 * y + x)) rfl ?_
              refine tif_ge (v := decide (cover (10 * y + x) = -1)) C (fun h => col_h1 J h) (fun h => col_h2 J (by omega) h) dL_law_1136 dL_law_1139 dL_law_1140 dL_law_1143 ?_
              refine g_iload C dL_law_1144 0 rfl ?_
              refine g_icmp_ne (tgt := 1163) C dL_law_1146 (by decide) (fun c_7 => by exfalso; exact c_7 rfl) (fun c_7 => ?_)
              refine g_aload_n C dL_law_1149 rfl 10 rfl ?_
              refine g_iload C dL_law_1150 2 rfl ?_
              refine g_iload C dL_law_1152 1 rfl ?_
              refine g_iconst (v := 0) C dL_law_1154 (by decide) ?_
              refine q_cell (w := 0) X J (by omega) (by omega) (by omega) rfl dL_law_1155 (Nat.le_of_ble_eq_true rfl) (by omega) (by omega) ?_
              refine g_eqi (y := wet (10 * y + x)) rfl ?_
              refine g_bipush (v := 12) C dL_law_1158 (by decide) ?_
              refine g_icmp_le (tgt := 1165) C dL_law_1160 (by decide) (fun c_8 => ?_) (fun c_8 => by exfalso; exact c_8 (wet_12 J (by omega)))
              refine g_iload C dL_law_1165 3 rfl ?_
              refine g_aload_n C dL_law_1167 rfl 10 rfl ?_
              refine g_iload C dL_law_1168 2 rfl ?_
              refine g_iload C dL_law_1170 1 rfl ?_
              refine g_iconst (v := 2) C dL_law_1172 (by decide) ?_
              refine q_cell (w := 2) X J (by omega) (by omega) (by omega) rfl dL_law_1173 (Nat.le_of_ble_eq_true rfl) (by omega) (by omega) ?_
              refine g_eqi (y := colv np P cover (10 * y + x)) rfl ?_
              refine g_iload C dL_law_1176 4 rfl ?_
              refine tic_ne (v := decide (colv np P cover (10 * y + x) = nI ja)) C (fun h => decide_eq_false h) (fun h => decide_eq_true (Classical.not_not.mp h)) dL_law_1178 dL_law_1181 dL_law_1182 dL_law_1185 ?_
              refine g_iadd C dL_law_1186 ?_
              refine g_eqi (x := (nI sh) + (gz (decide (colv np P cover (10 * y + x) = nI ja)))) (y := nI (sh + (if decide (colv np P cover (10 * y + x) = nI ja) then 1 else 0))) (add_gz _ _) ?_
              refine g_istore (lv' := [(16, .int (nI (sh + (if decide (colv np P cover (10 * y + x) = nI ja) then 1 else 0)))), (19, .int (gz (decide (cover (10 * y + x) = -1)))), (18, .int (nI y)), (17, .int (nI x)), (15, .int (nI ja)), (14, .int (nI cv)), (11, .ref q), (4, .int (nI np)), (3, .int v), (2, .int (nI t)), (1, .ref h), (0, .ref b)]) C dL_law_1187 (by decide) rfl ?_
              refine g_iload C dL_law_1189 3 rfl ?_
              refine g_iload C dL_law_1191 2 rfl ?_
              refine g_iadd C dL_law_1193 ?_
              refine g_eqi (x := (nI x) + (nI y)) (y := nI (x + y)) (by exact nI_add x y) ?_
              refine g_iload_n C dL_law_1194 rfl 9 rfl ?_
              refine g_iadd C dL_law_1195 ?_
              refine g_eqi (x := (nI (x + y)) + (nI t)) (y := nI (x + y + t)) (by exact nI_add (x + y) t) ?_
              refine g_bipush (v := 7) C dL_law_1196 (by decide) ?_
              refine g_irem C dL_law_1198 (by decide) ?_
              refine g_eqi (y := nI ((x + y + t) % 7)) (remI (x + y + t) 7 (by omega) (by omega) (by omega) rfl) ?_
              refine g_if_le (tgt := 1205) C dL_law_1199 (by decide) (fun c_9 => ?_) (fun c_9 => ?_)
              · skip
                rw [show (0 : Int32) = nI 0 from rfl, nI_leI (by omega) (by omega)] at c_9
                refine g_aload_n C dL_law_1205 rfl 10 rfl ?_
                refine g_iload C dL_law_1206 3 rfl ?_
                refine g_iload C dL_law_1208 2 rfl ?_
                refine q_gap (x := x) X J (by omega) (by omega) dL_law_1210 (Nat.le_of_ble_eq_true rfl) (by omega) (by omega) (fun mk_10 fd_11 => ?_)
                obtain ⟨g, hg⟩ : ∃ g : Nat, g = (mgp cover (nI x) (nI y) (fun _ => 0) fd2).2.2 := ⟨_, rfl⟩
                have hg1 := gap_le (fd := fd2) J.1 J.2.2.2.1.1 (show x ≤ 9 by omega) (show y ≤ 7 by omega)
                rw [← hg, ← hcv] at hg1
                have hgp : cover (10 * y + x) = -1 → 0 < g := fun h9 => by rw [hg]; exact gap_pos (by omega) (by omega) h9
                have hgz : ¬ cover (10 * y + x) = -1 → g = 0 := fun h9 => by rw [hg]; exact gap_zero (by omega) (by omega) h9
                have hgm := gap_two (show x ≤ 9 by omega) (show y ≤ 7 by omega) hg
                refine g_eqi (x := nI (mgp cover (nI x) (nI y) (fun _ => 0) fd2).2.2) (y := nI g) (by rw [hg]) ?_
                refine g_istore (lv' := [(20, .int (nI g)), (16, .int (nI (sh + (if decide (colv np P cover (10 * y + x) = nI ja) then 1 else 0)))), (19, .int (gz (decide (cover (10 * y + x) = -1)))), (18, .int (nI y)), (17, .int (nI x)), (15, .int (nI ja)), (14, .int (nI cv)), (11, .ref q), (4, .int (nI np)), (3, .int v), (2, .int (nI t)), (1, .ref h), (0, .ref b)]) C dL_law_1213 (by decide) rfl ?_
                refine g_iload C dL_law_1215 2 rfl ?_
                refine g_iload C dL_law_1217 0 rfl ?_
                refine tif_le (v := decide (cover (10 * y + x) = -1)) C (fun h => decide_eq_false (fun h9 => by have := hgp h9; rw [show (0 : Int32) = nI 0 from rfl, nI_leI (by omega) (by omega)] at h; omega)) (fun h => decide_eq_true (Classical.byContradiction (fun h9 => h (by rw [hgz h9]; decide)))) dL_law_1219 dL_law_1222 dL_law_1223 dL_law_1226 ?_
                refine g_icmp_ne (tgt := 1340) C dL_law_1227 (by decide) (fun c_12 => by exfalso; exact c_12 rfl) (fun c_12 => ?_)
                refine g_iload C dL_law_1230 0 rfl ?_
                refine g_bipush (v := 80) C dL_law_1232 (by decide) ?_
                refine g_iload C dL_law_1234 6 rfl ?_
                refine g_isub C dL_law_1236 ?_
                refine g_eqi (x := 80 - (nI cv)) (y := nI (80 - cv)) (by rw [show (80 : Int32) = nI 80 from rfl, pk_sub (by omega)]) ?_
                refine g_icmp_gt (tgt := 1340) C dL_law_1237 (by decide) (fun c_13 => by exfalso; rw [nI_ltI (by omega) (by omega)] at c_13; omega) (fun c_13 => ?_)
                rw [nI_ltI (by omega) (by omega)] at c_13
                refine g_aload_n C dL_law_1240 rfl 11 rfl ?_
                refine g_iload C dL_law_1241 4 rfl ?_
                refine g_iload C dL_law_1243 3 rfl ?_
                refine g_iconst (v := 1) C dL_law_1245 (by decide) ?_
                refine q_mends (x := x) (ac := true) X J (by omega) (by omega) rfl dL_law_1246 (Nat.le_of_ble_eq_true rfl) (by omega) (by omega) (fun mk_14 fd_15 => ?_)
                obtain ⟨m1, hm1⟩ : ∃ m9 : Nat, m9 = (pfm (mgp cover (nI x) (nI y) (fun _ => 0) fd_11).1 true) := ⟨_, rfl⟩
                have hm1a := hgm fd_11 true
                rw [← hm1] at hm1a
                refine g_eqi (x := nI (pfm (mgp cover (nI x) (nI y) (fun _ => 0) fd_11).1 true)) (y := nI m1) (by rw [hm1]) ?_
                refine g_iload C dL_law_1249 0 rfl ?_
                refine g_icmp_gt (tgt := 1340) C dL_law_1251 (by decide) (fun c_16 => by exfalso; rw [nI_ltI (by omega) (by omega)] at c_16; omega) (fun c_16 => ?_)
                rw [nI_ltI (by omega) (by omega)] at c_16
                refine g_iconst (v := 3) C dL_law_1254 (by decide) ?_
                refine g_aload_n C dL_law_1255 rfl 11 rfl ?_
                refine g_iload C dL_law_1256 4 rfl ?_
                refine g_iload C dL_law_1258 3 rfl ?_
                refine g_iconst (v := 1) C dL_law_1260 (by decide) ?_
                refine q_mends (x := x) (ac := true) X J (by omega) (by omega) rfl dL_law_1261 (Nat.le_of_ble_eq_true rfl) (by omega) (by omega) (fun mk_17 fd_18 => ?_)
                obtain ⟨m2, hm2⟩ : ∃ m9 : Nat, m9 = (pfm (mgp cover (nI x) (nI y) (fun _ => 0) fd_15).1 true) := ⟨_, rfl⟩
                have hm2a := hgm fd_15 true
                rw [← hm2] at hm2a
                refine g_eqi (x := nI (pfm (mgp cover (nI x) (nI y) (fun _ => 0) fd_15).1 true)) (y := nI m2) (by rw [hm2]) ?_
                refine g_imul C dL_law_1264 ?_
                refine g_eqi (x := 3 * (nI m2)) (y := nI (3 * m2)) (by rw [show (3 : Int32) = nI 3 from rfl, pk_mul]) ?_
                refine g_iload C dL_law_1265 0 rfl ?_
                refine g_icmp_lt (tgt := 1340) C dL_law_1267 (by decide) (fun c_19 => by exfalso; rw [nI_ltI (by omega) (by omega)] at c_19; omega) (fun c_19 => ?_)
                rw [nI_ltI (by omega) (by omega)] at c_19
                refine g_aload_n C dL_law_1270 rfl 11 rfl ?_
                refine g_iload C dL_law_1271 4 rfl ?_
                refine g_iload C dL_law_1273 3 rfl ?_
                refine g_iconst (v := 0) C dL_law_1275 (by decide) ?_
                refine q_mends (x := x) (ac := false) X J (by omega) (by omega) rfl dL_law_1276 (Nat.le_of_ble_eq_true rfl) (by omega) (by omega) (fun mk_20 fd_21 => ?_)
                obtain ⟨m3, hm3⟩ : ∃ m9 : Nat, m9 = (pfm (mgp cover (nI x) (nI y) (fun _ => 0) fd_18).1 false) := ⟨_, rfl⟩
                have hm3a := hgm fd_18 false
                rw [← hm3] at hm3a
                refine g_eqi (x := nI (pfm (mgp cover (nI x) (nI y) (fun _ => 0) fd_18).1 false)) (y := nI m3) (by rw [hm3]) ?_
                refine g_iload C dL_law_1279 0 rfl ?_
                refine g_icmp_gt (tgt := 1340) C dL_law_1281 (by decide) (fun c_22 => by exfalso; rw [nI_ltI (by omega) (by omega)] at c_22; omega) (fun c_22 => ?_)
                rw [nI_ltI (by omega) (by omega)] at c_22
                refine g_iconst (v := 3) C dL_law_1284 (by decide) ?_
                refine g_aload_n C dL_law_1285 rfl 11 rfl ?_
                refine g_iload C dL_law_1286 4 rfl ?_
                refine g_iload C dL_law_1288 3 rfl ?_
                refine g_iconst (v := 0) C dL_law_1290 (by decide) ?_
                refine q_mends (x := x) (ac := false) X J (by omega) (by omega) rfl dL_law_1291 (Nat.le_of_ble_eq_true rfl) (by omega) (by omega) (fun mk_23 fd_24 => ?_)
                obtain ⟨m4, hm4⟩ : ∃ m9 : Nat, m9 = (pfm (mgp cover (nI x) (nI y) (fun _ => 0) fd_21).1 false) := ⟨_, rfl⟩
                have hm4a := hgm fd_21 false
                rw [← hm4] at hm4a
                refine g_eqi (x := nI (pfm (mgp cover (nI x) (nI y) (fun _ => 0) fd_21).1 false)) (y := nI m4) (by rw [hm4]) ?_
                refine g_imul C dL_law_1294 ?_
                refine g_eqi (x := 3 * (nI m4)) (y := nI (3 * m4)) (by rw [show (3 : Int32) = nI 3 from rfl, pk_mul]) ?_
                refine g_iload C dL_law_1295 0 rfl ?_
                refine g_icmp_lt (tgt := 1340) C dL_law_1297 (by decide) (fun c_25 => by exfalso; rw [nI_ltI (by omega) (by omega)] at c_25; omega) (fun c_25 => ?_)
                rw [nI_ltI (by omega) (by omega)] at c_25
                refine g_iload C dL_law_1300 2 rfl ?_
                refine g_if_eq (tgt := 1342) C dL_law_1302 (by decide) (fun c_26 => ?_) (fun c_26 => ?_)
                · skip
                  replace c_26 := gz0.mp c_26
                  refine g_iinc (v := nI (y + 1)) (lv' := [(18, .int (nI (y + 1))), (20, .int (nI g)), (16, .int (nI (sh + (if decide (colv np P cover (10 * y + x) = nI ja) then 1 else 0)))), (19, .int (gz (decide (cover (10 * y + x) = -1)))), (17, .int (nI x)), (15, .int (nI ja)), (14, .int (nI cv)), (11, .ref q), (4, .int (nI np)), (3, .int v), (2, .int (nI t)), (1, .ref h), (0, .ref b)]) C dL_law_1342 3 rfl (by exact nI_add _ 1) (by decide) rfl ?_
                  refine g_goto (tgt := 1088) C dL_law_1345 (by decide) ?_
                  refine g_sub [0, 4, 2, 5, 6, 7, 8, 9, 10, 11, 12] (lv' := [(18, .int (nI (y + 1))), (17, .int (nI x)), (16, .int (nI (sh + (if decide (colv np P cover (10 * y + x) = nI ja) then 1 else 0)))), (15, .int (nI ja)), (14, .int (nI cv)), (11, .ref q), (4, .int (nI np)), (3, .int v), (2, .int (nI t)), (1, .ref h), (0, .ref b)]) rfl ?_
                  refine g_more (k2 := k + 16 * (8 * x + (y + 1))) (n2 := n + 96 * (8 * x + (y + 1))) (by omega) (by omega) ?_
                  exact ih2 (y + 1) _ _ _ (by rw [hsh, cnt, Nat.add_assoc]) (by omega) (by omega)
                · skip
                  replace c_26 := gzn.mp c_26
                  refine g_iload C dL_law_1305 4 rfl ?_
                  refine g_bipush (v := 9) C dL_law_1307 (by decide) ?_
                  refine g_icmp_ge (tgt := 1342) C dL_law_1309 (by decide) (fun c_27 => ?_) (fun c_27 => ?_)
                  · skip
                    rw [show (9 : Int32) = nI 9 from rfl, nI_leI (by omega) (by omega)] at c_27
                    refine g_iinc (v := nI (y + 1)) (lv' := [(18, .int (nI (y + 1))), (20, .int (nI g)), (16, .int (nI (sh + (if decide (colv np P cover (10 * y + x) = nI ja) then 1 else 0)))), (19, .int (gz (decide (cover (10 * y + x) = -1)))), (17, .int (nI x)), (15, .int (nI ja)), (14, .int (nI cv)), (11, .ref q), (4, .int (nI np)), (3, .int v), (2, .int (nI t)), (1, .ref h), (0, .ref b)]) C dL_law_1342 3 rfl (by exact nI_add _ 1) (by decide) rfl ?_
                    refine g_goto (tgt := 1088) C dL_law_1345 (by decide) ?_
                    refine g_sub [0, 4, 2, 5, 6, 7, 8, 9, 10, 11, 12] (lv' := [(18, .int (nI (y + 1))), (17, .int (nI x)), (16, .int (nI (sh + (if decide (colv np P cover (10 * y + x) = nI ja) then 1 else 0)))), (15, .int (nI ja)), (14, .int (nI cv)), (11, .ref q), (4, .int (nI np)), (3, .int v), (2, .int (nI t)), (1, .ref h), (0, .ref b)]) rfl ?_
                    refine g_more (k2 := k + 16 * (8 * x + (y + 1))) (n2 := n + 96 * (8 * x + (y + 1))) (by omega) (by omega) ?_
                    exact ih2 (y + 1) _ _ _ (by rw [hsh, cnt, Nat.add_assoc]) (by omega) (by omega)
                  · skip
                    rw [show (9 : Int32) = nI 9 from rfl, nI_leI (by omega) (by omega)] at c_27
                    refine g_aload C dL_law_1312 7 rfl ?_
                    refine g_iload C dL_law_1314 4 rfl ?_
                    refine g_iconst (v := 1) C dL_law_1316 (by decide) ?_
                    refine g_iadd C dL_law_1317 ?_
                    refine g_eqi (x := (nI x) + 1) (y := nI (x + 1)) (by exact nI_add x 1) ?_
                    refine q_rowZ X (by omega) dL_law_1318 ?_
                    refine g_iload C dL_law_1319 3 rfl ?_
                    refine q_zald X (by omega) (by omega) dL_law_1321 ?_
                    refine g_eqi (x := F (x + 1) y) (y := gz (decide (0 ≤ cover (10 * y + (x + 1))))) (hF _ _ (by omega) (by omega)) ?_
                    refine g_if_ne (tgt := 1342) C dL_law_1322 (by decide) (fun c_28 => ?_) (fun c_28 => ?_)
                    · skip
                      replace c_28 := gzn.mp c_28
                      refine g_iinc (v := nI (y + 1)) (lv' := [(18, .int (nI (y + 1))), (20, .int (nI g)), (16, .int (nI (sh + (if decide (colv np P cover (10 * y + x) = nI ja) then 1 else 0)))), (19, .int (gz (decide (cover (10 * y + x) = -1)))), (17, .int (nI x)), (15, .int (nI ja)), (14, .int (nI cv)), (11, .ref q), (4, .int (nI np)), (3, .int v), (2, .int (nI t)), (1, .ref h), (0, .ref b)]) C dL_law_1342 3 rfl (by exact nI_add _ 1) (by decide) rfl ?_
                      refine g_goto (tgt := 1088) C dL_law_1345 (by decide) ?_
                      refine g_sub [0, 4, 2, 5, 6, 7, 8, 9, 10, 11, 12] (lv' := [(18, .int (nI (y + 1))), (17, .int (nI x)), (16, .int (nI (sh + (if decide (colv np P cover (10 * y + x) = nI ja) then 1 else 0)))), (15, .int (nI ja)), (14, .int (nI cv)), (11, .ref q), (4, .int (nI np)), (3, .int v), (2, .int (nI t)), (1, .ref h), (0, .ref b)]) rfl ?_
                      refine g_more (k2 := k + 16 * (8 * x + (y + 1))) (n2 := n + 96 * (8 * x + (y + 1))) (by omega) (by omega) ?_
                      exact ih2 (y + 1) _ _ _ (by rw [hsh, cnt, Nat.add_assoc]) (by omega) (by omega)
                    · skip
                      replace c_28 := gz0.mp c_28
                      refine g_aload_n C dL_law_1325 rfl 11 rfl ?_
                      refine g_iload C dL_law_1326 4 rfl ?_
                      refine g_iconst (v := 1) C dL_law_1328 (by decide) ?_
                      refine g_iadd C dL_law_1329 ?_
                      refine g_eqi (x := (nI x) + 1) (y := nI (x + 1)) (by exact nI_add x 1) ?_
                      refine g_iload C dL_law_1330 3 rfl ?_
                      refine q_gap (x := x + 1) X J (by omega) (by omega) dL_law_1332 (Nat.le_of_ble_eq_true rfl) (by omega) (by omega) (fun mk_29 fd_30 => ?_)
                      refine g_eqi (x := nI (mgp cover (nI (x + 1)) (nI y) (fun _ => 0) fd_24).2.2) (y := nI g) (by rw [hg]; exact congrArg nI (gap_nb (by omega) (by omega) (of_decide_eq_true c_26) (of_decide_eq_true (cov_h2 J (by omega) (of_decide_eq_false c_28)))).symm) ?_
                      refine g_iload C dL_law_1335 0 rfl ?_
                      refine g_icmp_eq (tgt := 1342) C dL_law_1337 (by decide) (fun c_31 => ?_) (fun c_31 => by exfalso; rw [nI_eq (by omega) (by omega)] at c_31; omega)
                      rw [nI_eq (by omega) (by omega)] at c_31
                      refine g_iinc (v := nI (y + 1)) (lv' := [(18, .int (nI (y + 1))), (20, .int (nI g)), (16, .int (nI (sh + (if decide (colv np P cover (10 * y + x) = nI ja) then 1 else 0)))), (19, .int (gz (decide (cover (10 * y + x) = -1)))), (17, .int (nI x)), (15, .int (nI ja)), (14, .int (nI cv)), (11, .ref q), (4, .int (nI np)), (3, .int v), (2, .int (nI t)), (1, .ref h), (0, .ref b)]) C dL_law_1342 3 rfl (by exact nI_add _ 1) (by decide) rfl ?_
                      refine g_goto (tgt := 1088) C dL_law_1345 (by decide) ?_
                      refine g_sub [0, 4, 2, 5, 6, 7, 8, 9, 10, 11, 12] (lv' := [(18, .int (nI (y + 1))), (17, .int (nI x)), (16, .int (nI (sh + (if decide (colv np P cover (10 * y + x) = nI ja) then 1 else 0)))), (15, .int (nI ja)), (14, .int (nI cv)), (11, .ref q), (4, .int (nI np)), (3, .int v), (2, .int (nI t)), (1, .ref h), (0, .ref b)]) rfl ?_
                      refine g_more (k2 := k + 16 * (8 * x + (y + 1))) (n2 := n + 96 * (8 * x + (y + 1))) (by omega) (by omega) ?_
                      exact ih2 (y + 1) _ _ _ (by rw [hsh, cnt, Nat.add_assoc]) (by omega) (by omega)
              · skip
                rw [show (0 : Int32) = nI 0 from rfl, nI_leI (by omega) (by omega)] at c_9
                refine g_goto (tgt := 1342) C dL_law_1202 (by decide) ?_
                refine g_iinc (v := nI (y + 1)) (lv' := [(18, .int (nI (y + 1))), (16, .int (nI (sh + (if decide (colv np P cover (10 * y + x) = nI ja) then 1 else 0)))), (19, .int (gz (decide (cover (10 * y + x) = -1)))), (17, .int (nI x)), (15, .int (nI ja)), (14, .int (nI cv)), (11, .ref q), (4, .int (nI np)), (3, .int v), (2, .int (nI t)), (1, .ref h), (0, .ref b)]) C dL_law_1342 2 rfl (by exact nI_add _ 1) (by decide) rfl ?_
                refine g_goto (tgt := 1088) C dL_law_1345 (by decide) ?_
                refine g_sub [0, 3, 1, 4, 5, 6, 7, 8, 9, 10, 11] (lv' := [(18, .int (nI (y + 1))), (17, .int (nI x)), (16, .int (nI (sh + (if decide (colv np P cover (10 * y + x) = nI ja) then 1 else 0)))), (15, .int (nI ja)), (14, .int (nI cv)), (11, .ref q), (4, .int (nI np)), (3, .int v), (2, .int (nI t)), (1, .ref h), (0, .ref b)]) rfl ?_
                refine g_more (k2 := k + 16 * (8 * x + (y + 1))) (n2 := n + 96 * (8 * x + (y + 1))) (by omega) (by omega) ?_
                exact ih2 (y + 1) _ _ _ (by rw [hsh, cnt, Nat.add_assoc]) (by omega) (by omega)
        refine g_sub [0, 1, 2, 3, 4, 5, 6, 7, 8, 9, 10] (lv' := [(18, .int 0), (17, .int (nI x)), (16, .int (nI sh)), (15, .int (nI ja)), (14, .int (nI cv)), (11, .ref q), (4, .int (nI np)), (3, .int v), (2, .int (nI t)), (1, .ref h), (0, .ref b)]) rfl ?_
        refine g_more (k2 := k + 16 * (8 * x + 0)) (n2 := n + 96 * (8 * x + 0)) (by omega) (by omega) ?_
        exact lp1088_4 9 0 sh _ _ hsh (by omega) (by omega)
  refine g_sub [0, 1, 2, 3, 4, 5, 6, 7, 8, 9] (lv' := [(17, .int 0), (16, .int 0), (15, .int (nI ja)), (14, .int (nI cv)), (11, .ref q), (4, .int (nI np)), (3, .int v), (2, .int (nI t)), (1, .ref h), (0, .ref b)]) rfl ?_
  refine g_more (k2 := k + 16 * (8 * 0)) (n2 := n + 96 * (8 * 0)) (by omega) (by omega) ?_
  exact lp1078_2 11 0 0 _ _ rfl (by omega) (by omega)
