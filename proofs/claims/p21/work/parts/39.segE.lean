set_option maxHeartbeats 4000000 in
set_option maxRecDepth 100000 in
theorem sg_E {p : Program} {l : Launch} {e : Env} {s : State} {m : MethodId} {args : Array Value} {below : List Frame} {meth : Method} {c : Code} {Q : State → Prop} {D : va_G} {A : Nat → Prop} {tys : List (ClassId × FieldType)} {rt : Option FieldType} {cI cP cZ cA cB : ClassId} {b L : Nat} {xs : Nat → Int32} {k n : Nat} {h np hr : Nat} {ad : Nat → Nat} {wet cover sun fs mk fd : Nat → Int32} {pcs : Nat → Option Nat} {pa : Nat → Nat} {P : Nat → Pd} {t cv ja sh : Nat} {v : Int32} (X : Cx p l s m args meth c D A tys rt cI cP cZ cA cB b L xs) (J : JV np wet cover sun P pcs pa) (ht : t < 20) (hcv : cv = cnt (fun c => decide (0 ≤ cover c)) 80) (hja : ja < 7) (hsh : sh = cnt (fun c => decide (colv np P cover c = nI ja)) 80) (hk : k + 20 ≤ 605351) (hn : n + 120 ≤ 7285716)
    (kk : G p l e room_1 s m args below meth c D A s.heap 21 (k + 20) (n + 120) Q 7 [(2, .int (nI (t + 1))), (1, .ref h), (0, .ref b)] [] (Wm cI cP h ad np hr wet cover sun fs mk fd pcs pa P [])) :
    G p l e room_1 s m args below meth c D A s.heap 21 k n Q 1354 [(16, .int (nI sh)), (15, .int (nI ja)), (14, .int (nI cv)), (4, .int (nI np)), (3, .int v), (2, .int (nI t)), (1, .ref h), (0, .ref b)] [] (Wm cI cP h ad np hr wet cover sun fs mk fd pcs pa P []) := by
  have C := X.C
  have hnp := J.1
  have hcv80 : cv ≤ 80 := by rw [hcv]; exact cnt_le _ _
  have hsh80 : sh ≤ 80 := by rw [hsh]; exact cnt_le _ _
  refine g_iload_n C dL_law_1354 rfl 4 rfl ?_
  refine g_iconst (v := 5) C dL_law_1355 (by decide) ?_
  refine g_ishr C dL_law_1356 ?_
  refine g_topi (fun z_1 _ => ?_)
  refine g_bipush (v := 7) C dL_law_1357 (by decide) ?_
  refine q_below (j := 7) X rfl (by omega) (by omega) dL_law_1359 (Nat.le_of_ble_eq_true rfl) (by omega) (by omega) (fun jo hjo => ?_)
  refine g_istore (lv' := [(17, .int (nI jo)), (16, .int (nI sh)), (15, .int (nI ja)), (14, .int (nI cv)), (4, .int (nI np)), (3, .int v), (2, .int (nI t)), (1, .ref h), (0, .ref b)]) C dL_law_1362 (by decide) rfl ?_
  refine g_aload_n C dL_law_1364 rfl 7 rfl ?_
  refine g_iload_n C dL_law_1365 rfl 5 rfl ?_
  refine g_iconst (v := 4) C dL_law_1366 (by decide) ?_
  refine g_ishr C dL_law_1367 ?_
  refine g_topi (fun z_2 _ => ?_)
  refine g_iconst (v := 4) C dL_law_1368 (by decide) ?_
  refine q_below (j := 4) X rfl (by omega) (by omega) dL_law_1369 (Nat.le_of_ble_eq_true rfl) (by omega) (by omega) (fun jk hjk => ?_)
  refine g_iload C dL_law_1372 2 rfl ?_
  refine g_iload C dL_law_1374 0 rfl ?_
  refine q_advise X J (by omega) (by omega) (by omega) dL_law_1376 (Nat.le_of_ble_eq_true rfl) (by omega) (by omega) ?_
  refine g_istore (lv' := [(18, .int ((advS np P wet cover jk (nI ja) (nI jo) np).1)), (17, .int (nI jo)), (16, .int (nI sh)), (15, .int (nI ja)), (14, .int (nI cv)), (4, .int (nI np)), (3, .int v), (2, .int (nI t)), (1, .ref h), (0, .ref b)]) C dL_law_1379 (by decide) rfl ?_
  rcases advS_spec (np := np) (P := P) (wet := wet) (cover := cover) (k := jk) (a := nI ja) (b := nI jo) np with had | ⟨jd, hjd, had, hls⟩
  · rw [had]
    refine g_aload_n C dL_law_1381 rfl 8 rfl ?_
    refine g_iconst (v := 0) C dL_law_1382 (by decide) ?_
    refine g_iload C dL_law_1383 3 rfl ?_
    refine g_iload C dL_law_1385 1 rfl ?_
    refine q_off (k9 := 0) X J (by omega) (by omega) (by omega) rfl dL_law_1387 (Nat.le_of_ble_eq_true rfl) (by omega) (by omega) ?_
    refine g_eqi (x := nI (cnt (offB np P cover 0 (nI ja) (nI jo)) 80)) (y := nI (80 - sh)) (by rw [off_k (Or.inl rfl), ← hsh]) ?_
    refine g_bipush (v := 80) C dL_law_1390 (by decide) ?_
    refine g_iload C dL_law_1392 2 rfl ?_
    refine g_isub C dL_law_1394 ?_
    refine g_eqi (x := 80 - (nI sh)) (y := nI (80 - sh)) (by rw [show (80 : Int32) = nI 80 from rfl, pk_sub (by omega)]) ?_
    refine g_icmp_ne (tgt := 1484) C dL_law_1395 (by decide) (fun c_3 => by exfalso; rw [nI_eq (by omega) (by omega)] at c_3; omega) (fun c_3 => ?_)
    rw [nI_eq (by omega) (by omega)] at c_3
    refine g_aload_n C dL_law_1398 rfl 8 rfl ?_
    refine g_iconst (v := 3) C dL_law_1399 (by decide) ?_
    refine g_iload C dL_law_1400 3 rfl ?_
    refine g_iload C dL_law_1402 1 rfl ?_
    refine q_off (k9 := 3) X J (by omega) (by omega) (by omega) rfl dL_law_1404 (Nat.le_of_ble_eq_true rfl) (by omega) (by omega) ?_
    obtain ⟨o3, ho3⟩ : ∃ m9 : Nat, m9 = cnt (offB np P cover 3 (nI ja) (nI jo)) 80 := ⟨_, rfl⟩
    have ho3a : o3 % 2 = 0 := by rw [ho3]; exact off_3
    have ho3b : o3 ≤ 80 := by rw [ho3]; exact cnt_le _ _
    refine g_eqi (x := nI (cnt (offB np P cover 3 (nI ja) (nI jo)) 80)) (y := nI o3) (by rw [ho3]) ?_
    refine g_iconst (v := 2) C dL_law_1407 (by decide) ?_
    refine g_irem C dL_law_1408 (by decide) ?_
    refine g_eqi (y := nI (o3 % 2)) (remI o3 2 (by omega) (by omega) (by omega) rfl) ?_
    refine g_if_ne (tgt := 1484) C dL_law_1409 (by decide) (fun c_4 => by exfalso; rw [show (0 : Int32) = nI 0 from rfl, nI_eq (by omega) (by omega)] at c_4; omega) (fun c_4 => ?_)
    rw [show (0 : Int32) = nI 0 from rfl, nI_eq (by omega) (by omega)] at c_4
    refine g_aload_n C dL_law_1412 rfl 8 rfl ?_
    refine g_iconst (v := 1) C dL_law_1413 (by decide) ?_
    refine g_iload C dL_law_1414 3 rfl ?_
    refine g_iload C dL_law_1416 3 rfl ?_
    refine q_off (k9 := 1) X J (by omega) (by omega) (by omega) rfl dL_law_1418 (Nat.le_of_ble_eq_true rfl) (by omega) (by omega) ?_
    refine g_eqi (x := nI (cnt (offB np P cover 1 (nI ja) (nI ja)) 80)) (y := nI (80 - sh)) (by rw [off_k (Or.inr ⟨by omega, rfl⟩), ← hsh]) ?_
    refine g_bipush (v := 80) C dL_law_1421 (by decide) ?_
    refine g_iload C dL_law_1423 2 rfl ?_
    refine g_isub C dL_law_1425 ?_
    refine g_eqi (x := 80 - (nI sh)) (y := nI (80 - sh)) (by rw [show (80 : Int32) = nI 80 from rfl, pk_sub (by omega)]) ?_
    refine g_icmp_ne (tgt := 1484) C dL_law_1426 (by decide) (fun c_5 => by exfalso; rw [nI_eq (by omega) (by omega)] at c_5; omega) (fun c_5 => ?_)
    rw [nI_eq (by omega) (by omega)] at c_5
    refine g_aload_n C dL_law_1429 rfl 8 rfl ?_
    refine g_iconst (v := 2) C dL_law_1430 (by decide) ?_
    refine g_iload C dL_law_1431 3 rfl ?_
    refine g_iload C dL_law_1433 3 rfl ?_
    refine q_off (k9 := 2) X J (by omega) (by omega) (by omega) rfl dL_law_1435 (Nat.le_of_ble_eq_true rfl) (by omega) (by omega) ?_
    refine g_eqi (x := nI (cnt (offB np P cover 2 (nI ja) (nI ja)) 80)) (y := nI (80 - sh)) (by rw [off_k (Or.inr ⟨by omega, rfl⟩), ← hsh]) ?_
    refine g_bipush (v := 80) C dL_law_1438 (by decide) ?_
    refine g_iload C dL_law_1440 2 rfl ?_
    refine g_isub C dL_law_1442 ?_
    refine g_eqi (x := 80 - (nI sh)) (y := nI (80 - sh)) (by rw [show (80 : Int32) = nI 80 from rfl, pk_sub (by omega)]) ?_
    refine g_icmp_ne (tgt := 1484) C dL_law_1443 (by decide) (fun c_6 => by exfalso; rw [nI_eq (by omega) (by omega)] at c_6; omega) (fun c_6 => ?_)
    rw [nI_eq (by omega) (by omega)] at c_6
    refine g_iload C dL_law_1446 0 rfl ?_
    refine g_iload C dL_law_1448 5 rfl ?_
    refine g_icmp_ge (tgt := 1484) C dL_law_1450 (by decide) (fun c_7 => by exfalso; exact nle_m1 (by omega) c_7) (fun c_7 => ?_)
    refine g_iload C dL_law_1453 0 rfl ?_
    refine g_if_lt (tgt := 1469) C dL_law_1455 (by decide) (fun c_8 => ?_) (fun c_8 => by exfalso; exact absurd c_8 (by decide))
    refine g_aload_n C dL_law_1469 rfl 8 rfl ?_
    refine q_share X J dL_law_1470 (Nat.le_of_ble_eq_true rfl) (by omega) (by omega) ?_
    refine g_iload C dL_law_1473 4 rfl ?_
    refine g_i2d C dL_law_1475 ?_
    refine g_ldc2d (v := 4635329916471083008) C dL_law_1476 k_law_d80 ?_
    refine g_ddiv C dL_law_1479 (shareOk cv (by omega)) ?_
    refine g_dcmp C dL_law_1480 ?_
    refine g_if_eq (tgt := 1486) C dL_law_1481 (by decide) (fun c_9 => ?_) (fun c_9 => by exfalso; exact c_9 (share_eq hcv (cnt_le _ _)))
    refine g_iinc (v := nI (t + 1)) (lv' := [(2, .int (nI (t + 1))), (18, .int (-1)), (17, .int (nI jo)), (16, .int (nI sh)), (15, .int (nI ja)), (14, .int (nI cv)), (4, .int (nI np)), (3, .int v), (1, .ref h), (0, .ref b)]) C dL_law_1486 7 rfl (by exact nI_add _ 1) (by decide) rfl ?_
    refine g_goto (tgt := 7) C dL_law_1489 (by decide) ?_
    refine g_sub [0, 8, 9] (lv' := [(2, .int (nI (t + 1))), (1, .ref h), (0, .ref b)]) rfl ?_
    refine g_more (k2 := k + 20) (n2 := n + 120) (by omega) (by omega) ?_
    exact kk
  · rw [had]
    refine g_aload_n C dL_law_1381 rfl 8 rfl ?_
    refine g_iconst (v := 0) C dL_law_1382 (by decide) ?_
    refine g_iload C dL_law_1383 3 rfl ?_
    refine g_iload C dL_law_1385 1 rfl ?_
    refine q_off (k9 := 0) X J (by omega) (by omega) (by omega) rfl dL_law_1387 (Nat.le_of_ble_eq_true rfl) (by omega) (by omega) ?_
    refine g_eqi (x := nI (cnt (offB np P cover 0 (nI ja) (nI jo)) 80)) (y := nI (80 - sh)) (by rw [off_k (Or.inl rfl), ← hsh]) ?_
    refine g_bipush (v := 80) C dL_law_1390 (by decide) ?_
    refine g_iload C dL_law_1392 2 rfl ?_
    refine g_isub C dL_law_1394 ?_
    refine g_eqi (x := 80 - (nI sh)) (y := nI (80 - sh)) (by rw [show (80 : Int32) = nI 80 from rfl, pk_sub (by omega)]) ?_
    refine g_icmp_ne (tgt := 1484) C dL_law_1395 (by decide) (fun c_10 => by exfalso; rw [nI_eq (by omega) (by omega)] at c_10; omega) (fun c_10 => ?_)
    rw [nI_eq (by omega) (by omega)] at c_10
    refine g_aload_n C dL_law_1398 rfl 8 rfl ?_
    refine g_iconst (v := 3) C dL_law_1399 (by decide) ?_
    refine g_iload C dL_law_1400 3 rfl ?_
    refine g_iload C dL_law_1402 1 rfl ?_
    refine q_off (k9 := 3) X J (by omega) (by omega) (by omega) rfl dL_law_1404 (Nat.le_of_ble_eq_true rfl) (by omega) (by omega) ?_
    obtain ⟨o3, ho3⟩ : ∃ m9 : Nat, m9 = cnt (offB np P cover 3 (nI ja) (nI jo)) 80 := ⟨_, rfl⟩
    have ho3a : o3 % 2 = 0 := by rw [ho3]; exact off_3
    have ho3b : o3 ≤ 80 := by rw [ho3]; exact cnt_le _ _
    refine g_eqi (x := nI (cnt (offB np P cover 3 (nI ja) (nI jo)) 80)) (y := nI o3) (by rw [ho3]) ?_
    refine g_iconst (v := 2) C dL_law_1407 (by decide) ?_
    refine g_irem C dL_law_1408 (by decide) ?_
    refine g_eqi (y := nI (o3 % 2)) (remI o3 2 (by omega) (by omega) (by omega) rfl) ?_
    refine g_if_ne (tgt := 1484) C dL_law_1409 (by decide) (fun c_11 => by exfalso; rw [show (0 : Int32) = nI 0 from rfl, nI_eq (by omega) (by omega)] at c_11; omega) (fun c_11 => ?_)
    rw [show (0 : Int32) = nI 0 from rfl, nI_eq (by omega) (by omega)] at c_11
    refine g_aload_n C dL_law_1412 rfl 8 rfl ?_
    refine g_iconst (v := 1) C dL_law_1413 (by decide) ?_
    refine g_iload C dL_law_1414 3 rfl ?_
    refine g_iload C dL_law_1416 3 rfl ?_
    refine q_off (k9 := 1) X J (by omega) (by omega) (by omega) rfl dL_law_1418 (Nat.le_of_ble_eq_true rfl) (by omega) (by omega) ?_
    refine g_eqi (x := nI (cnt (offB np P cover 1 (nI ja) (nI ja)) 80)) (y := nI (80 - sh)) (by rw [off_k (Or.inr ⟨by omega, rfl⟩), ← hsh]) ?_
    refine g_bipush (v := 80) C dL_law_1421 (by decide) ?_
    refine g_iload C dL_law_1423 2 rfl ?_
    refine g_isub C dL_law_1425 ?_
    refine g_eqi (x := 80 - (nI sh)) (y := nI (80 - sh)) (by rw [show (80 : Int32) = nI 80 from rfl, pk_sub (by omega)]) ?_
    refine g_icmp_ne (tgt := 1484) C dL_law_1426 (by decide) (fun c_12 => by exfalso; rw [nI_eq (by omega) (by omega)] at c_12; omega) (fun c_12 => ?_)
    rw [nI_eq (by omega) (by omega)] at c_12
    refine g_aload_n C dL_law_1429 rfl 8 rfl ?_
    refine g_iconst (v := 2) C dL_law_1430 (by decide) ?_
    refine g_iload C dL_law_1431 3 rfl ?_
    refine g_iload C dL_law_1433 3 rfl ?_
    refine q_off (k9 := 2) X J (by omega) (by omega) (by omega) rfl dL_law_1435 (Nat.le_of_ble_eq_true rfl) (by omega) (by omega) ?_
    refine g_eqi (x := nI (cnt (offB np P cover 2 (nI ja) (nI ja)) 80)) (y := nI (80 - sh)) (by rw [off_k (Or.inr ⟨by omega, rfl⟩), ← hsh]) ?_
    refine g_bipush (v := 80) C dL_law_1438 (by decide) ?_
    refine g_iload C dL_law_1440 2 rfl ?_
    refine g_isub C dL_law_1442 ?_
    refine g_eqi (x := 80 - (nI sh)) (y := nI (80 - sh)) (by rw [show (80 : Int32) = nI 80 from rfl, pk_sub (by omega)]) ?_
    refine g_icmp_ne (tgt := 1484) C dL_law_1443 (by decide) (fun c_13 => by exfalso; rw [nI_eq (by omega) (by omega)] at c_13; omega) (fun c_13 => ?_)
    rw [nI_eq (by omega) (by omega)] at c_13
    refine g_iload C dL_law_1446 0 rfl ?_
    refine g_iload C dL_law_1448 5 rfl ?_
    refine g_icmp_ge (tgt := 1484) C dL_law_1450 (by decide) (fun c_14 => by exfalso; rw [nI_leI (by omega) (by omega)] at c_14; omega) (fun c_14 => ?_)
    rw [nI_leI (by omega) (by omega)] at c_14
    refine g_iload C dL_law_1453 0 rfl ?_
    refine g_if_lt (tgt := 1469) C dL_law_1455 (by decide) (fun c_15 => by exfalso; rw [show (0 : Int32) = nI 0 from rfl, nI_ltI (by omega) (by omega)] at c_15; omega) (fun c_15 => ?_)
    rw [show (0 : Int32) = nI 0 from rfl, nI_ltI (by omega) (by omega)] at c_15
    refine g_aload_n C dL_law_1458 rfl 8 rfl ?_
    refine g_iload C dL_law_1459 0 rfl ?_
    refine g_bipush (v := 6) C dL_law_1461 (by decide) ?_
    refine q_piece (w := 6) (v := jd) X J (by omega) (by omega) rfl dL_law_1463 (Nat.le_of_ble_eq_true rfl) (by omega) (by omega) ?_
    refine g_eqi (y := gz (lsp (P jd) wet)) rfl ?_
    refine g_eqi (x := gz (lsp (P jd) wet)) (y := 1) (by rw [hls]; rfl) ?_
    refine g_if_eq (tgt := 1484) C dL_law_1466 (by decide) (fun c_16 => by exfalso; exact absurd c_16 (by decide)) (fun c_16 => ?_)
    refine g_aload_n C dL_law_1469 rfl 8 rfl ?_
    refine q_share X J dL_law_1470 (Nat.le_of_ble_eq_true rfl) (by omega) (by omega) ?_
    refine g_iload C dL_law_1473 4 rfl ?_
    refine g_i2d C dL_law_1475 ?_
    refine g_ldc2d (v := 4635329916471083008) C dL_law_1476 k_law_d80 ?_
    refine g_ddiv C dL_law_1479 (shareOk cv (by omega)) ?_
    refine g_dcmp C dL_law_1480 ?_
    refine g_if_eq (tgt := 1486) C dL_law_1481 (by decide) (fun c_17 => ?_) (fun c_17 => by exfalso; exact c_17 (share_eq hcv (cnt_le _ _)))
    refine g_iinc (v := nI (t + 1)) (lv' := [(2, .int (nI (t + 1))), (18, .int (nI jd)), (17, .int (nI jo)), (16, .int (nI sh)), (15, .int (nI ja)), (14, .int (nI cv)), (4, .int (nI np)), (3, .int v), (1, .ref h), (0, .ref b)]) C dL_law_1486 7 rfl (by exact nI_add _ 1) (by decide) rfl ?_
    refine g_goto (tgt := 7) C dL_law_1489 (by decide) ?_
    refine g_sub [0, 8, 9] (lv' := [(2, .int (nI (t + 1))), (1, .ref h), (0, .ref b)]) rfl ?_
    refine g_more (k2 := k + 20) (n2 := n + 120) (by omega) (by omega) ?_
    exact kk
