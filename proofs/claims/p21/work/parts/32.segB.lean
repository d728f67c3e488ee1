set_option maxHeartbeats 4000000 in
set_option maxRecDepth 100000 in
theorem sg_cmp2 {p : Program} {l : Launch} {e : Env} {s : State} {m : MethodId} {args : Array Value} {below : List Frame} {meth : Method} {c : Code} {Q : State → Prop} {D : va_G} {A : Nat → Prop} {tys : List (ClassId × FieldType)} {rt : Option FieldType} {cI cP cZ cA cB : ClassId} {b L : Nat} {xs : Nat → Int32} {k n : Nat} {h np hr : Nat} {ad : Nat → Nat} {wet cover sun fs mk fd : Nat → Int32} {pcs : Nat → Option Nat} {pa : Nat → Nat} {P : Nat → Pd} {t pp q : Nat} {v : Int32} {r : Nat → Nat} {F : Nat → Nat → Int32} {w0 : Nat → Int32} {il : Bool} (X : Cx p l s m args meth c D A tys rt cI cP cZ cA cB b L xs) (J : JV np wet cover sun P pcs pa) (hF : ∀ i j, i ≤ 9 → j ≤ 7 → F i j = w0 (10 * j + i)) (hle : ∀ c, c < 80 → w0 c - wet c = 0 ∨ (w0 c - wet c = 1 ∧ cover c = nI pp)) (hk : k + 330 ≤ 605351) (hn : n + 2000 ≤ 7285716)
    (kk : G p l e room_1 s m args below meth c D A s.heap 21 (k + 330) (n + 2000) Q 746 [(3, .int v), (2, .int (nI t)), (1, .ref h), (0, .ref b)] [] (Wm cI cP h ad np hr wet cover sun fs mk fd pcs pa P [])) :
    G p l e room_1 s m args below meth c D A s.heap 21 k n Q 457 [(10, .int 2), (7, .int (gz il)), (6, .int (nI pp)), (5, .ref q), (3, .int v), (2, .int (nI t)), (1, .ref h), (0, .ref b)] [] (Wm cI cP h ad np hr wet cover sun fs mk fd pcs pa P ((Mt cA cI q r F))) := by
  have C := X.C
  refine g_iconst (v := 0) C dL_law_457 (by decide) ?_
  refine g_istore (lv' := [(13, .int 0), (10, .int 2), (7, .int (gz il)), (6, .int (nI pp)), (5, .ref q), (3, .int v), (2, .int (nI t)), (1, .ref h), (0, .ref b)]) C dL_law_458 (by decide) rfl ?_
  have lp460_1 : ∀ (n9 : Nat) (x : Nat) (hx : x ≤ 10) (hn9 : 11 ≤ x + n9), G p l e room_1 s m args below meth c D A s.heap 21 (k + 4 * (8 * x)) (n + 24 * (8 * x)) Q 460 [(13, .int (nI x)), (10, .int 2), (7, .int (gz il)), (6, .int (nI pp)), (5, .ref q), (3, .int v), (2, .int (nI t)), (1, .ref h), (0, .ref b)] [] (Wm cI cP h ad np hr wet cover sun fs mk fd pcs pa P ((Mt cA cI q r F))) := by
    intro n9
    induction n9 with
    | zero =>
      intro x hx hn9
      exfalso; omega
    | succ n9 ih =>
      intro x hx hn9
      refine g_iload C dL_law_460 0 rfl ?_
      refine g_bipush (v := 10) C dL_law_462 (by decide) ?_
      refine g_icmp_ge (tgt := 572) C dL_law_464 (by decide) (fun c_2 => ?_) (fun c_2 => ?_)
      · skip
        rw [show (10 : Int32) = nI 10 from rfl, nI_leI (by omega) (by omega)] at c_2
        refine g_goto (tgt := 746) C dL_law_572 (by decide) ?_
        refine g_sub [5, 6, 7, 8] (lv' := [(3, .int v), (2, .int (nI t)), (1, .ref h), (0, .ref b)]) rfl ?_
        refine g_more (k2 := k + 330) (n2 := n + 2000) (by omega) (by omega) ?_
        refine g_less (ws' := (Wm cI cP h ad np hr wet cover sun fs mk fd pcs pa P [])) tl_less ?_
        exact kk
      · skip
        rw [show (10 : Int32) = nI 10 from rfl, nI_leI (by omega) (by omega)] at c_2
        refine g_iconst (v := 0) C dL_law_467 (by decide) ?_
        refine g_istore (lv' := [(14, .int 0), (13, .int (nI x)), (10, .int 2), (7, .int (gz il)), (6, .int (nI pp)), (5, .ref q), (3, .int v), (2, .int (nI t)), (1, .ref h), (0, .ref b)]) C dL_law_468 (by decide) rfl ?_
        have lp470_3 : ∀ (n9 : Nat) (y : Nat) (hy : y ≤ 8) (hn8 : 9 ≤ y + n9), G p l e room_1 s m args below meth c D A s.heap 21 (k + 4 * (8 * x + y)) (n + 24 * (8 * x + y)) Q 470 [(14, .int (nI y)), (13, .int (nI x)), (10, .int 2), (7, .int (gz il)), (6, .int (nI pp)), (5, .ref q), (3, .int v), (2, .int (nI t)), (1, .ref h), (0, .ref b)] [] (Wm cI cP h ad np hr wet cover sun fs mk fd pcs pa P ((Mt cA cI q r F))) := by
          intro n9
          induction n9 with
          | zero =>
            intro y hy hn8
            exfalso; omega
          | succ n9 ih2 =>
            intro y hy hn8
            refine g_iload C dL_law_470 0 rfl ?_
            refine g_bipush (v := 8) C dL_law_472 (by decide) ?_
            refine g_icmp_ge (tgt := 566) C dL_law_474 (by decide) (fun c_4 => ?_) (fun c_4 => ?_)
            · skip
              rw [show (8 : Int32) = nI 8 from rfl, nI_leI (by omega) (by omega)] at c_4
              refine g_iinc (v := nI (x + 1)) (lv' := [(13, .int (nI (x + 1))), (14, .int (nI y)), (10, .int 2), (7, .int (gz il)), (6, .int (nI pp)), (5, .ref q), (3, .int v), (2, .int (nI t)), (1, .ref h), (0, .ref b)]) C dL_law_566 1 rfl (by exact nI_add _ 1) (by decide) rfl ?_
              refine g_goto (tgt := 460) C dL_law_569 (by decide) ?_
              refine g_sub [0, 2, 3, 4, 5, 6, 7, 8, 9] (lv' := [(13, .int (nI (x + 1))), (10, .int 2), (7, .int (gz il)), (6, .int (nI pp)), (5, .ref q), (3, .int v), (2, .int (nI t)), (1, .ref h), (0, .ref b)]) rfl ?_
              refine g_more (k2 := k + 4 * (8 * (x + 1))) (n2 := n + 24 * (8 * (x + 1))) (by omega) (by omega) ?_
              exact ih (x + 1) (by omega) (by omega)
            · skip
              rw [show (8 : Int32) = nI 8 from rfl, nI_leI (by omega) (by omega)] at c_4
              refine g_aload C dL_law_477 5 rfl ?_
              refine g_iload C dL_law_479 1 rfl ?_
              refine q_rowI X (by omega) dL_law_481 ?_
              refine g_iload C dL_law_482 0 rfl ?_
              refine q_iald X (by omega) (by omega) dL_law_484 ?_
              refine g_eqi (x := F x y) (y := w0 (10 * y + x)) (hF _ _ (by omega) (by omega)) ?_
              refine g_aload_n C dL_law_485 rfl 8 rfl ?_
              refine g_iload C dL_law_486 1 rfl ?_
              refine g_iload C dL_law_488 0 rfl ?_
              refine g_iconst (v := 0) C dL_law_490 (by decide) ?_
              refine q_cell (w := 0) X J (by omega) (by omega) (by omega) rfl dL_law_491 (Nat.le_of_ble_eq_true rfl) (by omega) (by omega) ?_
              refine g_eqi (y := wet (10 * y + x)) rfl ?_
              refine g_isub C dL_law_494 ?_
              refine g_istore (lv' := [(15, .int ((w0 (10 * y + x)) - (wet (10 * y + x)))), (14, .int (nI y)), (13, .int (nI x)), (10, .int 2), (7, .int (gz il)), (6, .int (nI pp)), (5, .ref q), (3, .int v), (2, .int (nI t)), (1, .ref h), (0, .ref b)]) C dL_law_495 (by decide) rfl ?_
              refine g_iload C dL_law_497 0 rfl ?_
              refine g_if_eq (tgt := 560) C dL_law_499 (by decide) (fun c_5 => ?_) (fun c_5 => ?_)
              · skip
                refine g_iinc (v := nI (y + 1)) (lv' := [(14, .int (nI (y + 1))), (15, .int ((w0 (10 * y + x)) - (wet (10 * y + x)))), (13, .int (nI x)), (10, .int 2), (7, .int (gz il)), (6, .int (nI pp)), (5, .ref q), (3, .int v), (2, .int (nI t)), (1, .ref h), (0, .ref b)]) C dL_law_560 1 rfl (by exact nI_add _ 1) (by decide) rfl ?_
                refine g_goto (tgt := 470) C dL_law_563 (by decide) ?_
                refine g_sub [0, 2, 3, 4, 5, 6, 7, 8, 9, 10] (lv' := [(14, .int (nI (y + 1))), (13, .int (nI x)), (10, .int 2), (7, .int (gz il)), (6, .int (nI pp)), (5, .ref q), (3, .int v), (2, .int (nI t)), (1, .ref h), (0, .ref b)]) rfl ?_
                refine g_more (k2 := k + 4 * (8 * x + (y + 1))) (n2 := n + 24 * (8 * x + (y + 1))) (by omega) (by omega) ?_
                exact ih2 (y + 1) (by omega) (by omega)
              · skip
                refine g_iload C dL_law_502 3 rfl ?_
                refine g_iconst (v := 3) C dL_law_504 (by decide) ?_
                refine g_icmp_eq (tgt := 558) C dL_law_505 (by decide) (fun c_6 => by exfalso; exact absurd c_6 (by decide)) (fun c_6 => ?_)
                refine g_iload C dL_law_508 3 rfl ?_
                refine g_iconst (v := 2) C dL_law_510 (by decide) ?_
                refine g_icmp_ne (tgt := 534) C dL_law_511 (by decide) (fun c_7 => by exfalso; exact absurd c_7 (by decide)) (fun c_7 => ?_)
                refine g_iload C dL_law_514 0 rfl ?_
                refine g_iconst (v := 1) C dL_law_516 (by decide) ?_
                refine g_icmp_ne (tgt := 558) C dL_law_517 (by decide) (fun c_8 => by exfalso; exact c_8 ((hle (10 * y + x) (by omega)).resolve_left c_5).1) (fun c_8 => ?_)
                refine g_aload_n C dL_law_520 rfl 9 rfl ?_
                refine g_iload C dL_law_521 2 rfl ?_
                refine g_iload C dL_law_523 1 rfl ?_
                refine g_iconst (v := 1) C dL_law_525 (by decide) ?_
                refine q_cell (w := 1) X J (by omega) (by omega) (by omega) rfl dL_law_526 (Nat.le_of_ble_eq_true rfl) (by omega) (by omega) ?_
                refine g_eqi (y := cover (10 * y + x)) rfl ?_
                refine g_iload C dL_law_529 5 rfl ?_
                refine g_icmp_ne (tgt := 558) C dL_law_531 (by decide) (fun c_9 => by exfalso; exact c_9 ((hle (10 * y + x) (by omega)).resolve_left c_5).2) (fun c_9 => ?_)
                refine g_iload C dL_law_534 3 rfl ?_
                refine g_iconst (v := 4) C dL_law_536 (by decide) ?_
                refine g_icmp_ne (tgt := 560) C dL_law_537 (by decide) (fun c_10 => ?_) (fun c_10 => by exfalso; exact absurd c_10 (by decide))
                refine g_iinc (v := nI (y + 1)) (lv' := [(14, .int (nI (y + 1))), (15, .int ((w0 (10 * y + x)) - (wet (10 * y + x)))), (13, .int (nI x)), (10, .int 2), (7, .int (gz il)), (6, .int (nI pp)), (5, .ref q), (3, .int v), (2, .int (nI t)), (1, .ref h), (0, .ref b)]) C dL_law_560 1 rfl (by exact nI_add _ 1) (by decide) rfl ?_
                refine g_goto (tgt := 470) C dL_law_563 (by decide) ?_
                refine g_sub [0, 2, 3, 4, 5, 6, 7, 8, 9, 10] (lv' := [(14, .int (nI (y + 1))), (13, .int (nI x)), (10, .int 2), (7, .int (gz il)), (6, .int (nI pp)), (5, .ref q), (3, .int v), (2, .int (nI t)), (1, .ref h), (0, .ref b)]) rfl ?_
                refine g_more (k2 := k + 4 * (8 * x + (y + 1))) (n2 := n + 24 * (8 * x + (y + 1))) (by omega) (by omega) ?_
                exact ih2 (y + 1) (by omega) (by omega)
        refine g_sub [0, 1, 2, 3, 4, 5, 6, 7, 8, 9] (lv' := [(14, .int 0), (13, .int (nI x)), (10, .int 2), (7, .int (gz il)), (6, .int (nI pp)), (5, .ref q), (3, .int v), (2, .int (nI t)), (1, .ref h), (0, .ref b)]) rfl ?_
        refine g_more (k2 := k + 4 * (8 * x + 0)) (n2 := n + 24 * (8 * x + 0)) (by omega) (by omega) ?_
        exact lp470_3 9 0 (by omega) (by omega)
  refine g_sub [0, 1, 2, 3, 4, 5, 6, 7, 8] (lv' := [(13, .int 0), (10, .int 2), (7, .int (gz il)), (6, .int (nI pp)), (5, .ref q), (3, .int v), (2, .int (nI t)), (1, .ref h), (0, .ref b)]) rfl ?_
  refine g_more (k2 := k + 4 * (8 * 0)) (n2 := n + 24 * (8 * 0)) (by omega) (by omega) ?_
  exact lp460_1 11 0 (by omega) (by omega)
set_option maxHeartbeats 4000000 in
set_option maxRecDepth 100000 in
theorem sg_cmp3 {p : Program} {l : Launch} {e : Env} {s : State} {m : MethodId} {args : Array Value} {below : List Frame} {meth : Method} {c : Code} {Q : State → Prop} {D : va_G} {A : Nat → Prop} {tys : List (ClassId × FieldType)} {rt : Option FieldType} {cI cP cZ cA cB : ClassId} {b L : Nat} {xs : Nat → Int32} {k n : Nat} {h np hr : Nat} {ad : Nat → Nat} {wet cover sun fs mk fd : Nat → Int32} {pcs : Nat → Option Nat} {pa : Nat → Nat} {P : Nat → Pd} {t pp q : Nat} {v : Int32} {r : Nat → Nat} {F : Nat → Nat → Int32} {w0 : Nat → Int32} {il : Bool} (X : Cx p l s m args meth c D A tys rt cI cP cZ cA cB b L xs) (J : JV np wet cover sun P pcs pa) (hF : ∀ i j, i ≤ 9 → j ≤ 7 → F i j = w0 (10 * j + i)) (hle : ∀ c, c < 80 → w0 c - wet c = 0) (hk : k + 330 ≤ 605351) (hn : n + 2000 ≤ 7285716)
    (kk : G p l e room_1 s m args below meth c D A s.heap 21 (k + 330) (n + 2000) Q 746 [(3, .int v), (2, .int (nI t)), (1, .ref h), (0, .ref b)] [] (Wm cI cP h ad np hr wet cover sun fs mk fd pcs pa P [])) :
    G p l e room_1 s m args below meth c D A s.heap 21 k n Q 457 [(10, .int 3), (7, .int (gz il)), (6, .int (nI pp)), (5, .ref q), (3, .int v), (2, .int (nI t)), (1, .ref h), (0, .ref b)] [] (Wm cI cP h ad np hr wet cover sun fs mk fd pcs pa P ((Mt cA cI q r F))) := by
  have C := X.C
  refine g_iconst (v := 0) C dL_law_457 (by decide) ?_
  refine g_istore (lv' := [(13, .int 0), (10, .int 3), (7, .int (gz il)), (6, .int (nI pp)), (5, .ref q), (3, .int v), (2, .int (nI t)), (1, .ref h), (0, .ref b)]) C dL_law_458 (by decide) rfl ?_
  have lp460_1 : ∀ (n9 : Nat) (x : Nat) (hx : x ≤ 10) (hn9 : 11 ≤ x + n9), G p l e room_1 s m args below meth c D A s.heap 21 (k + 4 * (8 * x)) (n + 24 * (8 * x)) Q 460 [(13, .int (nI x)), (10, .int 3), (7, .int (gz il)), (6, .int (nI pp)), (5, .ref q), (3, .int v), (2, .int (nI t)), (1, .ref h), (0, .ref b)] [] (Wm cI cP h ad np hr wet cover sun fs mk fd pcs pa P ((Mt cA cI q r F))) := by
    intro n9
    induction n9 with
    | zero =>
      intro x hx hn9
      exfalso; omega
    | succ n9 ih =>
      intro x hx hn9
      refine g_iload C dL_law_460 0 rfl ?_
      refine g_bipush (v := 10) C dL_law_462 (by decide) ?_
      refine g_icmp_ge (tgt := 572) C dL_law_464 (by decide) (fun c_2 => ?_) (fun c_2 => ?_)
      · skip
        rw [show (10 : Int32) = nI 10 from rfl, nI_leI (by omega) (by omega)] at c_2
        refine g_goto (tgt := 746) C dL_law_572 (by decide) ?_
        refine g_sub [5, 6, 7, 8] (lv' := [(3, .int v), (2, .int (nI t)), (1, .ref h), (0, .ref b)]) rfl ?_
        refine g_more (k2 := k + 330) (n2 := n + 2000) (by omega) (by omega) ?_
        refine g_less (ws' := (Wm cI cP h ad np hr wet cover sun fs mk fd pcs pa P [])) tl_less ?_
        exact kk
      · skip
        rw [show (10 : Int32) = nI 10 from rfl, nI_leI (by omega) (by omega)] at c_2
        refine g_iconst (v := 0) C dL_law_467 (by decide) ?_
        refine g_istore (lv' := [(14, .int 0), (13, .int (nI x)), (10, .int 3), (7, .int (gz il)), (6, .int (nI pp)), (5, .ref q), (3, .int v), (2, .int (nI t)), (1, .ref h), (0, .ref b)]) C dL_law_468 (by decide) rfl ?_
        have lp470_3 : ∀ (n9 : Nat) (y : Nat) (hy : y ≤ 8) (hn8 : 9 ≤ y + n9), G p l e room_1 s m args below meth c D A s.heap 21 (k + 4 * (8 * x + y)) (n + 24 * (8 * x + y)) Q 470 [(14, .int (nI y)), (13, .int (nI x)), (10, .int 3), (7, .int (gz il)), (6, .int (nI pp)), (5, .ref q), (3, .int v), (2, .int (nI t)), (1, .ref h), (0, .ref b)] [] (Wm cI cP h ad np hr wet cover sun fs mk fd pcs pa P ((Mt cA cI q r F))) := by
          intro n9
          induction n9 with
          | zero =>
            intro y hy hn8
            exfalso; omega
          | succ n9 ih2 =>
            intro y hy hn8
            refine g_iload C dL_law_470 0 rfl ?_
            refine g_bipush (v := 8) C dL_law_472 (by decide) ?_
            refine g_icmp_ge (tgt := 566) C dL_law_474 (by decide) (fun c_4 => ?_) (fun c_4 => ?_)
            · skip
              rw [show (8 : Int32) = nI 8 from rfl, nI_leI (by omega) (by omega)] at c_4
              refine g_iinc (v := nI (x + 1)) (lv' := [(13, .int (nI (x + 1))), (14, .int (nI y)), (10, .int 3), (7, .int (gz il)), (6, .int (nI pp)), (5, .ref q), (3, .int v), (2, .int (nI t)), (1, .ref h), (0, .ref b)]) C dL_law_566 1 rfl (by exact nI_add _ 1) (by decide) rfl ?_
              refine g_goto (tgt := 460) C dL_law_569 (by decide) ?_
              refine g_sub [0, 2, 3, 4, 5, 6, 7, 8, 9] (lv' := [(13, .int (nI (x + 1))), (10, .int 3), (7, .int (gz il)), (6, .int (nI pp)), (5, .ref q), (3, .int v), (2, .int (nI t)), (1, .ref h), (0, .ref b)]) rfl ?_
              refine g_more (k2 := k + 4 * (8 * (x + 1))) (n2 := n + 24 * (8 * (x + 1))) (by omega) (by omega) ?_
              exact ih (x + 1) (by omega) (by omega)
            · skip
              rw [show (8 : Int32) = nI 8 from rfl, nI_leI (by omega) (by omega)] at c_4
              refine g_aload C dL_law_477 5 rfl ?_
              refine g_iload C dL_law_479 1 rfl ?_
              refine q_rowI X (by omega) dL_law_481 ?_
              refine g_iload C dL_law_482 0 rfl ?_
              refine q_iald X (by omega) (by omega) dL_law_484 ?_
              refine g_eqi (x := F x y) (y := w0 (10 * y + x)) (hF _ _ (by omega) (by omega)) ?_
              refine g_aload_n C dL_law_485 rfl 8 rfl ?_
              refine g_iload C dL_law_486 1 rfl ?_
              refine g_iload C dL_law_488 0 rfl ?_
              refine g_iconst (v := 0) C dL_law_490 (by decide) ?_
              refine q_cell (w := 0) X J (by omega) (by omega) (by omega) rfl dL_law_491 (Nat.le_of_ble_eq_true rfl) (by omega) (by omega) ?_
              refine g_eqi (y := wet (10 * y + x)) rfl ?_
              refine g_isub C dL_law_494 ?_
              refine g_istore (lv' := [(15, .int ((w0 (10 * y + x)) - (wet (10 * y + x)))), (14, .int (nI y)), (13, .int (nI x)), (10, .int 3), (7, .int (gz il)), (6, .int (nI pp)), (5, .ref q), (3, .int v), (2, .int (nI t)), (1, .ref h), (0, .ref b)]) C dL_law_495 (by decide) rfl ?_
              refine g_iload C dL_law_497 0 rfl ?_
              refine g_if_eq (tgt := 560) C dL_law_499 (by decide) (fun c_5 => ?_) (fun c_5 => by exfalso; exact c_5 (hle (10 * y + x) (by omega)))
              refine g_iinc (v := nI (y + 1)) (lv' := [(14, .int (nI (y + 1))), (15, .int ((w0 (10 * y + x)) - (wet (10 * y + x)))), (13, .int (nI x)), (10, .int 3), (7, .int (gz il)), (6, .int (nI pp)), (5, .ref q), (3, .int v), (2, .int (nI t)), (1, .ref h), (0, .ref b)]) C dL_law_560 1 rfl (by exact nI_add _ 1) (by decide) rfl ?_
              refine g_goto (tgt := 470) C dL_law_563 (by decide) ?_
              refine g_sub [0, 2, 3, 4, 5, 6, 7, 8, 9, 10] (lv' := [(14, .int (nI (y + 1))), (13, .int (nI x)), (10, .int 3), (7, .int (gz il)), (6, .int (nI pp)), (5, .ref q), (3, .int v), (2, .int (nI t)), (1, .ref h), (0, .ref b)]) rfl ?_
              refine g_more (k2 := k + 4 * (8 * x + (y + 1))) (n2 := n + 24 * (8 * x + (y + 1))) (by omega) (by omega) ?_
              exact ih2 (y + 1) (by omega) (by omega)
        refine g_sub [0, 1, 2, 3, 4, 5, 6, 7, 8, 9] (lv' := [(14, .int 0), (13, .int (nI x)), (10, .int 3), (7, .int (gz il)), (6, .int (nI pp)), (5, .ref q), (3, .int v), (2, .int (nI t)), (1, .ref h), (0, .ref b)]) rfl ?_
        refine g_more (k2 := k + 4 * (8 * x + 0)) (n2 := n + 24 * (8 * x + 0)) (by omega) (by omega) ?_
        exact lp470_3 9 0 (by omega) (by omega)
  refine g_sub [0, 1, 2, 3, 4, 5, 6, 7, 8] (lv' := [(13, .int 0), (10, .int 3), (7, .int (gz il)), (6, .int (nI pp)), (5, .ref q), (3, .int v), (2, .int (nI t)), (1, .ref h), (0, .ref b)]) rfl ?_
  refine g_more (k2 := k + 4 * (8 * 0)) (n2 := n + 24 * (8 * 0)) (by omega) (by omega) ?_
  exact lp460_1 11 0 (by omega) (by omega)
set_option maxHeartbeats 4000000 in
set_option maxRecDepth 100000 in
theorem sg_cmp4 {p : Program} {l : Launch} {e : Env} {s : State} {m : MethodId} {args : Array Value} {below : List Frame} {meth : Method} {c : Code} {Q : State → Prop} {D : va_G} {A : Nat → Prop} {tys : List (ClassId × FieldType)} {rt : Option FieldType} {cI cP cZ cA cB : ClassId} {b L : Nat} {xs : Nat → Int32} {k n : Nat} {h np hr : Nat} {ad : Nat → Nat} {wet cover sun fs mk fd : Nat → Int32} {pcs : Nat → Option Nat} {pa : Nat → Nat} {P : Nat → Pd} {t pp q : Nat} {v : Int32} {r : Nat → Nat} {F : Nat → Nat → Int32} {w0 : Nat → Int32} {il : Bool} (X : Cx p l s m args meth c D A tys rt cI cP cZ cA cB b L xs) (J : JV np wet cover sun P pcs pa) (hF : ∀ i j, i ≤ 9 → j ≤ 7 → F i j = w0 (10 * j + i)) (hle : ∀ c, c < 80 → w0 c - wet c = 0 ∨ (il = false ∧ wet c = -1)) (hk : k + 330 ≤ 605351) (hn : n + 2000 ≤ 7285716)
    (kk : G p l e room_1 s m args below meth c D A s.heap 21 (k + 330) (n + 2000) Q 746 [(3, .int v), (2, .int (nI t)), (1, .ref h), (0, .ref b)] [] (Wm cI cP h ad np hr wet cover sun fs mk fd pcs pa P [])) :
    G p l e room_1 s m args below meth c D A s.heap 21 k n Q 457 [(10, .int 4), (7, .int (gz il)), (6, .int (nI pp)), (5, .ref q), (3, .int v), (2, .int (nI t)), (1, .ref h), (0, .ref b)] [] (Wm cI cP h ad np hr wet cover sun fs mk fd pcs pa P ((Mt cA cI q r F))) := by
  have C := X.C
  refine g_iconst (v := 0) C dL_law_457 (by decide) ?_
  refine g_istore (lv' := [(13, .int 0), (10, .int 4), (7, .int (gz il)), (6, .int (nI pp)), (5, .ref q), (3, .int v), (2, .int (nI t)), (1, .ref h), (0, .ref b)]) C dL_law_458 (by decide) rfl ?_
  have lp460_1 : ∀ (n9 : Nat) (x : Nat) (hx : x ≤ 10) (hn9 : 11 ≤ x + n9), G p l e room_1 s m args below meth c D A s.heap 21 (k + 4 * (8 * x)) (n + 24 * (8 * x)) Q 460 [(13, .int (nI x)), (10, .int 4), (7, .int (gz il)), (6, .int (nI pp)), (5, .ref q), (3, .int v), (2, .int (nI t)), (1, .ref h), (0, .ref b)] [] (Wm cI cP h ad np hr wet cover sun fs mk fd pcs pa P ((Mt cA cI q r F))) := by
    intro n9
    induction n9 with
    | zero =>
      intro x hx hn9
      exfalso; omega
    | succ n9 ih =>
      intro x hx hn9
      refine g_iload C dL_law_460 0 rfl ?_
      refine g_bipush (v := 10) C dL_law_462 (by decide) ?_
      refine g_icmp_ge (tgt := 572) C dL_law_464 (by decide) (fun c_2 => ?_) (fun c_2 => ?_)
      · skip
        rw [show (10 : Int32) = nI 10 from rfl, nI_leI (by omega) (by omega)] at c_2
        refine g_goto (tgt := 746) C dL_law_572 (by decide) ?_
        refine g_sub [5, 6, 7, 8] (lv' := [(3, .int v), (2, .int (nI t)), (1, .ref h), (0, .ref b)]) rfl ?_
        refine g_more (k2 := k + 330) (n2 := n + 2000) (by omega) (by omega) ?_
        refine g_less (ws' := (Wm cI cP h ad np hr wet cover sun fs mk fd pcs pa P [])) tl_less ?_
        exact kk
      · skip
        rw [show (10 : Int32) = nI 10 from rfl, nI_leI (by omega) (by omega)] at c_2
        refine g_iconst (v := 0) C dL_law_467 (by decide) ?_
        refine g_istore (lv' := [(14, .int 0), (13, .int (nI x)), (10, .int 4), (7, .int (gz il)), (6, .int (nI pp)), (5, .ref q), (3, .int v), (2, .int (nI t)), (1, .ref h), (0, .ref b)]) C dL_law_468 (by decide) rfl ?_
        have lp470_3 : ∀ (n9 : Nat) (y : Nat) (hy : y ≤ 8) (hn8 : 9 ≤ y + n9), G p l e room_1 s m args below meth c D A s.heap 21 (k + 4 * (8 * x + y)) (n + 24 * (8 * x + y)) Q 470 [(14, .int (nI y)), (13, .int (nI x)), (10, .int 4), (7, .int (gz il)), (6, .int (nI pp)), (5, .ref q), (3, .int v), (2, .int (nI t)), (1, .ref h), (0, .ref b)] [] (Wm cI cP h ad np hr wet cover sun fs mk fd pcs pa P ((Mt cA cI q r F))) := by
          intro n9
          induction n9 with
          | zero =>
            intro y hy hn8
            exfalso; omega
          | succ n9 ih2 =>
            intro y hy hn8
            refine g_iload C dL_law_470 0 rfl ?_
            refine g_bipush (v := 8) C dL_law_472 (by decide) ?_
            refine g_icmp_ge (tgt := 566) C dL_law_474 (by decide) (fun c_4 => ?_) (fun c_4 => ?_)
            · skip
              rw [show (8 : Int32) = nI 8 from rfl, nI_leI (by omega) (by omega)] at c_4
              refine g_iinc (v := nI (x + 1)) (lv' := [(13, .int (nI (x + 1))), (14, .int (nI y)), (10, .int 4), (7, .int (gz il)), (6, .int (nI pp)), (5, .ref q), (3, .int v), (2, .int (nI t)), (1, .ref h), (0, .ref b)]) C dL_law_566 1 rfl (by exact nI_add _ 1) (by decide) rfl ?_
              refine g_goto (tgt := 460) C dL_law_569 (by decide) ?_
              refine g_sub [0, 2, 3, 4, 5, 6, 7, 8, 9] (lv' := [(13, .int (nI (x + 1))), (10, .int 4), (7, .int (gz il)), (6, .int (nI pp)), (5, .ref q), (3, .int v), (2, .int (nI t)), (1, .ref h), (0, .ref b)]) rfl ?_
              refine g_more (k2 := k + 4 * (8 * (x + 1))) (n2 := n + 24 * (8 * (x + 1))) (by omega) (by omega) ?_
              exact ih (x + 1) (by omega) (by omega)
            · skip
              rw [show (8 : Int32) = nI 8 from rfl, nI_leI (by omega) (by omega)] at c_4
              refine g_aload C dL_law_477 5 rfl ?_
              refine g_iload C dL_law_479 1 rfl ?_
              refine q_rowI X (by omega) dL_law_481 ?_
              refine g_iload C dL_law_482 0 rfl ?_
              refine q_iald X (by omega) (by omega) dL_law_484 ?_
              refine g_eqi (x := F x y) (y := w0 (10 * y + x)) (hF _ _ (by omega) (by omega)) ?_
              refine g_aload_n C dL_law_485 rfl 8 rfl ?_
              refine g_iload C dL_law_486 1 rfl ?_
              refine g_iload C dL_law_488 0 rfl ?_
              refine g_iconst (v := 0) C dL_law_490 (by decide) ?_
              refine q_cell (w := 0) X J (by omega) (by omega) (by omega) rfl dL_law_491 (Nat.le_of_ble_eq_true rfl) (by omega) (by omega) ?_
              refine g_eqi (y := wet (10 * y + x)) rfl ?_
              refine g_isub C dL_law_494 ?_
              refine g_istore (lv' := [(15, .int ((w0 (10 * y + x)) - (wet (10 * y + x)))), (14, .int (nI y)), (13, .int (nI x)), (10, .int 4), (7, .int (gz il)), (6, .int (nI pp)), (5, .ref q), (3, .int v), (2, .int (nI t)), (1, .ref h), (0, .ref b)]) C dL_law_495 (by decide) rfl ?_
              refine g_iload C dL_law_497 0 rfl ?_
              refine g_if_eq (tgt := 560) C dL_law_499 (by decide) (fun c_5 => ?_) (fun c_5 => ?_)
              · skip
                refine g_iinc (v := nI (y + 1)) (lv' := [(14, .int (nI (y + 1))), (15, .int ((w0 (10 * y + x)) - (wet (10 * y + x)))), (13, .int (nI x)), (10, .int 4), (7, .int (gz il)), (6, .int (nI pp)), (5, .ref q), (3, .int v), (2, .int (nI t)), (1, .ref h), (0, .ref b)]) C dL_law_560 1 rfl (by exact nI_add _ 1) (by decide) rfl ?_
                refine g_goto (tgt := 470) C dL_law_563 (by decide) ?_
                refine g_sub [0, 2, 3, 4, 5, 6, 7, 8, 9, 10] (lv' := [(14, .int (nI (y + 1))), (13, .int (nI x)), (10, .int 4), (7, .int (gz il)), (6, .int (nI pp)), (5, .ref q), (3, .int v), (2, .int (nI t)), (1, .ref h), (0, .ref b)]) rfl ?_
                refine g_more (k2 := k + 4 * (8 * x + (y + 1))) (n2 := n + 24 * (8 * x + (y + 1))) (by omega) (by omega) ?_
                exact ih2 (y + 1) (by omega) (by omega)
              · skip
                refine g_iload C dL_law_502 3 rfl ?_
                refine g_iconst (v := 3) C dL_law_504 (by decide) ?_
                refine g_icmp_eq (tgt := 558) C dL_law_505 (by decide) (fun c_6 => by exfalso; exact absurd c_6 (by decide)) (fun c_6 => ?_)
                refine g_iload C dL_law_508 3 rfl ?_
                refine g_iconst (v := 2) C dL_law_510 (by decide) ?_
                refine g_icmp_ne (tgt := 534) C dL_law_511 (by decide) (fun c_7 => ?_) (fun c_7 => by exfalso; exact absurd c_7 (by decide))
                refine g_iload C dL_law_534 3 rfl ?_
                refine g_iconst (v := 4) C dL_law_536 (by decide) ?_
                refine g_icmp_ne (tgt := 560) C dL_law_537 (by decide) (fun c_8 => by exfalso; exact absurd c_8 (by decide)) (fun c_8 => ?_)
                refine g_iload C dL_law_540 4 rfl ?_
                refine g_if_ne (tgt := 558) C dL_law_542 (by decide) (fun c_9 => by exfalso; replace c_9 := gzn.mp c_9; rw [((hle (10 * y + x) (by omega)).resolve_left c_5).1] at c_9; cases c_9) (fun c_9 => ?_)
                replace c_9 := gz0.mp c_9
                refine g_aload_n C dL_law_545 rfl 9 rfl ?_
                refine g_iload C dL_law_546 2 rfl ?_
                refine g_iload C dL_law_548 1 rfl ?_
                refine g_iconst (v := 0) C dL_law_550 (by decide) ?_
                refine q_cell (w := 0) X J (by omega) (by omega) (by omega) rfl dL_law_551 (Nat.le_of_ble_eq_true rfl) (by omega) (by omega) ?_
                refine g_eqi (y := wet (10 * y + x)) rfl ?_
                refine g_iconst (v := (-1)) C dL_law_554 (by decide) ?_
                refine g_icmp_eq (tgt := 560) C dL_law_555 (by decide) (fun c_10 => ?_) (fun c_10 => by exfalso; exact c_10 ((hle (10 * y + x) (by omega)).resolve_left c_5).2)
                refine g_iinc (v := nI (y + 1)) (lv' := [(14, .int (nI (y + 1))), (15, .int ((w0 (10 * y + x)) - (wet (10 * y + x)))), (13, .int (nI x)), (10, .int 4), (7, .int (gz il)), (6, .int (nI pp)), (5, .ref q), (3, .int v), (2, .int (nI t)), (1, .ref h), (0, .ref b)]) C dL_law_560 1 rfl (by exact nI_add _ 1) (by decide) rfl ?_
                refine g_goto (tgt := 470) C dL_law_563 (by decide) ?_
                refine g_sub [0, 2, 3, 4, 5, 6, 7, 8, 9, 10] (lv' := [(14, .int (nI (y + 1))), (13, .int (nI x)), (10, .int 4), (7, .int (gz il)), (6, .int (nI pp)), (5, .ref q), (3, .int v), (2, .int (nI t)), (1, .ref h), (0, .ref b)]) rfl ?_
                refine g_more (k2 := k + 4 * (8 * x + (y + 1))) (n2 := n + 24 * (8 * x + (y + 1))) (by omega) (by omega) ?_
                exact ih2 (y + 1) (by omega) (by omega)
        refine g_sub [0, 1, 2, 3, 4, 5, 6, 7, 8, 9] (lv' := [(14, .int 0), (13, .int (nI x)), (10, .int 4), (7, .int (gz il)), (6, .int (nI pp)), (5, .ref q), (3, .int v), (2, .int (nI t)), (1, .ref h), (0, .ref b)]) rfl ?_
        refine g_more (k2 := k + 4 * (8 * x + 0)) (n2 := n + 24 * (8 * x + 0)) (by omega) (by omega) ?_
        exact lp470_3 9 0 (by omega) (by omega)
  refine g_sub [0, 1, 2, 3, 4, 5, 6, 7, 8] (lv' := [(13, .int 0), (10, .int 4), (7, .int (gz il)), (6, .int (nI pp)), (5, .ref q), (3, .int v), (2, .int (nI t)), (1, .ref h), (0, .ref b)]) rfl ?_
  refine g_more (k2 := k + 4 * (8 * 0)) (n2 := n + 24 * (8 * 0)) (by omega) (by omega) ?_
  exact lp460_1 11 0 (by omega) (by omega)
