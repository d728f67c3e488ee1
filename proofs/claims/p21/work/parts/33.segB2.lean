set_option maxHeartbeats 4000000 in
set_option maxRecDepth 100000 in
theorem sg_Bflip {p : Program} {l : Launch} {e : Env} {s : State} {m : MethodId} {args : Array Value} {below : List Frame} {meth : Method} {c : Code} {Q : State → Prop} {D : va_G} {A : Nat → Prop} {tys : List (ClassId × FieldType)} {rt : Option FieldType} {cI cP cZ cA cB : ClassId} {b L : Nat} {xs : Nat → Int32} {k n : Nat} {h np hr : Nat} {ad : Nat → Nat} {wet cover sun fs mk fd : Nat → Int32} {pcs : Nat → Option Nat} {pa : Nat → Nat} {P : Nat → Pd} {t pp q : Nat} {v : Int32} {r : Nat → Nat} {F : Nat → Nat → Int32} (X : Cx p l s m args meth c D A tys rt cI cP cZ cA cB b L xs) (J : JV np wet cover sun P pcs pa) (hF : ∀ i j, i ≤ 9 → j ≤ 7 → F i j = wet (10 * j + i)) (hpp : pp < np) (hk : k + 400 ≤ 605351) (hn : n + 2600 ≤ 7285716)
    (kk : ∀ (np2 hr2 : Nat) (wet2 cover2 sun2 fs2 mk2 fd2 : Nat → Int32) (pcs2 : Nat → Option Nat) (pa2 : Nat → Nat) (P2 : Nat → Pd), JV np2 wet2 cover2 sun2 P2 pcs2 pa2 → hr2 ≤ hr + 3 → G p l e room_1 s m args below meth c D A s.heap 21 (k + 400) (n + 2600) Q 746 [(3, .int v), (2, .int (nI t)), (1, .ref h), (0, .ref b)] [] (Wm cI cP h ad np2 hr2 wet2 cover2 sun2 fs2 mk2 fd2 pcs2 pa2 P2 [])) :
    G p l e room_1 s m args below meth c D A s.heap 21 k n Q 147 [(10, .int 2), (8, .long (dgT np hr P wet cover sun (fun _ => 0))), (7, .int (gz (lsp (P pp) wet))), (6, .int (nI pp)), (5, .ref q), (4, .int (nI np)), (3, .int v), (2, .int (nI t)), (1, .ref h), (0, .ref b)] [] (Wm cI cP h ad np hr wet cover sun fs mk fd pcs pa P ((Mt cA cI q r F))) := by
  have C := X.C
  obtain ⟨cc, hcc6, hcc⟩ := oth_col (J.2.2.1 pp hpp)
  have hnp := J.1
  have hq1 := (J.2.1 pp hpp).1
  have hq3 := (J.2.1 pp hpp).2.1
  refine g_iload C dL_law_147 0 rfl ?_
  refine g_iconst (v := 2) C dL_law_149 (by decide) ?_
  refine g_icmp_ge (tgt := 275) C dL_law_150 (by decide) (fun c_1 => ?_) (fun c_1 => by exfalso; exact absurd c_1 (by decide))
  refine g_iload C dL_law_275 0 rfl ?_
  refine g_iconst (v := 5) C dL_law_277 (by decide) ?_
  refine g_icmp_ge (tgt := 575) C dL_law_278 (by decide) (fun c_2 => by exfalso; exact absurd c_2 (by decide)) (fun c_2 => ?_)
  refine g_iload C dL_law_281 5 rfl ?_
  refine g_if_le (tgt := 575) C dL_law_283 (by decide) (fun c_3 => by exfalso; rw [show (0 : Int32) = nI 0 from rfl, nI_leI (by omega) (by omega)] at c_3; omega) (fun c_3 => ?_)
  rw [show (0 : Int32) = nI 0 from rfl, nI_leI (by omega) (by omega)] at c_3
  refine g_aload_n C dL_law_286 rfl 8 rfl ?_
  refine g_iload C dL_law_287 3 rfl ?_
  refine g_iconst (v := 5) C dL_law_289 (by decide) ?_
  refine q_piece (w := 5) (v := pp) X J (by omega) (by omega) rfl dL_law_290 (Nat.le_of_ble_eq_true rfl) (by omega) (by omega) ?_
  refine g_eqi (y := oth (P pp)) rfl ?_
  refine g_eqi (x := oth (P pp)) (y := nI cc) (hcc) ?_
  refine g_istore (lv' := [(11, .int (nI cc)), (10, .int 2), (8, .long (dgT np hr P wet cover sun (fun _ => 0))), (7, .int (gz (lsp (P pp) wet))), (6, .int (nI pp)), (5, .ref q), (4, .int (nI np)), (3, .int v), (2, .int (nI t)), (1, .ref h), (0, .ref b)]) C dL_law_293 (by decide) rfl ?_
  refine g_aload_n C dL_law_295 rfl 9 rfl ?_
  refine g_iload C dL_law_296 4 rfl ?_
  refine g_iload C dL_law_298 1 rfl ?_
  refine g_iconst (v := 2) C dL_law_300 (by decide) ?_
  refine g_icmp_ne (tgt := 308) C dL_law_301 (by decide) (fun c_4 => by exfalso; exact absurd c_4 (by decide)) (fun c_4 => ?_)
  refine g_iconst (v := 0) C dL_law_304 (by decide) ?_
  refine g_goto (tgt := 312) C dL_law_305 (by decide) ?_
  refine q_act (v := pp) (a9 := 0) X J hpp (by omega) rfl dL_law_312 (Nat.le_of_ble_eq_true rfl) (by omega) (by omega) ?_ ?_ ?_ ?_
  · intro h1 hcd
    obtain ⟨hl, J2⟩ := jv_flip J hpp hcd
    refine g_eqw (ws' := (Wm cI cP h ad np hr (decL wet (pcl (P pp)) (ql (P pp))) cover sun fs mk fd pcs pa (pup P pp (flp (P pp))) ((Mt cA cI q r F)))) rfl ?_
    refine g_eqi (y := nI cc) ((oth_flp _).trans hcc) ?_
    rw [hl]
    refine g_istore (lv' := [(12, .int (nI cc)), (11, .int (nI cc)), (10, .int 2), (8, .long (dgT np hr P wet cover sun (fun _ => 0))), (7, .int (gz true)), (6, .int (nI pp)), (5, .ref q), (4, .int (nI np)), (3, .int v), (2, .int (nI t)), (1, .ref h), (0, .ref b)]) C dL_law_315 (by decide) rfl ?_
    refine g_iload C dL_law_317 0 rfl ?_
    refine g_if_ge (tgt := 332) C dL_law_319 (by decide) (fun c_5 => ?_) (fun c_5 => by exfalso; rw [show (0 : Int32) = nI 0 from rfl, nI_leI (by omega) (by omega)] at c_5; omega)
    rw [show (0 : Int32) = nI 0 from rfl, nI_leI (by omega) (by omega)] at c_5
    refine g_iload C dL_law_332 2 rfl ?_
    refine g_iconst (v := 4) C dL_law_334 (by decide) ?_
    refine g_icmp_ge (tgt := 350) C dL_law_335 (by decide) (fun c_6 => by exfalso; exact absurd c_6 (by decide)) (fun c_6 => ?_)
    refine g_iload C dL_law_338 4 rfl ?_
    refine g_if_ne (tgt := 350) C dL_law_340 (by decide) (fun c_7 => ?_) (fun c_7 => by exfalso; exact absurd c_7 (by decide))
    refine g_iload C dL_law_350 2 rfl ?_
    refine g_iconst (v := 2) C dL_law_352 (by decide) ?_
    refine g_icmp_ne (tgt := 382) C dL_law_353 (by decide) (fun c_8 => by exfalso; exact absurd c_8 (by decide)) (fun c_8 => ?_)
    refine g_iload C dL_law_356 4 rfl ?_
    refine g_if_eq (tgt := 382) C dL_law_358 (by decide) (fun c_9 => by exfalso; exact absurd c_9 (by decide)) (fun c_9 => ?_)
    refine g_iload C dL_law_361 0 rfl ?_
    refine g_iload C dL_law_363 1 rfl ?_
    refine g_icmp_ne (tgt := 380) C dL_law_365 (by decide) (fun c_10 => by exfalso; rw [nI_eq (by omega) (by omega)] at c_10; omega) (fun c_10 => ?_)
    rw [nI_eq (by omega) (by omega)] at c_10
    refine g_aload_n C dL_law_368 rfl 10 rfl ?_
    refine g_iload C dL_law_369 5 rfl ?_
    refine g_iconst (v := 4) C dL_law_371 (by decide) ?_
    refine q_piece (w := 4) (v := pp) X J2 (by omega) (by omega) rfl dL_law_372 (Nat.le_of_ble_eq_true rfl) (by omega) (by omega) ?_
    refine g_eqi (y := shw ((pup P pp (flp (P pp))) pp)) rfl ?_
    refine g_eqi (x := shw ((pup P pp (flp (P pp))) pp)) (y := nI cc) (by rw [pup_s]; exact (oth_flp _).trans hcc) ?_
    refine g_iload C dL_law_375 1 rfl ?_
    refine g_icmp_eq (tgt := 382) C dL_law_377 (by decide) (fun c_11 => ?_) (fun c_11 => by exfalso; rw [nI_eq (by omega) (by omega)] at c_11; omega)
    rw [nI_eq (by omega) (by omega)] at c_11
    refine g_iload C dL_law_382 2 rfl ?_
    refine g_iconst (v := 3) C dL_law_384 (by decide) ?_
    refine g_icmp_ne (tgt := 428) C dL_law_385 (by decide) (fun c_12 => ?_) (fun c_12 => by exfalso; exact absurd c_12 (by decide))
    refine g_iload C dL_law_428 2 rfl ?_
    refine g_iconst (v := 4) C dL_law_430 (by decide) ?_
    refine g_icmp_ne (tgt := 457) C dL_law_431 (by decide) (fun c_13 => ?_) (fun c_13 => by exfalso; exact absurd c_13 (by decide))
    refine g_sub [2, 4, 5, 6, 8, 9, 10, 11] (lv' := [(10, .int 2), (7, .int (gz true)), (6, .int (nI pp)), (5, .ref q), (3, .int v), (2, .int (nI t)), (1, .ref h), (0, .ref b)]) rfl ?_
    refine g_more (k2 := k + 20) (n2 := n + 120) (by omega) (by omega) ?_
    refine sg_cmp2 (w0 := wet) X J2 hF (flip_le J hpp hl) (by omega) (by omega) ?_
    refine g_more (k2 := k + 400) (n2 := n + 2600) (by omega) (by omega) ?_
    exact kk _ _ _ _ _ _ _ _ _ _ _ J2 (by omega)
  · intro h1 hcd; exfalso; omega
  · intro h1 hcd; exfalso; omega
  · intro f1 f2 f3
    have hl := cdFl_2 J.1 hpp (f1 (by omega))
    rw [hl]
    refine g_istore (lv' := [(12, .int (-1)), (11, .int (nI cc)), (10, .int 2), (8, .long (dgT np hr P wet cover sun (fun _ => 0))), (7, .int (gz false)), (6, .int (nI pp)), (5, .ref q), (4, .int (nI np)), (3, .int v), (2, .int (nI t)), (1, .ref h), (0, .ref b)]) C dL_law_315 (by decide) rfl ?_
    refine g_iload C dL_law_317 0 rfl ?_
    refine g_if_ge (tgt := 332) C dL_law_319 (by decide) (fun c_14 => by exfalso; exact absurd c_14 (by decide)) (fun c_14 => ?_)
    refine g_aload_n C dL_law_322 rfl 10 rfl ?_
    refine q_digest X J dL_law_323 (Nat.le_of_ble_eq_true rfl) (by omega) (by omega) (fun mk_15 fd_16 => ?_)
    refine g_eql (y := dgT np hr P wet cover sun (fun _ => 0)) dig_fd ?_
    refine g_lload C dL_law_326 3 rfl ?_
    refine g_lcmp C dL_law_328 ?_
    refine g_if_ne (tgt := 348) C dL_law_329 (by decide) (fun c_17 => by exfalso; exact c_17 (lcmp0 rfl)) (fun c_17 => ?_)
    refine g_iload C dL_law_332 2 rfl ?_
    refine g_iconst (v := 4) C dL_law_334 (by decide) ?_
    refine g_icmp_ge (tgt := 350) C dL_law_335 (by decide) (fun c_18 => by exfalso; exact absurd c_18 (by decide)) (fun c_18 => ?_)
    refine g_iload C dL_law_338 4 rfl ?_
    refine g_if_ne (tgt := 350) C dL_law_340 (by decide) (fun c_19 => by exfalso; exact absurd c_19 (by decide)) (fun c_19 => ?_)
    refine g_iload C dL_law_343 0 rfl ?_
    refine g_if_lt (tgt := 350) C dL_law_345 (by decide) (fun c_20 => ?_) (fun c_20 => by exfalso; exact absurd c_20 (by decide))
    refine g_iload C dL_law_350 2 rfl ?_
    refine g_iconst (v := 2) C dL_law_352 (by decide) ?_
    refine g_icmp_ne (tgt := 382) C dL_law_353 (by decide) (fun c_21 => by exfalso; exact absurd c_21 (by decide)) (fun c_21 => ?_)
    refine g_iload C dL_law_356 4 rfl ?_
    refine g_if_eq (tgt := 382) C dL_law_358 (by decide) (fun c_22 => ?_) (fun c_22 => by exfalso; exact absurd c_22 (by decide))
    refine g_iload C dL_law_382 2 rfl ?_
    refine g_iconst (v := 3) C dL_law_384 (by decide) ?_
    refine g_icmp_ne (tgt := 428) C dL_law_385 (by decide) (fun c_23 => ?_) (fun c_23 => by exfalso; exact absurd c_23 (by decide))
    refine g_iload C dL_law_428 2 rfl ?_
    refine g_iconst (v := 4) C dL_law_430 (by decide) ?_
    refine g_icmp_ne (tgt := 457) C dL_law_431 (by decide) (fun c_24 => ?_) (fun c_24 => by exfalso; exact absurd c_24 (by decide))
    refine g_sub [2, 4, 5, 6, 8, 9, 10, 11] (lv' := [(10, .int 2), (7, .int (gz false)), (6, .int (nI pp)), (5, .ref q), (3, .int v), (2, .int (nI t)), (1, .ref h), (0, .ref b)]) rfl ?_
    refine g_more (k2 := k + 20) (n2 := n + 120) (by omega) (by omega) ?_
    refine sg_cmp2 (w0 := wet) X J hF (fun c _ => Or.inl (Int32.sub_self _)) (by omega) (by omega) ?_
    refine g_more (k2 := k + 400) (n2 := n + 2600) (by omega) (by omega) ?_
    exact kk _ _ _ _ _ _ _ _ _ _ _ J (by omega)
set_option maxHeartbeats 4000000 in
set_option maxRecDepth 100000 in
theorem sg_Bturn {p : Program} {l : Launch} {e : Env} {s : State} {m : MethodId} {args : Array Value} {below : List Frame} {meth : Method} {c : Code} {Q : State → Prop} {D : va_G} {A : Nat → Prop} {tys : List (ClassId × FieldType)} {rt : Option FieldType} {cI cP cZ cA cB : ClassId} {b L : Nat} {xs : Nat → Int32} {k n : Nat} {h np hr : Nat} {ad : Nat → Nat} {wet cover sun fs mk fd : Nat → Int32} {pcs : Nat → Option Nat} {pa : Nat → Nat} {P : Nat → Pd} {t pp q : Nat} {v : Int32} {r : Nat → Nat} {F : Nat → Nat → Int32} (X : Cx p l s m args meth c D A tys rt cI cP cZ cA cB b L xs) (J : JV np wet cover sun P pcs pa) (hF : ∀ i j, i ≤ 9 → j ≤ 7 → F i j = wet (10 * j + i)) (hpp : pp < np) (hk : k + 400 ≤ 605351) (hn : n + 2600 ≤ 7285716)
    (kk : ∀ (np2 hr2 : Nat) (wet2 cover2 sun2 fs2 mk2 fd2 : Nat → Int32) (pcs2 : Nat → Option Nat) (pa2 : Nat → Nat) (P2 : Nat → Pd), JV np2 wet2 cover2 sun2 P2 pcs2 pa2 → hr2 ≤ hr + 3 → G p l e room_1 s m args below meth c D A s.heap 21 (k + 400) (n + 2600) Q 746 [(3, .int v), (2, .int (nI t)), (1, .ref h), (0, .ref b)] [] (Wm cI cP h ad np2 hr2 wet2 cover2 sun2 fs2 mk2 fd2 pcs2 pa2 P2 [])) :
    G p l e room_1 s m args below meth c D A s.heap 21 k n Q 147 [(10, .int 3), (8, .long (dgT np hr P wet cover sun (fun _ => 0))), (7, .int (gz (lsp (P pp) wet))), (6, .int (nI pp)), (5, .ref q), (4, .int (nI np)), (3, .int v), (2, .int (nI t)), (1, .ref h), (0, .ref b)] [] (Wm cI cP h ad np hr wet cover sun fs mk fd pcs pa P ((Mt cA cI q r F))) := by
  have C := X.C
  obtain ⟨cc, hcc6, hcc⟩ := oth_col (J.2.2.1 pp hpp)
  have hnp := J.1
  have hq1 := (J.2.1 pp hpp).1
  have hq3 := (J.2.1 pp hpp).2.1
  refine g_iload C dL_law_147 0 rfl ?_
  refine g_iconst (v := 2) C dL_law_149 (by decide) ?_
  refine g_icmp_ge (tgt := 275) C dL_law_150 (by decide) (fun c_1 => ?_) (fun c_1 => by exfalso; exact absurd c_1 (by decide))
  refine g_iload C dL_law_275 0 rfl ?_
  refine g_iconst (v := 5) C dL_law_277 (by decide) ?_
  refine g_icmp_ge (tgt := 575) C dL_law_278 (by decide) (fun c_2 => by exfalso; exact absurd c_2 (by decide)) (fun c_2 => ?_)
  refine g_iload C dL_law_281 5 rfl ?_
  refine g_if_le (tgt := 575) C dL_law_283 (by decide) (fun c_3 => by exfalso; rw [show (0 : Int32) = nI 0 from rfl, nI_leI (by omega) (by omega)] at c_3; omega) (fun c_3 => ?_)
  rw [show (0 : Int32) = nI 0 from rfl, nI_leI (by omega) (by omega)] at c_3
  refine g_aload_n C dL_law_286 rfl 8 rfl ?_
  refine g_iload C dL_law_287 3 rfl ?_
  refine g_iconst (v := 5) C dL_law_289 (by decide) ?_
  refine q_piece (w := 5) (v := pp) X J (by omega) (by omega) rfl dL_law_290 (Nat.le_of_ble_eq_true rfl) (by omega) (by omega) ?_
  refine g_eqi (y := oth (P pp)) rfl ?_
  refine g_eqi (x := oth (P pp)) (y := nI cc) (hcc) ?_
  refine g_istore (lv' := [(11, .int (nI cc)), (10, .int 3), (8, .long (dgT np hr P wet cover sun (fun _ => 0))), (7, .int (gz (lsp (P pp) wet))), (6, .int (nI pp)), (5, .ref q), (4, .int (nI np)), (3, .int v), (2, .int (nI t)), (1, .ref h), (0, .ref b)]) C dL_law_293 (by decide) rfl ?_
  refine g_aload_n C dL_law_295 rfl 9 rfl ?_
  refine g_iload C dL_law_296 4 rfl ?_
  refine g_iload C dL_law_298 1 rfl ?_
  refine g_iconst (v := 2) C dL_law_300 (by decide) ?_
  refine g_icmp_ne (tgt := 308) C dL_law_301 (by decide) (fun c_4 => ?_) (fun c_4 => by exfalso; exact absurd c_4 (by decide))
  refine g_iload C dL_law_308 1 rfl ?_
  refine g_iconst (v := 1) C dL_law_310 (by decide) ?_
  refine g_isub C dL_law_311 ?_
  refine g_eqi (x := 3 - 1) (y := 2) (by decide) ?_
  refine q_act (v := pp) (a9 := 2) X J hpp (by omega) rfl dL_law_312 (Nat.le_of_ble_eq_true rfl) (by omega) (by omega) ?_ ?_ ?_ ?_
  · intro h1 hcd; exfalso; omega
  · intro h1 hcd
    obtain ⟨⟨hl, J2⟩, -⟩ := jv_turn J hpp hcd
    refine g_eqw (ws' := (Wm cI cP h ad np hr wet (setL (setL cover (pcl (P pp)) (-1) (ql (P pp))) (pcl (trn (P pp))) (nI pp) (ql (P pp))) sun fs mk fd pcs pa (pup P pp (trn (P pp))) ((Mt cA cI q r F)))) rfl ?_
    rw [hl]
    refine g_istore (lv' := [(12, .int (nI (ql (P pp)))), (11, .int (nI cc)), (10, .int 3), (8, .long (dgT np hr P wet cover sun (fun _ => 0))), (7, .int (gz true)), (6, .int (nI pp)), (5, .ref q), (4, .int (nI np)), (3, .int v), (2, .int (nI t)), (1, .ref h), (0, .ref b)]) C dL_law_315 (by decide) rfl ?_
    refine g_iload C dL_law_317 0 rfl ?_
    refine g_if_ge (tgt := 332) C dL_law_319 (by decide) (fun c_5 => ?_) (fun c_5 => by exfalso; rw [show (0 : Int32) = nI 0 from rfl, nI_leI (by omega) (by omega)] at c_5; omega)
    rw [show (0 : Int32) = nI 0 from rfl, nI_leI (by omega) (by omega)] at c_5
    refine g_iload C dL_law_332 2 rfl ?_
    refine g_iconst (v := 4) C dL_law_334 (by decide) ?_
    refine g_icmp_ge (tgt := 350) C dL_law_335 (by decide) (fun c_6 => by exfalso; exact absurd c_6 (by decide)) (fun c_6 => ?_)
    refine g_iload C dL_law_338 4 rfl ?_
    refine g_if_ne (tgt := 350) C dL_law_340 (by decide) (fun c_7 => ?_) (fun c_7 => by exfalso; exact absurd c_7 (by decide))
    refine g_iload C dL_law_350 2 rfl ?_
    refine g_iconst (v := 2) C dL_law_352 (by decide) ?_
    refine g_icmp_ne (tgt := 382) C dL_law_353 (by decide) (fun c_8 => ?_) (fun c_8 => by exfalso; exact absurd c_8 (by decide))
    refine g_iload C dL_law_382 2 rfl ?_
    refine g_iconst (v := 3) C dL_law_384 (by decide) ?_
    refine g_icmp_ne (tgt := 428) C dL_law_385 (by decide) (fun c_9 => by exfalso; exact absurd c_9 (by decide)) (fun c_9 => ?_)
    refine g_iload C dL_law_388 0 rfl ?_
    refine g_if_le (tgt := 428) C dL_law_390 (by decide) (fun c_10 => by exfalso; rw [show (0 : Int32) = nI 0 from rfl, nI_leI (by omega) (by omega)] at c_10; omega) (fun c_10 => ?_)
    rw [show (0 : Int32) = nI 0 from rfl, nI_leI (by omega) (by omega)] at c_10
    refine g_iload C dL_law_393 0 rfl ?_
    refine g_aload_n C dL_law_395 rfl 10 rfl ?_
    refine g_iload C dL_law_396 5 rfl ?_
    refine g_iconst (v := 2) C dL_law_398 (by decide) ?_
    refine q_piece (w := 2) (v := pp) X J2 (by omega) (by omega) rfl dL_law_399 (Nat.le_of_ble_eq_true rfl) (by omega) (by omega) ?_
    refine g_eqi (y := nI (ql ((pup P pp (trn (P pp))) pp))) rfl ?_
    refine g_eqi (x := nI (ql ((pup P pp (trn (P pp))) pp))) (y := nI (ql (P pp))) (by rw [pup_s]; rfl) ?_
    refine g_icmp_ne (tgt := 426) C dL_law_402 (by decide) (fun c_11 => by exfalso; rw [nI_eq (by omega) (by omega)] at c_11; omega) (fun c_11 => ?_)
    rw [nI_eq (by omega) (by omega)] at c_11
    refine g_aload_n C dL_law_405 rfl 10 rfl ?_
    refine g_iload C dL_law_406 5 rfl ?_
    refine q_turn (v := pp) X J2 hpp (turn_back J hpp hcd) dL_law_408 (Nat.le_of_ble_eq_true rfl) (by omega) (by omega) ?_
    refine g_eqw (ws' := (Wm cI cP h ad np hr wet cover sun fs mk fd pcs pa P ((Mt cA cI q r F)))) (Wtu2 J hpp hcd) ?_
    refine g_eqi (x := nI (ql (pup P pp (trn (P pp)) pp))) (y := nI (ql (P pp))) (by rw [pup_s]; rfl) ?_
    refine g_iload C dL_law_411 0 rfl ?_
    refine g_icmp_ne (tgt := 426) C dL_law_413 (by decide) (fun c_12 => by exfalso; rw [nI_eq (by omega) (by omega)] at c_12; omega) (fun c_12 => ?_)
    rw [nI_eq (by omega) (by omega)] at c_12
    refine g_aload_n C dL_law_416 rfl 10 rfl ?_
    refine q_digest X J dL_law_417 (Nat.le_of_ble_eq_true rfl) (by omega) (by omega) (fun mk_13 fd_14 => ?_)
    refine g_eql (y := dgT np hr P wet cover sun (fun _ => 0)) dig_fd ?_
    refine g_lload C dL_law_420 3 rfl ?_
    refine g_lcmp C dL_law_422 ?_
    refine g_if_eq (tgt := 428) C dL_law_423 (by decide) (fun c_15 => ?_) (fun c_15 => by exfalso; exact c_15 (lcmp0 rfl))
    refine g_iload C dL_law_428 2 rfl ?_
    refine g_iconst (v := 4) C dL_law_430 (by decide) ?_
    refine g_icmp_ne (tgt := 457) C dL_law_431 (by decide) (fun c_16 => ?_) (fun c_16 => by exfalso; exact absurd c_16 (by decide))
    refine g_sub [2, 4, 5, 6, 8, 9, 10, 11] (lv' := [(10, .int 3), (7, .int (gz true)), (6, .int (nI pp)), (5, .ref q), (3, .int v), (2, .int (nI t)), (1, .ref h), (0, .ref b)]) rfl ?_
    refine g_more (k2 := k + 20) (n2 := n + 120) (by omega) (by omega) ?_
    refine sg_cmp3 (w0 := wet) X J hF (fun c _ => Int32.sub_self _) (by omega) (by omega) ?_
    refine g_more (k2 := k + 400) (n2 := n + 2600) (by omega) (by omega) ?_
    exact kk _ _ _ _ _ _ _ _ _ _ _ J (by omega)
  · intro h1 hcd; exfalso; omega
  · intro f1 f2 f3
    refine g_istore (lv' := [(12, .int (-1)), (11, .int (nI cc)), (10, .int 3), (8, .long (dgT np hr P wet cover sun (fun _ => 0))), (7, .int (gz (lsp (P pp) wet))), (6, .int (nI pp)), (5, .ref q), (4, .int (nI np)), (3, .int v), (2, .int (nI t)), (1, .ref h), (0, .ref b)]) C dL_law_315 (by decide) rfl ?_
    refine g_iload C dL_law_317 0 rfl ?_
    refine g_if_ge (tgt := 332) C dL_law_319 (by decide) (fun c_17 => by exfalso; exact absurd c_17 (by decide)) (fun c_17 => ?_)
    refine g_aload_n C dL_law_322 rfl 10 rfl ?_
    refine q_digest X J dL_law_323 (Nat.le_of_ble_eq_true rfl) (by omega) (by omega) (fun mk_18 fd_19 => ?_)
    refine g_eql (y := dgT np hr P wet cover sun (fun _ => 0)) dig_fd ?_
    refine g_lload C dL_law_326 3 rfl ?_
    refine g_lcmp C dL_law_328 ?_
    refine g_if_ne (tgt := 348) C dL_law_329 (by decide) (fun c_20 => by exfalso; exact c_20 (lcmp0 rfl)) (fun c_20 => ?_)
    refine g_iload C dL_law_332 2 rfl ?_
    refine g_iconst (v := 4) C dL_law_334 (by decide) ?_
    refine g_icmp_ge (tgt := 350) C dL_law_335 (by decide) (fun c_21 => by exfalso; exact absurd c_21 (by decide)) (fun c_21 => ?_)
    refine g_iload C dL_law_338 4 rfl ?_
    refine g_if_ne (tgt := 350) C dL_law_340 (by decide) (fun c_22 => ?_) (fun c_22 => ?_)
    · skip
      replace c_22 := gzn.mp c_22
      refine g_iload C dL_law_350 2 rfl ?_
      refine g_iconst (v := 2) C dL_law_352 (by decide) ?_
      refine g_icmp_ne (tgt := 382) C dL_law_353 (by decide) (fun c_23 => ?_) (fun c_23 => by exfalso; exact absurd c_23 (by decide))
      refine g_iload C dL_law_382 2 rfl ?_
      refine g_iconst (v := 3) C dL_law_384 (by decide) ?_
      refine g_icmp_ne (tgt := 428) C dL_law_385 (by decide) (fun c_24 => by exfalso; exact absurd c_24 (by decide)) (fun c_24 => ?_)
      refine g_iload C dL_law_388 0 rfl ?_
      refine g_if_le (tgt := 428) C dL_law_390 (by decide) (fun c_25 => ?_) (fun c_25 => by exfalso; exact absurd c_25 (by decide))
      refine g_iload C dL_law_428 2 rfl ?_
      refine g_iconst (v := 4) C dL_law_430 (by decide) ?_
      refine g_icmp_ne (tgt := 457) C dL_law_431 (by decide) (fun c_26 => ?_) (fun c_26 => by exfalso; exact absurd c_26 (by decide))
      refine g_sub [2, 4, 5, 6, 8, 9, 10, 11] (lv' := [(10, .int 3), (7, .int (gz (lsp (P pp) wet))), (6, .int (nI pp)), (5, .ref q), (3, .int v), (2, .int (nI t)), (1, .ref h), (0, .ref b)]) rfl ?_
      refine g_more (k2 := k + 20) (n2 := n + 120) (by omega) (by omega) ?_
      refine sg_cmp3 (w0 := wet) X J hF (fun c _ => Int32.sub_self _) (by omega) (by omega) ?_
      refine g_more (k2 := k + 400) (n2 := n + 2600) (by omega) (by omega) ?_
      exact kk _ _ _ _ _ _ _ _ _ _ _ J (by omega)
    · skip
      replace c_22 := gz0.mp c_22
      refine g_iload C dL_law_343 0 rfl ?_
      refine g_if_lt (tgt := 350) C dL_law_345 (by decide) (fun c_27 => ?_) (fun c_27 => by exfalso; exact absurd c_27 (by decide))
      refine g_iload C dL_law_350 2 rfl ?_
      refine g_iconst (v := 2) C dL_law_352 (by decide) ?_
      refine g_icmp_ne (tgt := 382) C dL_law_353 (by decide) (fun c_28 => ?_) (fun c_28 => by exfalso; exact absurd c_28 (by decide))
      refine g_iload C dL_law_382 2 rfl ?_
      refine g_iconst (v := 3) C dL_law_384 (by decide) ?_
      refine g_icmp_ne (tgt := 428) C dL_law_385 (by decide) (fun c_29 => by exfalso; exact absurd c_29 (by decide)) (fun c_29 => ?_)
      refine g_iload C dL_law_388 0 rfl ?_
      refine g_if_le (tgt := 428) C dL_law_390 (by decide) (fun c_30 => ?_) (fun c_30 => by exfalso; exact absurd c_30 (by decide))
      refine g_iload C dL_law_428 2 rfl ?_
      refine g_iconst (v := 4) C dL_law_430 (by decide) ?_
      refine g_icmp_ne (tgt := 457) C dL_law_431 (by decide) (fun c_31 => ?_) (fun c_31 => by exfalso; exact absurd c_31 (by decide))
      refine g_sub [2, 4, 5, 6, 8, 9, 10, 11] (lv' := [(10, .int 3), (7, .int (gz (lsp (P pp) wet))), (6, .int (nI pp)), (5, .ref q), (3, .int v), (2, .int (nI t)), (1, .ref h), (0, .ref b)]) rfl ?_
      refine g_more (k2 := k + 20) (n2 := n + 120) (by omega) (by omega) ?_
      refine sg_cmp3 (w0 := wet) X J hF (fun c _ => Int32.sub_self _) (by omega) (by omega) ?_
      refine g_more (k2 := k + 400) (n2 := n + 2600) (by omega) (by omega) ?_
      exact kk _ _ _ _ _ _ _ _ _ _ _ J (by omega)
set_option maxHeartbeats 4000000 in
set_option maxRecDepth 100000 in
theorem sg_Btake {p : Program} {l : Launch} {e : Env} {s : State} {m : MethodId} {args : Array Value} {below : List Frame} {meth : Method} {c : Code} {Q : State → Prop} {D : va_G} {A : Nat → Prop} {tys : List (ClassId × FieldType)} {rt : Option FieldType} {cI cP cZ cA cB : ClassId} {b L : Nat} {xs : Nat → Int32} {k n : Nat} {h np hr : Nat} {ad : Nat → Nat} {wet cover sun fs mk fd : Nat → Int32} {pcs : Nat → Option Nat} {pa : Nat → Nat} {P : Nat → Pd} {t pp q : Nat} {v : Int32} {r : Nat → Nat} {F : Nat → Nat → Int32} (X : Cx p l s m args meth c D A tys rt cI cP cZ cA cB b L xs) (J : JV np wet cover sun P pcs pa) (hF : ∀ i j, i ≤ 9 → j ≤ 7 → F i j = wet (10 * j + i)) (hpp : pp < np) (hk : k + 400 ≤ 605351) (hn : n + 2600 ≤ 7285716)
    (kk : ∀ (np2 hr2 : Nat) (wet2 cover2 sun2 fs2 mk2 fd2 : Nat → Int32) (pcs2 : Nat → Option Nat) (pa2 : Nat → Nat) (P2 : Nat → Pd), JV np2 wet2 cover2 sun2 P2 pcs2 pa2 → hr2 ≤ hr + 3 → G p l e room_1 s m args below meth c D A s.heap 21 (k + 400) (n + 2600) Q 746 [(3, .int v), (2, .int (nI t)), (1, .ref h), (0, .ref b)] [] (Wm cI cP h ad np2 hr2 wet2 cover2 sun2 fs2 mk2 fd2 pcs2 pa2 P2 [])) :
    G p l e room_1 s m args below meth c D A s.heap 21 k n Q 147 [(10, .int 4), (8, .long (dgT np hr P wet cover sun (fun _ => 0))), (7, .int (gz (lsp (P pp) wet))), (6, .int (nI pp)), (5, .ref q), (4, .int (nI np)), (3, .int v), (2, .int (nI t)), (1, .ref h), (0, .ref b)] [] (Wm cI cP h ad np hr wet cover sun fs mk fd pcs pa P ((Mt cA cI q r F))) := by
  have C := X.C
  obtain ⟨cc, hcc6, hcc⟩ := oth_col (J.2.2.1 pp hpp)
  have hnp := J.1
  have hq1 := (J.2.1 pp hpp).1
  have hq3 := (J.2.1 pp hpp).2.1
  refine g_iload C dL_law_147 0 rfl ?_
  refine g_iconst (v := 2) C dL_law_149 (by decide) ?_
  refine g_icmp_ge (tgt := 275) C dL_law_150 (by decide) (fun c_1 => ?_) (fun c_1 => by exfalso; exact absurd c_1 (by decide))
  refine g_iload C dL_law_275 0 rfl ?_
  refine g_iconst (v := 5) C dL_law_277 (by decide) ?_
  refine g_icmp_ge (tgt := 575) C dL_law_278 (by decide) (fun c_2 => by exfalso; exact absurd c_2 (by decide)) (fun c_2 => ?_)
  refine g_iload C dL_law_281 5 rfl ?_
  refine g_if_le (tgt := 575) C dL_law_283 (by decide) (fun c_3 => by exfalso; rw [show (0 : Int32) = nI 0 from rfl, nI_leI (by omega) (by omega)] at c_3; omega) (fun c_3 => ?_)
  rw [show (0 : Int32) = nI 0 from rfl, nI_leI (by omega) (by omega)] at c_3
  refine g_aload_n C dL_law_286 rfl 8 rfl ?_
  refine g_iload C dL_law_287 3 rfl ?_
  refine g_iconst (v := 5) C dL_law_289 (by decide) ?_
  refine q_piece (w := 5) (v := pp) X J (by omega) (by omega) rfl dL_law_290 (Nat.le_of_ble_eq_true rfl) (by omega) (by omega) ?_
  refine g_eqi (y := oth (P pp)) rfl ?_
  refine g_eqi (x := oth (P pp)) (y := nI cc) (hcc) ?_
  refine g_istore (lv' := [(11, .int (nI cc)), (10, .int 4), (8, .long (dgT np hr P wet cover sun (fun _ => 0))), (7, .int (gz (lsp (P pp) wet))), (6, .int (nI pp)), (5, .ref q), (4, .int (nI np)), (3, .int v), (2, .int (nI t)), (1, .ref h), (0, .ref b)]) C dL_law_293 (by decide) rfl ?_
  refine g_aload_n C dL_law_295 rfl 9 rfl ?_
  refine g_iload C dL_law_296 4 rfl ?_
  refine g_iload C dL_law_298 1 rfl ?_
  refine g_iconst (v := 2) C dL_law_300 (by decide) ?_
  refine g_icmp_ne (tgt := 308) C dL_law_301 (by decide) (fun c_4 => ?_) (fun c_4 => by exfalso; exact absurd c_4 (by decide))
  refine g_iload C dL_law_308 1 rfl ?_
  refine g_iconst (v := 1) C dL_law_310 (by decide) ?_
  refine g_isub C dL_law_311 ?_
  refine g_eqi (x := 4 - 1) (y := 3) (by decide) ?_
  refine q_act (v := pp) (a9 := 3) X J hpp (by omega) rfl dL_law_312 (Nat.le_of_ble_eq_true rfl) (by omega) (by omega) ?_ ?_ ?_ ?_
  · intro h1 hcd; exfalso; omega
  · intro h1 hcd; exfalso; omega
  · intro h1 hcd
    obtain ⟨ho, J2⟩ := jv_take J hpp hcd
    refine g_eqw (ws' := (Wm cI cP h ad np hr (if lsp (P pp) wet = true then wet else setL wet (pcl (P pp)) (-1) (ql (P pp))) (setL cover (pcl (P pp)) (-1) (ql (P pp))) sun fs mk fd pcs pa (pup P pp (tko (P pp))) ((Mt cA cI q r F)))) rfl ?_
    refine g_istore (lv' := [(12, .int (gz (lsp (P pp) wet))), (11, .int (nI cc)), (10, .int 4), (8, .long (dgT np hr P wet cover sun (fun _ => 0))), (7, .int (gz (lsp (P pp) wet))), (6, .int (nI pp)), (5, .ref q), (4, .int (nI np)), (3, .int v), (2, .int (nI t)), (1, .ref h), (0, .ref b)]) C dL_law_315 (by decide) rfl ?_
    refine g_iload C dL_law_317 0 rfl ?_
    refine g_if_ge (tgt := 332) C dL_law_319 (by decide) (fun c_5 => ?_) (fun c_5 => by exfalso; exact c_5 (gz_ge _))
    refine g_iload C dL_law_332 2 rfl ?_
    refine g_iconst (v := 4) C dL_law_334 (by decide) ?_
    refine g_icmp_ge (tgt := 350) C dL_law_335 (by decide) (fun c_6 => ?_) (fun c_6 => by exfalso; exact absurd c_6 (by decide))
    refine g_iload C dL_law_350 2 rfl ?_
    refine g_iconst (v := 2) C dL_law_352 (by decide) ?_
    refine g_icmp_ne (tgt := 382) C dL_law_353 (by decide) (fun c_7 => ?_) (fun c_7 => by exfalso; exact absurd c_7 (by decide))
    refine g_iload C dL_law_382 2 rfl ?_
    refine g_iconst (v := 3) C dL_law_384 (by decide) ?_
    refine g_icmp_ne (tgt := 428) C dL_law_385 (by decide) (fun c_8 => ?_) (fun c_8 => by exfalso; exact absurd c_8 (by decide))
    refine g_iload C dL_law_428 2 rfl ?_
    refine g_iconst (v := 4) C dL_law_430 (by decide) ?_
    refine g_icmp_ne (tgt := 457) C dL_law_431 (by decide) (fun c_9 => by exfalso; exact absurd c_9 (by decide)) (fun c_9 => ?_)
    refine g_iload C dL_law_434 0 rfl ?_
    refine g_if_lt (tgt := 457) C dL_law_436 (by decide) (fun c_10 => by exfalso; exact gz_nlt _ c_10) (fun c_10 => ?_)
    refine g_iload C dL_law_439 0 rfl ?_
    refine g_iconst (v := 1) C dL_law_441 (by decide) ?_
    refine tic_ne (v := lsp (P pp) wet) C (fun h => gzn1.mp h) (fun h => gz1.mp (Classical.not_not.mp h)) dL_law_442 dL_law_445 dL_law_446 dL_law_449 ?_
    refine g_iload C dL_law_450 4 rfl ?_
    refine g_icmp_eq (tgt := 457) C dL_law_452 (by decide) (fun c_11 => ?_) (fun c_11 => by exfalso; exact c_11 rfl)
    refine g_sub [2, 4, 5, 6, 8, 9, 10, 11] (lv' := [(10, .int 4), (7, .int (gz (lsp (P pp) wet))), (6, .int (nI pp)), (5, .ref q), (3, .int v), (2, .int (nI t)), (1, .ref h), (0, .ref b)]) rfl ?_
    refine g_more (k2 := k + 20) (n2 := n + 120) (by omega) (by omega) ?_
    refine sg_cmp4 (w0 := wet) X J2 hF (take_le) (by omega) (by omega) ?_
    refine g_more (k2 := k + 400) (n2 := n + 2600) (by omega) (by omega) ?_
    exact kk _ _ _ _ _ _ _ _ _ _ _ J2 (by omega)
  · intro f1 f2 f3
    refine g_istore (lv' := [(12, .int (-1)), (11, .int (nI cc)), (10, .int 4), (8, .long (dgT np hr P wet cover sun (fun _ => 0))), (7, .int (gz (lsp (P pp) wet))), (6, .int (nI pp)), (5, .ref q), (4, .int (nI np)), (3, .int v), (2, .int (nI t)), (1, .ref h), (0, .ref b)]) C dL_law_315 (by decide) rfl ?_
    refine g_iload C dL_law_317 0 rfl ?_
    refine g_if_ge (tgt := 332) C dL_law_319 (by decide) (fun c_12 => by exfalso; exact absurd c_12 (by decide)) (fun c_12 => ?_)
    refine g_aload_n C dL_law_322 rfl 10 rfl ?_
    refine q_digest X J dL_law_323 (Nat.le_of_ble_eq_true rfl) (by omega) (by omega) (fun mk_13 fd_14 => ?_)
    refine g_eql (y := dgT np hr P wet cover sun (fun _ => 0)) dig_fd ?_
    refine g_lload C dL_law_326 3 rfl ?_
    refine g_lcmp C dL_law_328 ?_
    refine g_if_ne (tgt := 348) C dL_law_329 (by decide) (fun c_15 => by exfalso; exact c_15 (lcmp0 rfl)) (fun c_15 => ?_)
    refine g_iload C dL_law_332 2 rfl ?_
    refine g_iconst (v := 4) C dL_law_334 (by decide) ?_
    refine g_icmp_ge (tgt := 350) C dL_law_335 (by decide) (fun c_16 => ?_) (fun c_16 => by exfalso; exact absurd c_16 (by decide))
    refine g_iload C dL_law_350 2 rfl ?_
    refine g_iconst (v := 2) C dL_law_352 (by decide) ?_
    refine g_icmp_ne (tgt := 382) C dL_law_353 (by decide) (fun c_17 => ?_) (fun c_17 => by exfalso; exact absurd c_17 (by decide))
    refine g_iload C dL_law_382 2 rfl ?_
    refine g_iconst (v := 3) C dL_law_384 (by decide) ?_
    refine g_icmp_ne (tgt := 428) C dL_law_385 (by decide) (fun c_18 => ?_) (fun c_18 => by exfalso; exact absurd c_18 (by decide))
    refine g_iload C dL_law_428 2 rfl ?_
    refine g_iconst (v := 4) C dL_law_430 (by decide) ?_
    refine g_icmp_ne (tgt := 457) C dL_law_431 (by decide) (fun c_19 => by exfalso; exact absurd c_19 (by decide)) (fun c_19 => ?_)
    refine g_iload C dL_law_434 0 rfl ?_
    refine g_if_lt (tgt := 457) C dL_law_436 (by decide) (fun c_20 => ?_) (fun c_20 => by exfalso; exact absurd c_20 (by decide))
    refine g_sub [2, 4, 5, 6, 8, 9, 10, 11] (lv' := [(10, .int 4), (7, .int (gz (lsp (P pp) wet))), (6, .int (nI pp)), (5, .ref q), (3, .int v), (2, .int (nI t)), (1, .ref h), (0, .ref b)]) rfl ?_
    refine g_more (k2 := k + 20) (n2 := n + 120) (by omega) (by omega) ?_
    refine sg_cmp4 (w0 := wet) X J hF (fun c _ => Or.inl (Int32.sub_self _)) (by omega) (by omega) ?_
    refine g_more (k2 := k + 400) (n2 := n + 2600) (by omega) (by omega) ?_
    exact kk _ _ _ _ _ _ _ _ _ _ _ J (by omega)
set_option maxHeartbeats 4000000 in
set_option maxRecDepth 100000 in
theorem sg_Bnone {p : Program} {l : Launch} {e : Env} {s : State} {m : MethodId} {args : Array Value} {below : List Frame} {meth : Method} {c : Code} {Q : State → Prop} {D : va_G} {A : Nat → Prop} {tys : List (ClassId × FieldType)} {rt : Option FieldType} {cI cP cZ cA cB : ClassId} {b L : Nat} {xs : Nat → Int32} {k n : Nat} {h np hr : Nat} {ad : Nat → Nat} {wet cover sun fs mk fd : Nat → Int32} {pcs : Nat → Option Nat} {pa : Nat → Nat} {P : Nat → Pd} {t pp q : Nat} {v : Int32} {r : Nat → Nat} {F : Nat → Nat → Int32} {wh : Nat} {il : Bool} (X : Cx p l s m args meth c D A tys rt cI cP cZ cA cB b L xs) (J : JV np wet cover sun P pcs pa) (hwh : 2 ≤ wh) (hwh4 : wh ≤ 4) (hnp0 : np = 0) (hk : k + 400 ≤ 605351) (hn : n + 2600 ≤ 7285716)
    (kk : ∀ (np2 hr2 : Nat) (wet2 cover2 sun2 fs2 mk2 fd2 : Nat → Int32) (pcs2 : Nat → Option Nat) (pa2 : Nat → Nat) (P2 : Nat → Pd), JV np2 wet2 cover2 sun2 P2 pcs2 pa2 → hr2 ≤ hr + 3 → G p l e room_1 s m args below meth c D A s.heap 21 (k + 400) (n + 2600) Q 746 [(3, .int v), (2, .int (nI t)), (1, .ref h), (0, .ref b)] [] (Wm cI cP h ad np2 hr2 wet2 cover2 sun2 fs2 mk2 fd2 pcs2 pa2 P2 [])) :
    G p l e room_1 s m args below meth c D A s.heap 21 k n Q 147 [(10, .int (nI wh)), (8, .long (dgT np hr P wet cover sun (fun _ => 0))), (7, .int (gz il)), (6, .int (nI pp)), (5, .ref q), (4, .int (nI np)), (3, .int v), (2, .int (nI t)), (1, .ref h), (0, .ref b)] [] (Wm cI cP h ad np hr wet cover sun fs mk fd pcs pa P ((Mt cA cI q r F))) := by
  have C := X.C
  refine g_iload C dL_law_147 0 rfl ?_
  refine g_iconst (v := 2) C dL_law_149 (by decide) ?_
  refine g_icmp_ge (tgt := 275) C dL_law_150 (by decide) (fun c_1 => ?_) (fun c_1 => by exfalso; rw [show (2 : Int32) = nI 2 from rfl, nI_leI (by omega) (by omega)] at c_1; omega)
  rw [show (2 : Int32) = nI 2 from rfl, nI_leI (by omega) (by omega)] at c_1
  refine g_iload C dL_law_275 0 rfl ?_
  refine g_iconst (v := 5) C dL_law_277 (by decide) ?_
  refine g_icmp_ge (tgt := 575) C dL_law_278 (by decide) (fun c_2 => by exfalso; rw [show (5 : Int32) = nI 5 from rfl, nI_leI (by omega) (by omega)] at c_2; omega) (fun c_2 => ?_)
  rw [show (5 : Int32) = nI 5 from rfl, nI_leI (by omega) (by omega)] at c_2
  refine g_iload C dL_law_281 5 rfl ?_
  refine g_if_le (tgt := 575) C dL_law_283 (by decide) (fun c_3 => ?_) (fun c_3 => by exfalso; rw [show (0 : Int32) = nI 0 from rfl, nI_leI (by omega) (by omega)] at c_3; omega)
  rw [show (0 : Int32) = nI 0 from rfl, nI_leI (by omega) (by omega)] at c_3
  refine g_iload C dL_law_575 0 rfl ?_
  refine g_iconst (v := 5) C dL_law_577 (by decide) ?_
  refine g_icmp_ne (tgt := 746) C dL_law_578 (by decide) (fun c_4 => ?_) (fun c_4 => by exfalso; rw [show (5 : Int32) = nI 5 from rfl, nI_eq (by omega) (by omega)] at c_4; omega)
  rw [show (5 : Int32) = nI 5 from rfl, nI_eq (by omega) (by omega)] at c_4
  refine g_sub [6, 7, 8, 9] (lv' := [(3, .int v), (2, .int (nI t)), (1, .ref h), (0, .ref b)]) rfl ?_
  refine g_more (k2 := k + 400) (n2 := n + 2600) (by omega) (by omega) ?_
  refine g_less (ws' := (Wm cI cP h ad np hr wet cover sun fs mk fd pcs pa P [])) tl_less ?_
  exact kk _ _ _ _ _ _ _ _ _ _ _ J (by omega)
