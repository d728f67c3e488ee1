/-! the loop of the law -/
theorem LI_0 {cI cP cL : ClassId} {h o u0 N : Nat} {W : va_W} (hI : LI cI cP cL h o u0 N W) : LI cI cP cL h o u0 (N + 1) W := by
  obtain ⟨a1, a2, a3, a4, a5, a6, a7, u1, u2, u3, u4, u5, u6, u7, u8, u9, u10, u11, u12, u13, u14, np, hr, th, ah, wet, cover, sun, fs, mk, fd, fi, le, ac, se, hh, ou, rw, fo, aw, pcs, pa, P, g, rfl, hI⟩ := hI
  exact ⟨_, _, _, _, _, _, _, _, _, _, _, _, _, _, _, _, _, _, _, _, _, _, _, _, _, _, _, _, _, _, _, _, _, _, _, _, _, _, _, _, _, _, _, _, rfl, iv_0 hI⟩
theorem lawI7 : ∀ L, L < 7 → (nI L - 7).toInt < 0 := by decide +kernel
theorem lawI {i L : Nat} (hi : i < 2 ^ 30) (hL : L ≤ 3584) (h : ¬ nI L - 7 < nI i) : i + 7 ≤ L := by
  rw [fa_lt, nI_toInt (by omega)] at h
  by_cases h7 : L < 7
  · have := lawI7 L h7; omega
  · rw [show (7 : Int32) = nI 7 from rfl, pk_sub (by omega), nI_toInt (by omega)] at h
    omega
set_option maxHeartbeats 4000000 in
set_option maxRecDepth 100000 in
theorem law_loop {p : Program} {l : Launch} {e : Env} {s : State} {m : MethodId} {args : Array Value} {below : List Frame} {meth : Method} {c : Code} {Q : State → Prop} {D : va_G} {A : Nat → Prop} {tys : List (ClassId × FieldType)} {rt : Option FieldType} {cI cP cL : ClassId} (hl9 : l.stackTraces = false) (C : gC p s m args meth c D A s.heap tys cL_law 9 wsL_law RL rt) (ht0 : tys[0]? = some (cI, .int)) (ht1 : tys[1]? = some (cP, .object RX0)) (ht2 : tys[2]? = some (cL, .long)) {b L : Nat} {xs : Nat → Int32} (hX : va_X b L xs s s.heap) (hbl : b < s.heap.size) (hbA : ¬ A b) (hL : L ≤ 3584) {h o u0 : Nat}
    (kend : ∀ (k n i : Nat) (W : va_W), k ≤ 601024 → n ≤ 7293034 → G p l e room_1 s m args below meth c D A s.heap 9 k n Q 1311 [(4, .int (nI i)), (3, .ref o), (2, .ref u0), (1, .ref h), (0, .ref b)] [] W) :
    ∀ (n9 N : Nat) (W : va_W), 513 ≤ N + n9 → 7 * N ≤ L → LI cI cP cL h o u0 N W → G p l e room_1 s m args below meth c D A s.heap 9 (30 + 2 * N) (3000 + 14 * N) Q 23 [(4, .int (nI (7 * N))), (3, .ref o), (2, .ref u0), (1, .ref h), (0, .ref b)] [] W := by
  intro n9
  induction n9 with
  | zero => intro N W h1 h2; exfalso; omega
  | succ n9 ih =>
    intro N W h1 h2 hI
    refine g_iload C dL_law_23 0 rfl ?_
    refine g_aload_n C dL_law_25 rfl 4 rfl ?_
    refine g_slen C hX hbl hbA dL_law_26 ?_
    refine g_bipush (v := 7) C dL_law_27 (by decide) ?_
    refine g_isub C dL_law_29 ?_
    refine g_icmp_gt (tgt := 1311) C dL_law_30 (by decide) (fun _ => kend _ _ _ W (by omega) (by omega)) (fun hc => ?_)
    have hi : 7 * N + 7 ≤ L := lawI (by omega) hL hc
    refine g_aload_n C dL_law_33 rfl 4 rfl ?_
    refine g_iload C dL_law_34 0 rfl ?_
    refine g_sld C hX hbl hbA (vp_in_nI (by omega) (by omega)) dL_law_36 ?_
    refine g_bipush (v := 31) C dL_law_37 (by decide) ?_
    refine g_iand C dL_law_39 ?_
    obtain ⟨t, ht, et⟩ := pk_andE (xs (nI (7 * N)).toNatClampNeg) (m := 31) 5 (by decide)
    refine g_eqi (y := nI t) et ?_
    have kk : ∀ W', LI cI cP cL h o u0 (N + 1) W' → G p l e room_1 s m args below meth c D A s.heap 9 (30 + 2 * N + 2) (3000 + 14 * N + 14) Q 1305 [(4, .int (nI (7 * N))), (3, .ref o), (2, .ref u0), (1, .ref h), (0, .ref b)] [] W' := by
      intro W' hI'
      refine g_iinc (v := nI (7 * N + 7)) (lv' := [(4, .int (nI (7 * N + 7))), (3, .ref o), (2, .ref u0), (1, .ref h), (0, .ref b)]) C dL_law_1305 0 rfl (by exact nI_add _ 7) (by decide) rfl ?_
      refine g_goto (tgt := 23) C dL_law_1308 (by decide) ?_
      refine g_more (k2 := 30 + 2 * (N + 1)) (n2 := 3000 + 14 * (N + 1)) (by omega) (by omega) ?_
      have := ih (N + 1) W' (by omega) (by omega) hI'
      rw [show 7 * (N + 1) = 7 * N + 7 by omega] at this
      exact this
    rcases (show t = 0 ∨ t = 1 ∨ t = 2 ∨ t = 3 ∨ t = 4 ∨ t = 5 ∨ t = 6 ∨ t = 7 ∨ t = 8 ∨ t = 9 ∨ t = 10 ∨ t = 11 ∨ t = 12 ∨ t = 13 ∨ t = 14 ∨ t = 15 ∨ t = 16 ∨ t = 17 ∨ 18 ≤ t by omega) with rfl | rfl | rfl | rfl | rfl | rfl | rfl | rfl | rfl | rfl | rfl | rfl | rfl | rfl | rfl | rfl | rfl | rfl | h18
    · refine g_tableIn (off := 88) (tgt := 128) C dL_law_40 (by decide) (by decide) (by decide) (by decide) ?_
      exact law_spread hl9 C ht0 ht1 ht2 hX hbl hbA hi hL (by omega) hI (by omega) (by omega) kk
    · refine g_tableIn (off := 180) (tgt := 220) C dL_law_40 (by decide) (by decide) (by decide) (by decide) ?_
      exact law_setSun hl9 C ht0 ht1 ht2 hX hbl hbA hi hL (by omega) hI (by omega) (by omega) kk
    · refine g_tableIn (off := 248) (tgt := 288) C dL_law_40 (by decide) (by decide) (by decide) (by decide) ?_
      exact law_press hl9 C ht0 ht1 ht2 hX hbl hbA hi hL (by omega) hI (by omega) (by omega) kk
    · refine g_tableIn (off := 382) (tgt := 422) C dL_law_40 (by decide) (by decide) (by decide) (by decide) ?_
      exact law_flip hl9 C ht0 ht1 ht2 hX hbl hbA hi hL (by omega) hI (by omega) (by omega) kk
    · refine g_tableIn (off := 438) (tgt := 478) C dL_law_40 (by decide) (by decide) (by decide) (by decide) ?_
      exact law_turn hl9 C ht0 ht1 ht2 hX hbl hbA hi hL (by omega) hI (by omega) (by omega) kk
    · refine g_tableIn (off := 494) (tgt := 534) C dL_law_40 (by decide) (by decide) (by decide) (by decide) ?_
      exact law_take hl9 C ht0 ht1 ht2 hX hbl hbA hi hL (by omega) hI (by omega) (by omega) kk
    · refine g_tableIn (off := 557) (tgt := 597) C dL_law_40 (by decide) (by decide) (by decide) (by decide) ?_
      exact law_cell hl9 C ht0 ht1 ht2 hX hbl hbA hi hL (by omega) hI (by omega) (by omega) kk
    · refine g_tableIn (off := 637) (tgt := 677) C dL_law_40 (by decide) (by decide) (by decide) (by decide) ?_
      exact law_piece hl9 C ht0 ht1 ht2 hX hbl hbA hi hL (by omega) hI (by omega) (by omega) kk
    · refine g_tableIn (off := 705) (tgt := 745) C dL_law_40 (by decide) (by decide) (by decide) (by decide) ?_
      exact law_count hl9 C ht0 ht1 ht2 hX hbl hbA hi hL (by omega) hI (by omega) (by omega) kk
    · refine g_tableIn (off := 761) (tgt := 801) C dL_law_40 (by decide) (by decide) (by decide) (by decide) ?_
      exact law_off hl9 C ht0 ht1 ht2 hX hbl hbA hi hL (by omega) hI (by omega) (by omega) kk
    · refine g_tableIn (off := 841) (tgt := 881) C dL_law_40 (by decide) (by decide) (by decide) (by decide) ?_
      exact law_advise hl9 C ht0 ht1 ht2 hX hbl hbA hi hL (by omega) hI (by omega) (by omega) kk
    · refine g_tableIn (off := 921) (tgt := 961) C dL_law_40 (by decide) (by decide) (by decide) (by decide) ?_
      exact law_mends hl9 C ht0 ht1 ht2 hX hbl hbA hi hL (by omega) hI (by omega) (by omega) kk
    · refine g_tableIn (off := 1017) (tgt := 1057) C dL_law_40 (by decide) (by decide) (by decide) (by decide) ?_
      exact law_gap hl9 C ht0 ht1 ht2 hX hbl hbA hi hL (by omega) hI (by omega) (by omega) kk
    · refine g_tableIn (off := 1085) (tgt := 1125) C dL_law_40 (by decide) (by decide) (by decide) (by decide) ?_
      exact law_pass hl9 C ht0 ht1 ht2 hX hbl hbA hi hL (by omega) hI (by omega) (by omega) kk
    · refine g_tableIn (off := 1141) (tgt := 1181) C dL_law_40 (by decide) (by decide) (by decide) (by decide) ?_
      exact law_loose hl9 C ht0 ht1 ht2 hX hbl hbA hi hL (by omega) hI (by omega) (by omega) kk
    · refine g_tableIn (off := 1197) (tgt := 1237) C dL_law_40 (by decide) (by decide) (by decide) (by decide) ?_
      exact law_dry hl9 C ht0 ht1 ht2 hX hbl hbA hi hL (by omega) hI (by omega) (by omega) kk
    · refine g_tableIn (off := 1210) (tgt := 1250) C dL_law_40 (by decide) (by decide) (by decide) (by decide) ?_
      exact law_share hl9 C ht0 ht1 ht2 hX hbl hbA hi hL (by omega) hI (by omega) (by omega) kk
    · refine g_tableIn (off := 1251) (tgt := 1291) C dL_law_40 (by decide) (by decide) (by decide) (by decide) ?_
      exact law_digest hl9 C ht0 ht1 ht2 hX hbl hbA hi hL (by omega) hI (by omega) (by omega) kk
    · refine g_tableOut (tgt := 1305) C dL_law_40 (Or.inr (by rw [nI_toInt (by omega)]; omega)) (by decide) ?_
      refine g_more (k2 := 30 + 2 * N + 2) (n2 := 3000 + 14 * N + 14) (by omega) (by omega) ?_
      exact kk W (LI_0 hI)
theorem k_law_0 : Cond.classLink RL 8 RX1 ∈ wsL_law := by decide +kernel
theorem k_law_1 : Cond.instantiable RX1 9 ∈ wsL_law := by decide +kernel
theorem k_law_2 : Cond.initialized RX1 ∈ wsL_law := by decide +kernel
theorem k_law_3 : Cond.classLink RL 68 RX3 ∈ wsL_law := by decide +kernel
theorem k_law_4 : Cond.instantiable RX3 14 ∈ wsL_law := by decide +kernel
theorem k_law_5 : Cond.initialized RX3 ∈ wsL_law := by decide +kernel
theorem k_law_6 : Cond.methodLink RL 67 yX1_init ∈ wsL_law := by decide +kernel
theorem k_law_7 : Cond.instanceMethod yX1_init ∈ wsL_law := by decide +kernel
theorem k_law_8 : Cond.methodLink RL 70 yX3_init ∈ wsL_law := by decide +kernel
theorem k_law_9 : Cond.instanceMethod yX3_init ∈ wsL_law := by decide +kernel
theorem k_law_10 : Cond.arrayClass .long ∈ wsL_law := by decide +kernel
theorem t_gN : ∀ w ∈ gN, w ∈ lw_tbl := by decide +kernel
theorem t_gNo : ∀ w ∈ gN, w.onTables = true := by decide +kernel
theorem t_gStr : ∀ q ∈ gStr, Cond.stringRef q.1 q.2.1 q.2.2 ∈ lw_tbl := by decide +kernel
theorem t_gStrX : ∀ q ∈ gStr, Cond.exactly (.string q.1 q.2.1) "java/lang/String" ∈ flatC (Jvm.Cond.and given_1 narrow_1) := by decide +kernel
theorem t_gNc : ∀ q ∈ gNc, Cond.not (.castable q.1 q.2) ∈ flatC (Jvm.Cond.and given_1 narrow_1) := by decide +kernel
theorem IV_0 {pa : Nat → Nat} {P : Nat → Pd} : IV 0 0 0 (fun _ => -1) (fun _ => -1) (fun _ => 1) P (fun _ => 0) (fun _ => 0) (fun _ => 0) (fun _ => 0) (fun _ => 0) (fun _ => 0) (fun _ => none) pa :=
  ⟨Nat.zero_le _, fun k hk => absurd hk (Nat.not_lt_zero k), ⟨fun k hk => absurd hk (Nat.not_lt_zero k), fun _ _ _ => rfl⟩, fun _ _ => Or.inl rfl, fun _ _ => Or.inl rfl, fun _ _ => ⟨1, by omega, rfl⟩, Nat.zero_le _, fun k hk => absurd hk (Nat.not_lt_zero k)⟩
theorem inX0i (n : Nat) (h : n = 8) : Cond.instantiable RX0 n ∈ lw_tbl := by subst h; decide +kernel
theorem inX2i : Cond.instantiable RX2 3 ∈ lw_tbl := by decide +kernel
theorem t_aI : Cond.arrayClass .int ∈ lw_tbl := by decide +kernel
theorem t_aP : Cond.arrayOver (.object RX0) ∈ lw_tbl := by decide +kernel
theorem t_l1 : Cond.laysStatic Bundle.tN "UNASSIGNED_STACK" Bundle.steD ∈ lw_tbl := by decide +kernel
theorem t_l2 : Cond.laysStatic Bundle.tN "SUPPRESSED_SENTINEL" Bundle.listD ∈ lw_tbl := by decide +kernel
theorem t_iT : Cond.initialized Bundle.tN ∈ lw_tbl := by decide +kernel
theorem t_r1 : Cond.isRef (.static Bundle.tN "UNASSIGNED_STACK" Bundle.steD) ∈ flatC (Jvm.Cond.and given_1 narrow_1) := by decide +kernel
theorem t_r2 : Cond.isRef (.static Bundle.tN "SUPPRESSED_SENTINEL" Bundle.listD) ∈ flatC (Jvm.Cond.and given_1 narrow_1) := by decide +kernel
set_option maxHeartbeats 4000000 in
set_option maxRecDepth 100000 in
theorem whole_start {p : Program} {e : Env} {s : State} {m : MethodId} {below : List Frame} {meth : Method} {c : Code} (l : Launch) (hflags : l.flags = flags0) {b L : Nat} {xs : Nat → Int32} (hL : L ≤ 3584) (C0 : lw_At p s m meth c b L xs) : W p l e room_1 s m #[Value.ref b] below meth c s.heap [] 0 0 (lw_Z below #[Value.ref b] s) (entryFrame m ([Value.ref b] : List Value).toArray 9) := by
  obtain ⟨hx, hb, hr, hml, hown, hts, hX, hbl, hlocks, hgv⟩ := id C0
  have hl9 : l.stackTraces = false := by unfold Launch.stackTraces; rw [hflags]; decide
  have hA : ∀ q : Nat, s.heap.size ≤ q → (fun q : Nat => s.heap.size ≤ q) q := fun _ h => h
  have hbA : ¬ (fun q : Nat => s.heap.size ≤ q) b := Nat.not_le.mpr hbl
  obtain ⟨c0, iS0, hKn0⟩ := u_known (C := RX0) (T := TX0) (N := 8) (n := 8) hts inX0 (hts (.instantiable RX0 8) (inX0i 8 rfl))
  obtain ⟨c1, iS1, hKn1⟩ := u_known (C := RX1) (T := TX1) (N := 9) (n := 9) hts inX1 (hts (.instantiable RX1 9) (wsL_law_in _ k_law_1))
  obtain ⟨c2, iS2, hKn2⟩ := u_known (C := RX2) (T := TX2) (N := 3) (n := 3) hts inX2 (hts (.instantiable RX2 3) inX2i)
  obtain ⟨c3, iS3, hKn3⟩ := u_known (C := RX3) (T := TX3) (N := 14) (n := 14) hts inX3 (hts (.instantiable RX3 14) (wsL_law_in _ k_law_4))
  obtain ⟨D, hKc⟩ : ∃ D : va_G, ∀ (k : Nat) (q : vw_C), vwCl[k]? = some q → u_Kn s q.1 q.2.1 q.2.2 (D.1 k) (D.2 k) := by
    refine ⟨(fun k => if k = 0 then c0 else if k = 1 then c1 else if k = 2 then c2 else c3, fun k => if k = 0 then iS0 else if k = 1 then iS1 else if k = 2 then iS2 else iS3), ?_⟩
    intro k q hq
    match k, hq with
    | 0, hq => cases hq; exact hKn0
    | 1, hq => cases hq; exact hKn1
    | 2, hq => cases hq; exact hKn2
    | 3, hq => cases hq; exact hKn3
    | k + 4, hq => simp [vwCl] at hq
  obtain ⟨cI, kI, pI, f1, f2, f3⟩ := Cond.arrayClass_spec (hts (.arrayClass .int) t_aI)
  obtain ⟨cL, kL, pL, g1, g2, g3⟩ := Cond.arrayClass_spec (hts (.arrayClass .long) (wsL_law_in _ k_law_10))
  have hao := hts (.arrayOver (.object RX0)) t_aP
  obtain ⟨pP, cP, kP, i1, i2, i3, i4, i5⟩ := Cond.arrayOver_spec hao
  have hK : va_K D vwCl [(cI, .int), (cP, .object RX0), (cL, .long)] s := by
    refine ⟨hKc, fun k q hq => ?_⟩
    match k, hq with
    | 0, hq => cases hq; exact ⟨fun n z => ⟨fun k h => (by cases h), kI, f2, pI, f3⟩, f1⟩
    | 1, hq => cases hq; exact ⟨fun n z => ⟨fun k h => (by cases h), kP, i3, pP, i4⟩, kP, pP, i3, i4, i1, i5⟩
    | 2, hq => cases hq; exact ⟨fun n z => ⟨fun k h => (by cases h), kL, g2, pL, g3⟩, g1⟩
    | k + 3, hq => simp at hq
  have hfl := flat_of_before _ hgv
  have hlow : ∀ a : Nat, a < s.heap.size → ¬ (fun q : Nat => s.heap.size ≤ q) a := fun a ha => Nat.not_le.mpr ha
  have hE : gE (fun q : Nat => s.heap.size ≤ q) s s.heap := by
    refine ⟨vx_Zqof (hts _ t_l1) (hts _ t_iT) (hfl _ t_r1) hlow, vx_Zqof (hts _ t_l2) (hts _ t_iT) (hfl _ t_r2) hlow, fun w hw => va_Nw.of (t_gNo w hw) (hts w (t_gN w hw)), fun q hq => ?_, fun w hw => va_Nw.of (gDC_tab (gN2_ok w hw)) (hts w (gN2_in w hw)), fun q hq => va_Nc.of (hfl _ (t_gNc q hq)), va_AO.of hao⟩
    obtain ⟨a, c, cell, k, h1, -⟩ := Cond.exactly_spec (hfl _ (t_gStrX q hq))
    exact ⟨a, vk_R.of (hts _ (t_gStr q hq)) h1⟩
  have C : gC p s m #[.ref b] meth c D (fun q : Nat => s.heap.size ≤ q) s.heap [(cI, .int), (cP, .object RX0), (cL, .long)] cL_law 9 wsL_law RL ret := ⟨hx, hb, hml, hown, fun w hw => hts w (wsL_law_in w hw), hK, hA, hr, hlocks, hE, rfl⟩
  have hS : va_S (fun q : Nat => s.heap.size ≤ q) s.heap s.heap [] := va_S.rf
  have hP : va_P D vwCl [] s.heap := fun k q h => by simp at h
  have hD : va_D (fun q : Nat => s.heap.size ≤ q) [] := ⟨fun i j p q h => by simp at h, fun k q h => by simp at h⟩
  have hl := lv_entry ([.ref b]) (n := 9) (Nat.le_of_ble_eq_true rfl)
  rw [lg_entry_eq]
  generalize (lg_sl ([.ref b]) ++ List.replicate (9 - (lg_sl ([.ref b])).length) Slot.unset).toArray = ls at hl ⊢
  have hl : lv_has ls 9 [(0, .ref b)] := hl
  have ht0 : ([(cI, .int), (cP, .object RX0), (cL, .long)] : List (ClassId × FieldType))[0]? = some (cI, .int) := rfl
  have ht1 : ([(cI, .int), (cP, .object RX0), (cL, .long)] : List (ClassId × FieldType))[1]? = some (cP, .object RX0) := rfl
  have ht2 : ([(cI, .int), (cP, .object RX0), (cL, .long)] : List (ClassId × FieldType))[2]? = some (cL, .long) := rfl
  have key : G p l e room_1 s m #[.ref b] below meth c D (fun q : Nat => s.heap.size ≤ q) s.heap 9 0 0 (lw_Z below #[Value.ref b] s) 0 [(0, .ref b)] [] [] := by
    refine g_new (ci := 1) (Cn := RX1) (T := TX1) (N := 9) (fs := [.null, .null, .null, .null, .int 0, .int 0, .null, .null, .null]) C inlX1 tyX1 tyX1_ok k_law_0 k_law_1 k_law_2 rfl (fun j hj => by rcases (show j = 0 ∨ j = 1 ∨ j = 2 ∨ j = 3 ∨ j = 4 ∨ j = 5 ∨ j = 6 ∨ j = 7 ∨ j = 8 by omega) with rfl | rfl | rfl | rfl | rfl | rfl | rfl | rfl | rfl <;> rfl) (Nat.le_of_ble_eq_true rfl) (Nat.le_of_ble_eq_true rfl) dL_law_0 (fun h hq0 => ?_)
    refine g_perm (ws' := ((h, .inr (1, [.null, .null, .null, .null, .int 0, .int 0, .null, .null, .null])) :: [])) (List.Perm.refl _) ?_
    refine g_dup C dL_law_3 rfl ?_
    refine g_callI (As := []) (rest := [.ref h]) C (c_X1_init l D _ cI cP ht0 ht1 [] h) (cwI 0 C.ts gL_law_X1_init rfl rfl rfl (C.w _ k_law_2) (C.w _ k_law_6) (C.w _ k_law_7) rfl (by decide +kernel) ⟨Nat.le_of_ble_eq_true rfl, Nat.le_of_ble_eq_true rfl⟩) rfl rfl (Nat.le_of_ble_eq_true rfl) dL_law_4 (Nat.le_of_ble_eq_true rfl) (Nat.le_of_ble_eq_true rfl) (fun v w hq9 => ?_)
    refine g_more (k2 := 8) (n2 := 517) (Nat.le_of_ble_eq_true rfl) (Nat.le_of_ble_eq_true rfl) ?_
    obtain ⟨rfl, n7, n15, n23, n31, n40, n48, n56, rfl⟩ := hq9
    refine g_astore_n (lv' := [(1, .ref h), (0, .ref b)]) C dL_law_7 rfl (by decide) rfl ?_
    refine g_new (ci := 3) (Cn := RX3) (T := TX3) (N := 14) (fs := [.int 0, .int 0, .null, .null, .null, .null, .null, .null, .null, .null, .null, .null, .null, .null]) C inlX3 tyX3 tyX3_ok k_law_3 k_law_4 k_law_5 rfl (fun j hj => by rcases (show j = 0 ∨ j = 1 ∨ j = 2 ∨ j = 3 ∨ j = 4 ∨ j = 5 ∨ j = 6 ∨ j = 7 ∨ j = 8 ∨ j = 9 ∨ j = 10 ∨ j = 11 ∨ j = 12 ∨ j = 13 by omega) with rfl | rfl | rfl | rfl | rfl | rfl | rfl | rfl | rfl | rfl | rfl | rfl | rfl | rfl <;> rfl) (Nat.le_of_ble_eq_true rfl) (Nat.le_of_ble_eq_true rfl) dL_law_8 (fun u0 hq1 => ?_)
    refine g_more (k2 := 9) (n2 := 531) (Nat.le_of_ble_eq_true rfl) (Nat.le_of_ble_eq_true rfl) ?_
    refine g_perm (ws' := ((u0, .inr (3, [.int 0, .int 0, .null, .null, .null, .null, .null, .null, .null, .null, .null, .null, .null, .null])) :: (h, .inr (1, [.ref n7, .ref n15, .ref n23, .ref n31, .int 0, .int 0, .ref n40, .ref n48, .ref n56])) :: (n7, .inl (cI, 80, .inl (fun _ => -1))) :: (n15, .inl (cI, 80, .inl (fun _ => -1))) :: (n23, .inl (cI, 8, .inl (fun _ => 1))) :: (n31, .inl (cP, 100, .inr (.inr (.inr (.inr (fun _ => none)))))) :: (n40, .inl (cI, 80, .inl (fun _ => 0))) :: (n48, .inl (cI, 80, .inl (fun _ => 0))) :: (n56, .inl (cI, 80, .inl (fun _ => 0))) :: [])) (List.perm_append_singleton _ _) ?_
    refine g_dup C dL_law_11 rfl ?_
    refine g_callI (As := []) (rest := [.ref u0]) C (c_X3_init l D _ cI ht0 ((h, .inr (1, [.ref n7, .ref n15, .ref n23, .ref n31, .int 0, .int 0, .ref n40, .ref n48, .ref n56])) :: (n7, .inl (cI, 80, .inl (fun _ => -1))) :: (n15, .inl (cI, 80, .inl (fun _ => -1))) :: (n23, .inl (cI, 8, .inl (fun _ => 1))) :: (n31, .inl (cP, 100, .inr (.inr (.inr (.inr (fun _ => none)))))) :: (n40, .inl (cI, 80, .inl (fun _ => 0))) :: (n48, .inl (cI, 80, .inl (fun _ => 0))) :: (n56, .inl (cI, 80, .inl (fun _ => 0))) :: []) u0) (cwI 0 C.ts gL_law_X3_init rfl rfl rfl (C.w _ k_law_5) (C.w _ k_law_8) (C.w _ k_law_9) rfl (by decide +kernel) ⟨Nat.le_of_ble_eq_true rfl, Nat.le_of_ble_eq_true rfl⟩) rfl rfl (Nat.le_of_ble_eq_true rfl) dL_law_12 (Nat.le_of_ble_eq_true rfl) (Nat.le_of_ble_eq_true rfl) (fun v w hq9 => ?_)
    refine g_more (k2 := 23) (n2 := 1545) (Nat.le_of_ble_eq_true rfl) (Nat.le_of_ble_eq_true rfl) ?_
    obtain ⟨rfl, b1, b2, b3, b4, b5, b6, b7, b8, b9, b10, b11, b12, b13, b14, rfl⟩ := hq9
    refine g_astore_n (lv' := [(2, .ref u0), (1, .ref h), (0, .ref b)]) C dL_law_15 rfl (by decide) rfl ?_
    refine g_iconst (v := 1) C dL_law_16 (by decide) ?_
    refine g_newl (N0 := 1) C 2 ht2 k_law_10 (by decide) (by decide) (by decide) (Nat.le_of_ble_eq_true rfl) (Nat.le_of_ble_eq_true rfl) dL_law_17 (fun o => ?_)
    refine g_more (k2 := 30) (n2 := 3000) (Nat.le_of_ble_eq_true rfl) (Nat.le_of_ble_eq_true rfl) ?_
    refine g_perm (ws' := ((h, .inr (1, [.ref n7, .ref n15, .ref n23, .ref n31, .int 0, .int 0, .ref n40, .ref n48, .ref n56])) :: (n7, .inl (cI, 80, .inl (fun _ => -1))) :: (n15, .inl (cI, 80, .inl (fun _ => -1))) :: (n23, .inl (cI, 8, .inl (fun _ => 1))) :: (n31, .inl (cP, 100, .inr (.inr (.inr (.inr (fun _ => none)))))) :: (n40, .inl (cI, 80, .inl (fun _ => 0))) :: (n48, .inl (cI, 80, .inl (fun _ => 0))) :: (n56, .inl (cI, 80, .inl (fun _ => 0))) :: (plist (fun _ => 0) (fun _ => (0, 0, 0, 0, 0, false, false, false)) 0 ++ ((o, .inl (cL, 1, .inr (.inl (fun _ => 0)))) :: (u0, .inr (3, [.int 0, .int 0, .ref b1, .ref b2, .ref b3, .ref b4, .ref b5, .ref b6, .ref b7, .ref b8, .ref b9, .ref b10, .ref b11, .ref b13])) :: (b1, .inl (cI, 100, .inl (fun _ => 0))) :: (b2, .inl (cI, 100, .inl (fun _ => 0))) :: (b3, .inl (cI, 100, .inl (fun _ => 0))) :: (b4, .inl (cI, 100, .inl (fun _ => 0))) :: (b5, .inl (cI, 100, .inl (fun _ => 0))) :: (b6, .inl (cI, 100, .inl (fun _ => 0))) :: (b7, .inl (cI, 80, .inl (fun _ => -1))) :: (b8, .inl (cI, 8, .inl (fun _ => 1))) :: (b9, .inl (cI, 80, .inl (fun _ => 0))) :: (b10, .inl (cI, 80, .inl (fun _ => 0))) :: (b11, .inr (2, [.int 0, .ref b12, .ref u0])) :: (b12, .inl (cI, 80, .inl (fun _ => -1))) :: (b13, .inr (2, [.int 0, .ref b14, .ref u0])) :: (b14, .inl (cI, 80, .inl (fun _ => 0))) :: ([] : va_W))))) (rotL (pl := []) (B := [(u0, .inr (3, [.int 0, .int 0, .ref b1, .ref b2, .ref b3, .ref b4, .ref b5, .ref b6, .ref b7, .ref b8, .ref b9, .ref b10, .ref b11, .ref b13])), (b1, .inl (cI, 100, .inl (fun _ => 0))), (b2, .inl (cI, 100, .inl (fun _ => 0))), (b3, .inl (cI, 100, .inl (fun _ => 0))), (b4, .inl (cI, 100, .inl (fun _ => 0))), (b5, .inl (cI, 100, .inl (fun _ => 0))), (b6, .inl (cI, 100, .inl (fun _ => 0))), (b7, .inl (cI, 80, .inl (fun _ => -1))), (b8, .inl (cI, 8, .inl (fun _ => 1))), (b9, .inl (cI, 80, .inl (fun _ => 0))), (b10, .inl (cI, 80, .inl (fun _ => 0))), (b11, .inr (2, [.int 0, .ref b12, .ref u0])), (b12, .inl (cI, 80, .inl (fun _ => -1))), (b13, .inr (2, [.int 0, .ref b14, .ref u0])), (b14, .inl (cI, 80, .inl (fun _ => 0)))])).symm ?_
    refine g_astore_n (lv' := [(3, .ref o), (2, .ref u0), (1, .ref h), (0, .ref b)]) C dL_law_19 rfl (by decide) rfl ?_
    refine g_iconst (v := 0) C dL_law_20 (by decide) ?_
    refine g_istore (lv' := [(4, .int 0), (3, .ref o), (2, .ref u0), (1, .ref h), (0, .ref b)]) C dL_law_21 (by decide) rfl ?_
    refine law_loop hl9 C ht0 ht1 ht2 hX hbl hbA hL ?_ 513 0 _ (by omega) (by omega) ⟨_, _, _, _, _, _, _, _, _, _, _, _, _, _, _, _, _, _, _, _, _, 0, 0, _, _, _, _, _, _, _, _, _, _, _, _, _, _, _, _, _, _, _, _, _, rfl, IV_0⟩
    intro k n i W9 hk hn
    refine g_iconst (v := 1) C dL_law_1311 (by decide) ?_
    intro H locs ls hP hD hS hl
    exact va_forget hS.2.2 (W.widen hk hn (lw_ret (Drawn.sameBut.refl s.drawn lw_cs) C.x C.b hr hlocks dL_law_1312))
  exact key s.heap [] ls hP hD hS hl
