theorem inX0i : Cond.instantiable RX0 8 ∈ lw_tbl := by decide +kernel
theorem inX1i : Cond.instantiable RX1 9 ∈ lw_tbl := by decide +kernel
theorem t_aI : Cond.arrayClass .int ∈ lw_tbl := by decide +kernel
theorem t_aZ : Cond.arrayClass .boolean ∈ lw_tbl := by decide +kernel
theorem t_aP : Cond.arrayOver (.object RX0) ∈ lw_tbl := by decide +kernel
theorem t_aA : Cond.arrayOver (.array .int) ∈ lw_tbl := by decide +kernel
theorem t_aB : Cond.arrayOver (.array .boolean) ∈ lw_tbl := by decide +kernel
theorem t_l1 : Cond.laysStatic Bundle.tN "UNASSIGNED_STACK" Bundle.steD ∈ lw_tbl := by decide +kernel
theorem t_l2 : Cond.laysStatic Bundle.tN "SUPPRESSED_SENTINEL" Bundle.listD ∈ lw_tbl := by decide +kernel
theorem t_iT : Cond.initialized Bundle.tN ∈ lw_tbl := by decide +kernel
theorem t_r1 : Cond.isRef (.static Bundle.tN "UNASSIGNED_STACK" Bundle.steD) ∈ flatC (Jvm.Cond.and given_1 narrow_1) := by decide +kernel
theorem t_r2 : Cond.isRef (.static Bundle.tN "SUPPRESSED_SENTINEL" Bundle.listD) ∈ flatC (Jvm.Cond.and given_1 narrow_1) := by decide +kernel
theorem t_gN : ∀ w ∈ gN, w ∈ lw_tbl := by decide +kernel
theorem t_gNo : ∀ w ∈ gN, w.onTables = true := by decide +kernel
theorem t_gStr : ∀ q ∈ gStr, Cond.stringRef q.1 q.2.1 q.2.2 ∈ lw_tbl := by decide +kernel
theorem t_gStrX : ∀ q ∈ gStr, Cond.exactly (.string q.1 q.2.1) "java/lang/String" ∈ flatC (Jvm.Cond.and given_1 narrow_1) := by decide +kernel
theorem t_gNc : ∀ q ∈ gNc, Cond.not (.castable q.1 q.2) ∈ flatC (Jvm.Cond.and given_1 narrow_1) := by decide +kernel
set_option maxHeartbeats 4000000 in
set_option maxRecDepth 100000 in
theorem whole_start {p : Program} {e : Env} {s : State} {m : MethodId} {below : List Frame} {meth : Method} {c : Code} (l : Launch) (hflags : l.flags = flags0) {b L : Nat} {xs : Nat → Int32} (hL : L ≤ 260) (C0 : lw_At p s m meth c b L xs) : W p l e room_1 s m #[Value.ref b] below meth c s.heap [] 0 0 (lw_Z below #[Value.ref b] s) (entryFrame m ([Value.ref b] : List Value).toArray 21) := by
  obtain ⟨hx, hb, hr, hml, hown, hts, hX, hbl, hlocks, hgv⟩ := id C0
  have hl9 : l.stackTraces = false := by unfold Launch.stackTraces; rw [hflags]; decide
  have hA : ∀ q : Nat, s.heap.size ≤ q → (fun q : Nat => s.heap.size ≤ q) q := fun _ h => h
  have hbA : ¬ (fun q : Nat => s.heap.size ≤ q) b := Nat.not_le.mpr hbl
  obtain ⟨c0, iS0, hKn0⟩ := u_known (C := RX0) (T := TX0) (N := 8) (n := 8) hts inX0 (hts (.instantiable RX0 8) inX0i)
  obtain ⟨c1, iS1, hKn1⟩ := u_known (C := RX1) (T := TX1) (N := 9) (n := 9) hts inX1 (hts (.instantiable RX1 9) inX1i)
  obtain ⟨D, hKc⟩ : ∃ D : va_G, ∀ (k : Nat) (q : vw_C), vwCl[k]? = some q → u_Kn s q.1 q.2.1 q.2.2 (D.1 k) (D.2 k) := by
    refine ⟨(fun k => if k = 0 then c0 else c1, fun k => if k = 0 then iS0 else iS1), ?_⟩
    intro k q hq
    match k, hq with
    | 0, hq => cases hq; exact hKn0
    | 1, hq => cases hq; exact hKn1
    | k + 2, hq => simp [vwCl] at hq
  obtain ⟨cI, kI, pI, f1, f2, f3⟩ := Cond.arrayClass_spec (hts (.arrayClass .int) t_aI)
  obtain ⟨cZ, kZ, pZ, z1, z2, z3⟩ := Cond.arrayClass_spec (hts (.arrayClass .boolean) t_aZ)
  have hao := hts (.arrayOver (.object RX0)) t_aP
  obtain ⟨pP, cP, kP, i1, i2, i3, i4, i5⟩ := Cond.arrayOver_spec hao
  obtain ⟨pA, cA, kA, j1, j2, j3, j4⟩ := Cond.arrayOver_specA (hts (.arrayOver (.array .int)) t_aA)
  obtain ⟨pB, cB, kB, m1, m2, m3, m4⟩ := Cond.arrayOver_specA (hts (.arrayOver (.array .boolean)) t_aB)
  have hK : va_K D vwCl [(cI, .int), (cP, .object RX0), (cZ, .boolean), (cA, .array .int), (cB, .array .boolean)] s := by
    refine ⟨hKc, fun k q hq => ?_⟩
    match k, hq with
    | 0, hq => cases hq; exact ⟨fun n z => ⟨fun k h => (by cases h), kI, f2, pI, f3⟩, f1⟩
    | 1, hq => cases hq; exact ⟨fun n z => ⟨fun k h => (by cases h), kP, i3, pP, i4⟩, kP, pP, i3, i4, i1, i5⟩
    | 2, hq => cases hq; exact ⟨fun n z => ⟨fun k h => (by cases h), kZ, z2, pZ, z3⟩, z1⟩
    | 3, hq => cases hq; exact ⟨fun n z => ⟨fun k h => (by cases h), kA, j2, pA, j3⟩, j4⟩
    | 4, hq => cases hq; exact ⟨fun n z => ⟨fun k h => (by cases h), kB, m2, pB, m3⟩, m4⟩
    | k + 5, hq => simp at hq
  have hfl := flat_of_before _ hgv
  have hlow : ∀ a : Nat, a < s.heap.size → ¬ (fun q : Nat => s.heap.size ≤ q) a := fun a ha => Nat.not_le.mpr ha
  have hE : gE (fun q : Nat => s.heap.size ≤ q) s s.heap := by
    refine ⟨vx_Zqof (hts _ t_l1) (hts _ t_iT) (hfl _ t_r1) hlow, vx_Zqof (hts _ t_l2) (hts _ t_iT) (hfl _ t_r2) hlow, fun w hw => va_Nw.of (t_gNo w hw) (hts w (t_gN w hw)), fun q hq => ?_, fun w hw => va_Nw.of (gDC_tab (gN2_ok w hw)) (hts w (gN2_in w hw)), fun q hq => va_Nc.of (hfl _ (t_gNc q hq)), va_AO.of hao⟩
    obtain ⟨a, c, cell, k, h1, -⟩ := Cond.exactly_spec (hfl _ (t_gStrX q hq))
    exact ⟨a, vk_R.of (hts _ (t_gStr q hq)) h1⟩
  have C : gC p s m #[.ref b] meth c D (fun q : Nat => s.heap.size ≤ q) s.heap [(cI, .int), (cP, .object RX0), (cZ, .boolean), (cA, .array .int), (cB, .array .boolean)] cL_law 21 wsL_law RL ret := ⟨hx, hb, hml, hown, fun w hw => hts w (wsL_law_in w hw), hK, hA, hr, hlocks, hE, rfl⟩
  have X : Cx p l s m #[.ref b] meth c D (fun q : Nat => s.heap.size ≤ q) [(cI, .int), (cP, .object RX0), (cZ, .boolean), (cA, .array .int), (cB, .array .boolean)] ret cI cP cZ cA cB b L xs := ⟨hl9, C, rfl, rfl, rfl, rfl, rfl, va_AOA.of (hts (.arrayOver (.array .int)) t_aA), va_AOA.of (hts (.arrayOver (.array .boolean)) t_aB), hX, hbl, hbA, hL⟩
  have hP : va_P D vwCl [] s.heap := fun k q h => by simp at h
  have hD : va_D (fun q : Nat => s.heap.size ≤ q) [] := ⟨fun i j p q h => by simp at h, fun k q h => by simp at h⟩
  have hl := lv_entry ([.ref b]) (n := 21) (Nat.le_of_ble_eq_true rfl)
  rw [lg_entry_eq]
  generalize (lg_sl ([.ref b]) ++ List.replicate (21 - (lg_sl ([.ref b])).length) Slot.unset).toArray = ls at hl ⊢
  have hl : lv_has ls 21 [(0, .ref b)] := hl
  have key : G p l e room_1 s m #[.ref b] below meth c D (fun q : Nat => s.heap.size ≤ q) s.heap 21 0 0 (lw_Z below #[Value.ref b] s) 0 [(0, .ref b)] [] [] := by
    refine g_aload_n C dL_law_0 rfl 0 rfl ?_
    refine g_callSs (As := [.ref b]) (rest := []) C hX hbl hbA (c_L_wall l hl9 D [(cI, .int), (cP, .object RX0), (cZ, .boolean), (cA, .array .int), (cB, .array .boolean)] cI cP rfl rfl b L xs hL) (va_cwS 1 C.ts gL_law_L_wall rfl rfl rfl (by decide +kernel) ⟨(Nat.le_of_ble_eq_true rfl), (Nat.le_of_ble_eq_true rfl)⟩) rfl rfl (Nat.le_of_ble_eq_true rfl) dL_law_1 (Nat.le_of_ble_eq_true rfl) (Nat.le_of_ble_eq_true rfl) (fun v w hq9 => ?_)
    obtain ⟨h, ad, np, hr0, wet, cover, sun, fs, mk, fd, pcs, pa, P, rfl, rfl, J, hhr⟩ := hq9
    refine g_astore_n (lv' := [(1, .ref h), (0, .ref b)]) C dL_law_4 rfl (by decide) rfl ?_
    refine g_iconst (v := 0) C dL_law_5 (by decide) ?_
    refine g_istore_n (lv' := [(2, .int 0), (1, .ref h), (0, .ref b)]) C dL_law_6 rfl (by decide) rfl ?_
    refine g_more (k2 := 2000 + 6000 * 0) (n2 := 20000 + 38000 * 0) (by omega) (by omega) ?_
    refine law_loop X ?_ 21 0 np hr0 wet cover sun fs mk fd pcs pa P (by omega) (by omega) J (by omega)
    intro k n v2 W9 hk hn
    refine g_iconst (v := 1) C dL_law_1492 (by decide) ?_
    intro H locs ls hP hD hS hl
    exact va_forget hS.2.2 (W.widen hk hn (lw_ret (Drawn.sameBut.refl s.drawn lw_cs) C.x C.b hr hlocks dL_law_1493))
  exact key s.heap [] ls hP hD va_S.rf hl
