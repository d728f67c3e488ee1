/-! calls in order; the law's own helpers -/
abbrev Wm (cI cP : ClassId) (h : Nat) (ad : Nat → Nat) (np hr : Nat) (wet cover sun fs mk fd : Nat → Int32) (pcs : Nat → Option Nat) (pa : Nat → Nat) (P : Nat → Pd) (Y : va_W) : va_W :=
  (h, .inr (1, [.ref (ad 1), .ref (ad 2), .ref (ad 3), .ref (ad 4), .int (nI np), .int (nI hr), .ref (ad 5), .ref (ad 6), .ref (ad 7)])) :: (ad 1, .inl (cI, 80, .inl wet)) :: (ad 2, .inl (cI, 80, .inl cover)) :: (ad 3, .inl (cI, 8, .inl sun)) :: (ad 4, .inl (cP, 100, .inr (.inr (.inr (.inr pcs))))) :: (ad 5, .inl (cI, 80, .inl fs)) :: (ad 6, .inl (cI, 80, .inl mk)) :: (ad 7, .inl (cI, 80, .inl fd)) :: (plist pa P np ++ Y)
theorem pIn_t {np v : Nat} (hn : np ≤ 100) (hv : v < np) : pIn np (nI v) = true := by
  refine inR_of (n := np - 1) ?_ (by omega)
  rw [show nI np - 1 = Int32.ofNat np - 1 from rfl, ofN1 (by omega) (by omega)]
theorem onW_t {x y : Nat} (hx : x ≤ 9) (hy : y ≤ 7) : onW (nI x) (nI y) = true := by
  rw [onW_nI (by omega) (by omega), decide_eq_true hx, decide_eq_true hy]; rfl
theorem cdO_0 {x y : Nat} (hx : x ≤ 9) (hy : y ≤ 7) : cdO (nI x) (nI y) = 0 := by rw [cdO, onW_t hx hy]; rfl
theorem cdCe_0 {x y w : Nat} (hx : x ≤ 9) (hy : y ≤ 7) (hw : w ≤ 2) : cdCe (nI x) (nI y) (nI w) = 0 := by rw [cdCe, onW_t hx hy, inR_of (n := 2) rfl hw]; rfl
theorem cdPi_0 {np v w : Nat} (hn : np ≤ 100) (hv : v < np) (hw : w ≤ 7) : cdPi np (nI v) (nI w) = 0 := by rw [cdPi, pIn_t hn hv, inR_of (n := 7) rfl hw]; rfl
theorem cdCo_0 {w : Nat} (hw : w ≤ 7) : cdCo (nI w) = 0 := by rw [cdCo, inR_of (n := 7) rfl hw]; rfl
theorem cdLo_0 {np v : Nat} (hn : np ≤ 100) (hv : v < np) : cdLo np (nI v) = 0 := by rw [cdLo, pIn_t hn hv]; rfl
theorem cdP_0 {k a b : Nat} (hk : k ≤ 3) (ha : a ≤ 6) (hb : b ≤ 6) : cdP (nI k) (nI a) (nI b) = 0 := by rw [cdP, patB, inR_of (n := 3) rfl hk, inR_of (n := 6) rfl ha, inR_of (n := 6) rfl hb]; rfl
theorem inR1_ok {j N : Nat} {M : Int32} (hM : M.toInt = N) (h1 : 1 ≤ j) (h : j ≤ N) : inR 1 M (nI j) = true := by
  have hN : N < 2 ^ 31 := by have := M.toInt_lt; omega
  rw [inR_iff, nI_toInt (by omega), hM]
  have : (1 : Int32).toInt = 1 := rfl
  omega
theorem cdPa_0 {v : Nat} (h1 : 1 ≤ v) (hv : v ≤ 100) : cdPa (nI v) = 0 := by rw [cdPa, inR1_ok (N := 100) rfl h1 hv]; rfl
theorem cdSu_0 {v s9 : Nat} (hv : v ≤ 7) (hs : s9 ≤ 4) : cdSu (nI v) (nI s9) = 0 := by rw [cdSu, inR_of (n := 7) rfl hv, inR_of (n := 4) rfl hs]; rfl
theorem cdSp_0 {x y w h : Nat} (hx : x ≤ 9) (hy : y ≤ 7) (h1 : 1 ≤ w) (hw : w + x ≤ 10) (h2 : 1 ≤ h) (hh : h + y ≤ 8) : cdSp (nI x) (nI y) (nI w) (nI h) = 0 := by
  rw [cdSp, onW_t hx hy, show (10 : Int32) = nI 10 from rfl, show (8 : Int32) = nI 8 from rfl, pk_sub (by omega), pk_sub (by omega), inR1_ok (N := 10 - x) (nI_toInt (by omega)) h1 (by omega), inR1_ok (N := 8 - y) (nI_toInt (by omega)) h2 (by omega)]; rfl
theorem cdPr_03 {np : Nat} {wet cover : Nat → Int32} {x y ln f b : Nat} {ac : Bool} (hx : x ≤ 9) (hy : y ≤ 7) (h1 : 1 ≤ ln) (h3 : ln ≤ 3) (hf : f ≤ 6) (hb : b ≤ 6) : cdPr np wet cover (nI x) (nI y) (nI ln) ac (nI f) (nI b) = 0 ∨ cdPr np wet cover (nI x) (nI y) (nI ln) ac (nI f) (nI b) = 3 := by
  rw [cdPr, onW_t hx hy, inR1_ok (N := 3) rfl h1 h3, inR_of (n := 6) rfl hf, inR_of (n := 6) rfl hb]
  simp only [if_true, Bool.and_self]
  split
  · exact Or.inl rfl
  · exact Or.inr rfl
theorem cdFl_02 {np v : Nat} {P : Nat → Pd} {wet : Nat → Int32} (hn : np ≤ 100) (hv : v < np) : cdFl np P wet (nI v) = 0 ∨ cdFl np P wet (nI v) = 2 := by
  rw [cdFl, pIn_t hn hv, if_pos rfl]
  split
  · exact Or.inl rfl
  · exact Or.inr rfl
theorem cdTu_02 {np v : Nat} {P : Nat → Pd} {wet cover : Nat → Int32} (hn : np ≤ 100) (hv : v < np) : cdTu np P wet cover (nI v) = 0 ∨ cdTu np P wet cover (nI v) = 2 := by
  rw [cdTu, pIn_t hn hv, if_pos rfl]
  split
  · exact Or.inl rfl
  · exact Or.inr rfl
theorem cdTa_02 {np v : Nat} {P : Nat → Pd} (hn : np ≤ 100) (hv : v < np) : cdTa np P (nI v) = 0 ∨ cdTa np P (nI v) = 2 := by
  rw [cdTa, pIn_t hn hv, if_pos rfl]
  split
  · exact Or.inr rfl
  · exact Or.inl rfl
theorem k_L_below_0 : Cond.constant RL 7 2147483647 ∈ wsL_below := by decide +kernel
theorem k_L_cell_0 : Cond.constant RL 8 790386105 ∈ wsL_cell := by decide +kernel
theorem c_L_below (l : Launch) (D : va_G) (tys : List (ClassId × FieldType)) (W : va_W) (v : Int32) (j : Nat) (h0 : 0 < j) (hj : j < 2 ^ 31) : gM l yL_below wsL_below ({ frames := 0, cells := 0, slots := 0, locals := 0 } : Room) D tys [.int v, .int (nI j)] W (fun u w => (∃ i, i < j ∧ u = some (.int (nI i))) ∧ w = W) 0 0 := by
  refine gM_of (by decide +kernel) rfl (Nat.le_of_ble_eq_true rfl) ?_
  intro p e s m args below meth c A Q hin C hQ
  refine g_sub [0, 1] (lv' := [(0, .int v), (1, .int (nI j))]) rfl ?_
  refine g_iload_n C dL_below_0 rfl 0 rfl ?_
  refine g_ldc (v := 2147483647) C k_L_below_0 dL_below_1 ?_
  refine g_iand C dL_below_3 ?_
  obtain ⟨t, ht, et⟩ := pk_andE v (m := 2147483647) 31 (by decide)
  refine g_eqi (y := nI t) et ?_
  refine g_iload_n C dL_below_4 rfl 1 rfl ?_
  refine g_irem C dL_below_5 (nI_ne0 h0 hj) ?_
  refine g_eqi (y := nI (t % j)) (remI t j ht h0 hj rfl) ?_
  refine g_iret C hQ (Nat.le_of_ble_eq_true rfl) (Nat.le_of_ble_eq_true rfl) dL_below_6 ?_
  exact ⟨⟨t % j, Nat.mod_lt _ h0, rfl⟩, rfl⟩
theorem c_L_cell (l : Launch) (D : va_G) (tys : List (ClassId × FieldType)) (W : va_W) (b L : Nat) (xs : Nat → Int32) (hL : L ≤ 260) (j : Nat) (hj : j < 2 ^ 30) : gMs l yL_cell wsL_cell ({ frames := 0, cells := 0, slots := 0, locals := 0 } : Room) D tys [.ref b, .int (nI j)] W b L xs (fun u w => (∃ v, u = some (.int v)) ∧ w = W) 0 0 := by
  refine gMs_of (by decide +kernel) rfl (Nat.le_of_ble_eq_true rfl) ?_
  intro p e s m args below meth c A Q hin C hX hbl hbA hQ
  refine g_sub [0, 1] (lv' := [(0, .ref b), (1, .int (nI j))]) rfl ?_
  refine g_iload_n C dL_cell_0 rfl 1 rfl ?_
  refine g_aload_n C dL_cell_1 rfl 0 rfl ?_
  refine g_slen C hX hbl hbA dL_cell_2 ?_
  refine g_icmp_ge (tgt := 12) C dL_cell_3 (by decide) (fun hc => ?_) (fun hc => ?_)
  · refine g_ldc (v := 790386105) C k_L_cell_0 dL_cell_12 ?_
    refine g_iload_n C dL_cell_14 rfl 1 rfl ?_
    refine g_iconst (v := 3) C dL_cell_15 (by decide) ?_
    refine g_iadd C dL_cell_16 ?_
    refine g_imul C dL_cell_17 ?_
    refine g_iret C hQ (Nat.le_of_ble_eq_true rfl) (Nat.le_of_ble_eq_true rfl) dL_cell_18 ?_
    exact ⟨⟨_, rfl⟩, rfl⟩
  · have hc : ¬ nI L ≤ nI j := hc
    rw [nI_leI (by omega) (by omega)] at hc
    refine g_aload_n C dL_cell_6 rfl 0 rfl ?_
    refine g_iload_n C dL_cell_7 rfl 1 rfl ?_
    refine g_sld C hX hbl hbA (vp_in_nI (by omega) (by omega)) dL_cell_8 ?_
    refine g_goto (tgt := 18) C dL_cell_9 (by decide) ?_
    refine g_iret C hQ (Nat.le_of_ble_eq_true rfl) (Nat.le_of_ble_eq_true rfl) dL_cell_18 ?_
    exact ⟨⟨_, rfl⟩, rfl⟩
theorem k_L_press_0 : Cond.classLink RL 47 "java/lang/IllegalStateException" ∈ wsL_press := by decide +kernel
theorem k_L_act_0 : Cond.classLink RL 47 "java/lang/IllegalStateException" ∈ wsL_act := by decide +kernel
def pPV (x y ln f b : Nat) (ac : Bool) : Pd := (x, y, ln, nI f, nI b, ac, false, false)
set_option maxHeartbeats 4000000 in
set_option maxRecDepth 100000 in
theorem c_L_press (l : Launch) (hl9 : l.stackTraces = false) (D : va_G) (tys : List (ClassId × FieldType)) (cI cP : ClassId) (ht0 : tys[0]? = some (cI, .int)) (ht1 : tys[1]? = some (cP, .object RX0)) (h : Nat) (ad : Nat → Nat) (np hr : Nat) (wet cover sun fs mk fd : Nat → Int32) (pcs : Nat → Option Nat) (pa : Nat → Nat) (P : Nat → Pd) (Y : va_W) (J : JV np wet cover sun P pcs pa) (x y ln f b : Nat) (ac : Bool) (hx : x ≤ 9) (hy : y ≤ 7) (hl1 : 1 ≤ ln) (hl3 : ln ≤ 3) (hf : f ≤ 6) (hb : b ≤ 6) :
    gM l yL_press wsL_press ({ frames := 8, cells := 2, slots := 14, locals := 149 } : Room) D tys [.ref h, .int (nI x), .int (nI y), .int (nI ln), .int (gz ac), .int (nI f), .int (nI b)] (Wm cI cP h ad np hr wet cover sun fs mk fd pcs pa P Y)
      (fun u w => (cdPr np wet cover (nI x) (nI y) (nI ln) ac (nI f) (nI b) = 0 ∧ u = some (.int (nI np)) ∧ ∃ q, w = Wm cI cP h ad (np + 1) hr wet (setL cover (pcl (pPV x y ln f b ac)) (nI np) ln) sun fs mk fd (va_up pcs np (some q)) (va_up pa np q) (pup P np (pPV x y ln f b ac)) Y) ∨ (u = some (.int (-1)) ∧ w = Wm cI cP h ad np hr wet cover sun fs mk fd pcs pa P Y)) 2 14 := by
  obtain ⟨hnp, hg, -, -, -, -, hpc⟩ := J
  have hcx : vn (nI x) = x := nI_clamp (by omega)
  have hcy : vn (nI y) = y := nI_clamp (by omega)
  have hcl : vn (nI ln) = ln := nI_clamp (by omega)
  have h03 := cdPr_03 (np := np) (wet := wet) (cover := cover) (ac := ac) hx hy hl1 hl3 hf hb
  refine gM_ofW (by decide +kernel) rfl (Nat.le_of_ble_eq_true rfl) ?_
  intro p e s m args below meth c A Q C hT hQ
  refine g_sub [0, 1, 2, 3, 4, 5, 6] (lv' := [(0, .ref h), (1, .int (nI x)), (2, .int (nI y)), (3, .int (nI ln)), (4, .int (gz ac)), (5, .int (nI f)), (6, .int (nI b))]) rfl ?_
  refine g_aload_n C dL_press_0 rfl 0 rfl ?_
  refine g_iload_n C dL_press_1 rfl 1 rfl ?_
  refine g_iload_n C dL_press_2 rfl 2 rfl ?_
  refine g_iload_n C dL_press_3 rfl 3 rfl ?_
  refine g_iload C dL_press_4 4 rfl ?_
  refine g_iload C dL_press_6 5 rfl ?_
  refine g_iload C dL_press_8 6 rfl ?_
  refine g_callVx (ci := 1) (Cn := RX1) (As := [.int (nI x), .int (nI y), .int (nI ln), .int (gz ac), .int (nI f), .int (nI b)]) (rest := []) C gm0 rfl rfl (c_X1_press l hl9 D tys cI cP ht0 ht1 h (ad 1) (ad 2) (ad 3) (ad 4) (ad 5) (ad 6) (ad 7) np hr wet cover sun fs mk fd pcs pa P Y hnp hpc hg (nI x) (nI y) (nI ln) (nI f) (nI b) ac) (cwV 6 C.ts gL_press_X1_press rfl rfl rfl (by decide +kernel) ⟨(Nat.le_of_ble_eq_true rfl), (Nat.le_of_ble_eq_true rfl)⟩) rfl rfl (Nat.le_of_ble_eq_true rfl) dL_press_10 (Nat.le_of_ble_eq_true rfl) (Nat.le_of_ble_eq_true rfl) ?_ ?_
  · intro E hE
    rcases cdE3 hE with ⟨hc, rfl⟩ | ⟨hc, rfl⟩ | ⟨hc, rfl⟩
    · exfalso; omega
    · exfalso; omega
    · refine gH_0 C hT (by decide) (by decide) k_L_press_0 (by decide +kernel) (fun q9 => ?_)
      refine g_astore (lv' := [(7, .ref q9), (0, .ref h), (1, .int (nI x)), (2, .int (nI y)), (3, .int (nI ln)), (4, .int (gz ac)), (5, .int (nI f)), (6, .int (nI b))]) C dL_press_14 (by decide) rfl ?_
      refine g_iconst (v := -1) C dL_press_16 (by decide) ?_
      refine g_iret C hQ (Nat.le_of_ble_eq_true rfl) (Nat.le_of_ble_eq_true rfl) dL_press_17 ?_
      exact Or.inr ⟨rfl, rfl⟩
  · intro vq wq hq9
    obtain ⟨hcd, rfl, qn, rfl⟩ := hq9
    refine g_iret C hQ (Nat.le_of_ble_eq_true rfl) (Nat.le_of_ble_eq_true rfl) dL_press_13 ?_
    exact Or.inl ⟨hcd, rfl, qn, by rw [hcx, hcy, hcl]; rfl⟩
def Wfl (cI cP : ClassId) (h : Nat) (ad : Nat → Nat) (np hr : Nat) (wet cover sun fs mk fd : Nat → Int32) (pcs : Nat → Option Nat) (pa : Nat → Nat) (P : Nat → Pd) (Y : va_W) (v : Nat) : va_W := Wm cI cP h ad np hr (decL wet (pcl (P v)) (ql (P v))) cover sun fs mk fd pcs pa (pup P v (flp (P v))) Y
def Wtu (cI cP : ClassId) (h : Nat) (ad : Nat → Nat) (np hr : Nat) (wet cover sun fs mk fd : Nat → Int32) (pcs : Nat → Option Nat) (pa : Nat → Nat) (P : Nat → Pd) (Y : va_W) (v : Nat) : va_W := Wm cI cP h ad np hr wet (setL (setL cover (pcl (P v)) (-1) (ql (P v))) (pcl (trn (P v))) (nI v) (ql (P v))) sun fs mk fd pcs pa (pup P v (trn (P v))) Y
def Wta (cI cP : ClassId) (h : Nat) (ad : Nat → Nat) (np hr : Nat) (wet cover sun fs mk fd : Nat → Int32) (pcs : Nat → Option Nat) (pa : Nat → Nat) (P : Nat → Pd) (Y : va_W) (v : Nat) : va_W := Wm cI cP h ad np hr (if lsp (P v) wet = true then wet else setL wet (pcl (P v)) (-1) (ql (P v))) (setL cover (pcl (P v)) (-1) (ql (P v))) sun fs mk fd pcs pa (pup P v (tko (P v))) Y
set_option maxHeartbeats 4000000 in
set_option maxRecDepth 100000 in
theorem c_L_act (l : Launch) (hl9 : l.stackTraces = false) (D : va_G) (tys : List (ClassId × FieldType)) (cI cP : ClassId) (ht0 : tys[0]? = some (cI, .int)) (ht1 : tys[1]? = some (cP, .object RX0)) (h : Nat) (ad : Nat → Nat) (np hr : Nat) (wet cover sun fs mk fd : Nat → Int32) (pcs : Nat → Option Nat) (pa : Nat → Nat) (P : Nat → Pd) (Y : va_W) (J : JV np wet cover sun P pcs pa) (v a : Nat) (hv : v < np) (ha : a < 2 ^ 31) :
    gM l yL_act wsL_act ({ frames := 7, cells := 1, slots := 6, locals := 124 } : Room) D tys [.ref h, .int (nI v), .int (nI a)] (Wm cI cP h ad np hr wet cover sun fs mk fd pcs pa P Y)
      (fun u w => (a < 2 ∧ cdFl np P wet (nI v) = 0 ∧ u = some (.int (shw (flp (P v)))) ∧ w = Wfl cI cP h ad np hr wet cover sun fs mk fd pcs pa P Y v) ∨ (a = 2 ∧ cdTu np P wet cover (nI v) = 0 ∧ u = some (.int (nI (ql (P v)))) ∧ w = Wtu cI cP h ad np hr wet cover sun fs mk fd pcs pa P Y v) ∨ (2 < a ∧ cdTa np P (nI v) = 0 ∧ u = some (.int (gz (lsp (P v) wet))) ∧ w = Wta cI cP h ad np hr wet cover sun fs mk fd pcs pa P Y v) ∨ ((a < 2 → cdFl np P wet (nI v) = 2) ∧ (a = 2 → cdTu np P wet cover (nI v) = 2) ∧ (2 < a → cdTa np P (nI v) = 2) ∧ u = some (.int (-1)) ∧ w = Wm cI cP h ad np hr wet cover sun fs mk fd pcs pa P Y)) 1 6 := by
  obtain ⟨hnp, hg, -, -, -, -, hpc⟩ := J
  have hcv : vn (nI v) = v := nI_clamp (by omega)
  have hF := cdFl_02 (P := P) (wet := wet) hnp hv
  have hU := cdTu_02 (P := P) (wet := wet) (cover := cover) hnp hv
  have hA := cdTa_02 (P := P) hnp hv
  refine gM_ofW (by decide +kernel) rfl (Nat.le_of_ble_eq_true rfl) ?_
  intro p e s m args below meth c A Q C hT hQ
  refine g_sub [0, 1, 2] (lv' := [(0, .ref h), (1, .int (nI v)), (2, .int (nI a))]) rfl ?_
  refine g_iload_n C dL_act_0 rfl 2 rfl ?_
  refine g_iconst (v := 2) C dL_act_1 (by decide) ?_
  refine g_icmp_ge (tgt := 13) C dL_act_2 (by decide) (fun h2 => ?_) (fun h2 => ?_)
  · rw [show (2 : Int32) = nI 2 from rfl, nI_leI (by omega) (by omega)] at h2
    refine g_iload_n C dL_act_13 rfl 2 rfl ?_
    refine g_iconst (v := 2) C dL_act_14 (by decide) ?_
    refine g_icmp_ne (tgt := 26) C dL_act_15 (by decide) (fun h3 => ?_) (fun h3 => ?_)
    · rw [show (2 : Int32) = nI 2 from rfl, nI_eq (by omega) (by omega)] at h3
      refine g_aload_n C dL_act_26 rfl 0 rfl ?_
      refine g_iload_n C dL_act_27 rfl 1 rfl ?_
      refine g_callVx (ci := 1) (Cn := RX1) (As := [.int (nI v)]) (rest := []) C gm0 rfl rfl (c_X1_take l hl9 D tys cI cP ht0 ht1 h (ad 1) (ad 2) (ad 3) (ad 4) (ad 5) (ad 6) (ad 7) np hr wet cover sun fs mk fd pcs pa P Y hnp hpc hg (nI v)) (cwV 1 C.ts gL_act_X1_take rfl rfl rfl (by decide +kernel) ⟨(Nat.le_of_ble_eq_true rfl), (Nat.le_of_ble_eq_true rfl)⟩) rfl rfl (Nat.le_of_ble_eq_true rfl) dL_act_28 (Nat.le_of_ble_eq_true rfl) (Nat.le_of_ble_eq_true rfl) ?_ ?_
      · intro E hE
        rcases cdE2 hE with ⟨hc, rfl⟩ | ⟨hc, rfl⟩
        · exfalso; omega
        · refine gH_0 C hT (by decide) (by decide) k_L_act_0 (by decide +kernel) (fun q9 => ?_)
          refine g_astore_n (lv' := [(3, .ref q9), (0, .ref h), (1, .int (nI v)), (2, .int (nI a))]) C dL_act_40 rfl (by decide) rfl ?_
          refine g_iconst (v := -1) C dL_act_41 (by decide) ?_
          refine g_iret C hQ (Nat.le_of_ble_eq_true rfl) (Nat.le_of_ble_eq_true rfl) dL_act_42 ?_
          exact Or.inr (Or.inr (Or.inr ⟨fun h9 => by omega, fun h9 => by omega, fun _ => hc, rfl, rfl⟩))
      · intro vq wq hq9
        obtain ⟨hcd, rfl, rfl⟩ := hq9
        rw [hcv]
        refine g_if_eq (tgt := 38) C dL_act_31 (by decide) (fun hb => ?_) (fun hb => ?_)
        · replace hb := gz0.mp hb
          refine g_iconst (v := 0) C dL_act_38 (by decide) ?_
          refine g_iret C hQ (Nat.le_of_ble_eq_true rfl) (Nat.le_of_ble_eq_true rfl) dL_act_39 ?_
          exact Or.inr (Or.inr (Or.inl ⟨by omega, hcd, gz_e0 hb, rfl⟩))
        · replace hb := gzn.mp hb
          refine g_iconst (v := 1) C dL_act_34 (by decide) ?_
          refine g_goto (tgt := 39) C dL_act_35 (by decide) ?_
          refine g_iret C hQ (Nat.le_of_ble_eq_true rfl) (Nat.le_of_ble_eq_true rfl) dL_act_39 ?_
          exact Or.inr (Or.inr (Or.inl ⟨by omega, hcd, gz_e1 hb, rfl⟩))
    · rw [show (2 : Int32) = nI 2 from rfl, nI_eq (by omega) (by omega)] at h3
      refine g_aload_n C dL_act_18 rfl 0 rfl ?_
      refine g_iload_n C dL_act_19 rfl 1 rfl ?_
      refine g_callVx (ci := 1) (Cn := RX1) (As := [.int (nI v)]) (rest := []) C gm0 rfl rfl (c_X1_turn l hl9 D tys cI cP ht0 ht1 h (ad 1) (ad 2) (ad 3) (ad 4) (ad 5) (ad 6) (ad 7) np hr wet cover sun fs mk fd pcs pa P Y hnp hpc hg (nI v)) (cwV 1 C.ts gL_act_X1_turn rfl rfl rfl (by decide +kernel) ⟨(Nat.le_of_ble_eq_true rfl), (Nat.le_of_ble_eq_true rfl)⟩) rfl rfl (Nat.le_of_ble_eq_true rfl) dL_act_20 (Nat.le_of_ble_eq_true rfl) (Nat.le_of_ble_eq_true rfl) ?_ ?_
      · intro E hE
        rcases cdE2 hE with ⟨hc, rfl⟩ | ⟨hc, rfl⟩
        · exfalso; omega
        · refine gH_0 C hT (by decide) (by decide) k_L_act_0 (by decide +kernel) (fun q9 => ?_)
          refine g_astore_n (lv' := [(3, .ref q9), (0, .ref h), (1, .int (nI v)), (2, .int (nI a))]) C dL_act_40 rfl (by decide) rfl ?_
          refine g_iconst (v := -1) C dL_act_41 (by decide) ?_
          refine g_iret C hQ (Nat.le_of_ble_eq_true rfl) (Nat.le_of_ble_eq_true rfl) dL_act_42 ?_
          exact Or.inr (Or.inr (Or.inr ⟨fun h9 => by omega, fun _ => hc, fun h9 => by omega, rfl, rfl⟩))
      · intro vq wq hq9
        obtain ⟨hcd, rfl, rfl⟩ := hq9
        rw [hcv]
        refine g_goto (tgt := 39) C dL_act_23 (by decide) ?_
        refine g_iret C hQ (Nat.le_of_ble_eq_true rfl) (Nat.le_of_ble_eq_true rfl) dL_act_39 ?_
        exact Or.inr (Or.inl ⟨by omega, hcd, rfl, rfl⟩)
  · rw [show (2 : Int32) = nI 2 from rfl, nI_leI (by omega) (by omega)] at h2
    refine g_aload_n C dL_act_5 rfl 0 rfl ?_
    refine g_iload_n C dL_act_6 rfl 1 rfl ?_
    refine g_callVx (ci := 1) (Cn := RX1) (As := [.int (nI v)]) (rest := []) C gm0 rfl rfl (c_X1_flip l hl9 D tys cI cP ht0 ht1 h (ad 1) (ad 2) (ad 3) (ad 4) (ad 5) (ad 6) (ad 7) np hr wet cover sun fs mk fd pcs pa P Y hnp hpc hg (nI v)) (cwV 1 C.ts gL_act_X1_flip rfl rfl rfl (by decide +kernel) ⟨(Nat.le_of_ble_eq_true rfl), (Nat.le_of_ble_eq_true rfl)⟩) rfl rfl (Nat.le_of_ble_eq_true rfl) dL_act_7 (Nat.le_of_ble_eq_true rfl) (Nat.le_of_ble_eq_true rfl) ?_ ?_
    · intro E hE
      rcases cdE2 hE with ⟨hc, rfl⟩ | ⟨hc, rfl⟩
      · exfalso; omega
      · refine gH_0 C hT (by decide) (by decide) k_L_act_0 (by decide +kernel) (fun q9 => ?_)
        refine g_astore_n (lv' := [(3, .ref q9), (0, .ref h), (1, .int (nI v)), (2, .int (nI a))]) C dL_act_40 rfl (by decide) rfl ?_
        refine g_iconst (v := -1) C dL_act_41 (by decide) ?_
        refine g_iret C hQ (Nat.le_of_ble_eq_true rfl) (Nat.le_of_ble_eq_true rfl) dL_act_42 ?_
        exact Or.inr (Or.inr (Or.inr ⟨fun _ => hc, fun h9 => by omega, fun h9 => by omega, rfl, rfl⟩))
    · intro vq wq hq9
      obtain ⟨hcd, rfl, rfl⟩ := hq9
      rw [hcv]
      refine g_goto (tgt := 39) C dL_act_10 (by decide) ?_
      refine g_iret C hQ (Nat.le_of_ble_eq_true rfl) (Nat.le_of_ble_eq_true rfl) dL_act_39 ?_
      exact Or.inl ⟨by omega, hcd, rfl, rfl⟩
