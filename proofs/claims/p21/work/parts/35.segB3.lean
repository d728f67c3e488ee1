set_option maxHeartbeats 4000000 in
set_option maxRecDepth 100000 in
theorem sg_Bpress0 {p : Program} {l : Launch} {e : Env} {s : State} {m : MethodId} {args : Array Value} {below : List Frame} {meth : Method} {c : Code} {Q : State → Prop} {D : va_G} {A : Nat → Prop} {tys : List (ClassId × FieldType)} {rt : Option FieldType} {cI cP cZ cA cB : ClassId} {b L : Nat} {xs : Nat → Int32} {k n : Nat} {h np hr : Nat} {ad : Nat → Nat} {wet cover sun fs mk fd : Nat → Int32} {pcs : Nat → Option Nat} {pa : Nat → Nat} {P : Nat → Pd} {t pp q : Nat} {v : Int32} {r : Nat → Nat} {F : Nat → Nat → Int32} {il : Bool} (X : Cx p l s m args meth c D A tys rt cI cP cZ cA cB b L xs) (J : JV np wet cover sun P pcs pa) (hk : k + 400 ≤ 605351) (hn : n + 2600 ≤ 7285716)
    (kk : ∀ (np2 hr2 : Nat) (wet2 cover2 sun2 fs2 mk2 fd2 : Nat → Int32) (pcs2 : Nat → Option Nat) (pa2 : Nat → Nat) (P2 : Nat → Pd), JV np2 wet2 cover2 sun2 P2 pcs2 pa2 → hr2 ≤ hr + 3 → G p l e room_1 s m args below meth c D A s.heap 21 (k + 400) (n + 2600) Q 746 [(3, .int v), (2, .int (nI t)), (1, .ref h), (0, .ref b)] [] (Wm cI cP h ad np2 hr2 wet2 cover2 sun2 fs2 mk2 fd2 pcs2 pa2 P2 [])) :
    G p l e room_1 s m args below meth c D A s.heap 21 k n Q 147 [(10, .int 0), (8, .long (dgT np hr P wet cover sun (fun _ => 0))), (7, .int (gz il)), (6, .int (nI pp)), (5, .ref q), (4, .int (nI np)), (3, .int v), (2, .int (nI t)), (1, .ref h), (0, .ref b)] [] (Wm cI cP h ad np hr wet cover sun fs mk fd pcs pa P ((Mt cA cI q r F))) := by
  have C := X.C
  have hnp := J.1
  refine g_iload C dL_law_147 0 rfl ?_
  refine g_iconst (v := 2) C dL_law_149 (by decide) ?_
  refine g_icmp_ge (tgt := 275) C dL_law_150 (by decide) (fun c_1 => by exfalso; exact absurd c_1 (by decide)) (fun c_1 => ?_)
  refine g_aload_n C dL_law_153 rfl 8 rfl ?_
  refine g_iload_n C dL_law_154 rfl 6 rfl ?_
  refine g_iconst (v := 4) C dL_law_155 (by decide) ?_
  refine g_ishr C dL_law_156 ?_
  refine g_topi (fun z_2 _ => ?_)
  refine g_bipush (v := 10) C dL_law_157 (by decide) ?_
  refine q_below (j := 10) X rfl (by omega) (by omega) dL_law_159 (Nat.le_of_ble_eq_true rfl) (by omega) (by omega) (fun jx hjx => ?_)
  refine g_iload_n C dL_law_162 rfl 6 rfl ?_
  refine g_bipush (v := 6) C dL_law_163 (by decide) ?_
  refine g_ishr C dL_law_165 ?_
  refine g_topi (fun z_3 _ => ?_)
  refine g_bipush (v := 8) C dL_law_166 (by decide) ?_
  refine q_below (j := 8) X rfl (by omega) (by omega) dL_law_168 (Nat.le_of_ble_eq_true rfl) (by omega) (by omega) (fun jy hjy => ?_)
  refine g_iconst (v := 1) C dL_law_171 (by decide) ?_
  refine g_iload_n C dL_law_172 rfl 6 rfl ?_
  refine g_iconst (v := 5) C dL_law_173 (by decide) ?_
  refine g_ishr C dL_law_174 ?_
  refine g_topi (fun z_4 _ => ?_)
  refine g_iconst (v := 3) C dL_law_175 (by decide) ?_
  refine q_below (j := 3) X rfl (by omega) (by omega) dL_law_176 (Nat.le_of_ble_eq_true rfl) (by omega) (by omega) (fun jl hjl => ?_)
  refine g_iadd C dL_law_179 ?_
  refine g_eqi (x := 1 + (nI jl)) (y := nI (1 + jl)) (by exact nI_add 1 jl) ?_
  refine g_iload C dL_law_180 0 rfl ?_
  refine tif_ne (v := true) C (fun h => absurd rfl h) (fun h => rfl) dL_law_182 dL_law_185 dL_law_186 dL_law_189 ?_
  refine g_iload_n C dL_law_190 rfl 6 rfl ?_
  refine g_iconst (v := 2) C dL_law_191 (by decide) ?_
  refine g_ishr C dL_law_192 ?_
  refine g_topi (fun z_5 _ => ?_)
  refine g_bipush (v := 7) C dL_law_193 (by decide) ?_
  refine q_below (j := 7) X rfl (by omega) (by omega) dL_law_195 (Nat.le_of_ble_eq_true rfl) (by omega) (by omega) (fun jf hjf => ?_)
  refine g_iload_n C dL_law_198 rfl 6 rfl ?_
  refine g_bipush (v := 7) C dL_law_199 (by decide) ?_
  refine g_ishr C dL_law_201 ?_
  refine g_topi (fun z_6 _ => ?_)
  refine g_bipush (v := 7) C dL_law_202 (by decide) ?_
  refine q_below (j := 7) X rfl (by omega) (by omega) dL_law_204 (Nat.le_of_ble_eq_true rfl) (by omega) (by omega) (fun jb hjb => ?_)
  refine q_press (x := jx) (y := jy) (ln := 1 + jl) (f9 := jf) (b9 := jb) (ac := true) X J (by omega) (by omega) (by omega) (by omega) (by omega) (by omega) rfl dL_law_207 (Nat.le_of_ble_eq_true rfl) (by omega) (by omega) (fun q2 hcd => ?_) ?_
  · obtain ⟨J2, hl⟩ := jv_press2 J (by omega) (by omega) (by omega) hcd q2
    refine g_istore (lv' := [(11, .int (nI np)), (10, .int 0), (8, .long (dgT np hr P wet cover sun (fun _ => 0))), (7, .int (gz il)), (6, .int (nI pp)), (5, .ref q), (4, .int (nI np)), (3, .int v), (2, .int (nI t)), (1, .ref h), (0, .ref b)]) C dL_law_210 (by decide) rfl ?_
    refine g_iload C dL_law_212 0 rfl ?_
    refine g_if_lt (tgt := 224) C dL_law_214 (by decide) (fun c_7 => by exfalso; rw [show (0 : Int32) = nI 0 from rfl, nI_ltI (by omega) (by omega)] at c_7; omega) (fun c_7 => ?_)
    rw [show (0 : Int32) = nI 0 from rfl, nI_ltI (by omega) (by omega)] at c_7
    refine g_iload C dL_law_217 0 rfl ?_
    refine g_iload C dL_law_219 6 rfl ?_
    refine g_icmp_ne (tgt := 270) C dL_law_221 (by decide) (fun c_8 => by exfalso; rw [nI_eq (by omega) (by omega)] at c_8; omega) (fun c_8 => ?_)
    rw [nI_eq (by omega) (by omega)] at c_8
    refine g_iload C dL_law_224 0 rfl ?_
    refine g_if_ge (tgt := 239) C dL_law_226 (by decide) (fun c_9 => ?_) (fun c_9 => by exfalso; rw [show (0 : Int32) = nI 0 from rfl, nI_leI (by omega) (by omega)] at c_9; omega)
    rw [show (0 : Int32) = nI 0 from rfl, nI_leI (by omega) (by omega)] at c_9
    refine g_iload C dL_law_239 0 rfl ?_
    refine g_if_lt (tgt := 272) C dL_law_241 (by decide) (fun c_10 => by exfalso; rw [show (0 : Int32) = nI 0 from rfl, nI_ltI (by omega) (by omega)] at c_10; omega) (fun c_10 => ?_)
    rw [show (0 : Int32) = nI 0 from rfl, nI_ltI (by omega) (by omega)] at c_10
    refine g_aload_n C dL_law_244 rfl 9 rfl ?_
    refine g_iload C dL_law_245 0 rfl ?_
    refine g_bipush (v := 6) C dL_law_247 (by decide) ?_
    refine q_piece (w := 6) (v := np) X J2 (by omega) (by omega) rfl dL_law_249 (Nat.le_of_ble_eq_true rfl) (by omega) (by omega) ?_
    refine g_eqi (y := gz (lsp ((pup P np (pPV jx jy (1 + jl) jf jb true)) np) wet)) rfl ?_
    refine g_eqi (x := gz (lsp ((pup P np (pPV jx jy (1 + jl) jf jb true)) np) wet)) (y := 1) (by rw [pup_s, hl]; rfl) ?_
    refine g_iconst (v := 1) C dL_law_252 (by decide) ?_
    refine g_icmp_ne (tgt := 270) C dL_law_253 (by decide) (fun c_11 => by exfalso; exact absurd c_11 (by decide)) (fun c_11 => ?_)
    refine g_aload_n C dL_law_256 rfl 9 rfl ?_
    refine g_iload C dL_law_257 0 rfl ?_
    refine g_iconst (v := 3) C dL_law_259 (by decide) ?_
    refine q_piece (w := 3) (v := np) X J2 (by omega) (by omega) rfl dL_law_260 (Nat.le_of_ble_eq_true rfl) (by omega) (by omega) ?_
    refine g_eqi (y := gz (qc ((pup P np (pPV jx jy (1 + jl) jf jb true)) np))) rfl ?_
    refine g_eqi (x := gz (qc ((pup P np (pPV jx jy (1 + jl) jf jb true)) np))) (y := 1) (by rw [pup_s]; rfl) ?_
    refine g_iconst (v := 1) C dL_law_263 (by decide) ?_
    refine g_iload C dL_law_264 1 rfl ?_
    refine g_isub C dL_law_266 ?_
    refine g_eqi (x := 1 - 0) (y := 1) (by decide) ?_
    refine g_icmp_eq (tgt := 272) C dL_law_267 (by decide) (fun c_12 => ?_) (fun c_12 => by exfalso; exact absurd c_12 (by decide))
    refine g_goto (tgt := 746) C dL_law_272 (by decide) ?_
    refine g_sub [7, 8, 9, 10] (lv' := [(3, .int v), (2, .int (nI t)), (1, .ref h), (0, .ref b)]) rfl ?_
    refine g_more (k2 := k + 400) (n2 := n + 2600) (by omega) (by omega) ?_
    refine g_less (ws' := (Wm cI cP h ad (np + 1) hr wet (setL cover (pcl (pPV jx jy (1 + jl) jf jb true)) (nI np) (1 + jl)) sun fs mk fd (va_up pcs np (some q2)) (va_up pa np q2) (pup P np (pPV jx jy (1 + jl) jf jb true)) [])) tl_less ?_
    exact kk _ _ _ _ _ _ _ _ _ _ _ J2 (by omega)
  · skip
    refine g_istore (lv' := [(11, .int (-1)), (10, .int 0), (8, .long (dgT np hr P wet cover sun (fun _ => 0))), (7, .int (gz il)), (6, .int (nI pp)), (5, .ref q), (4, .int (nI np)), (3, .int v), (2, .int (nI t)), (1, .ref h), (0, .ref b)]) C dL_law_210 (by decide) rfl ?_
    refine g_iload C dL_law_212 0 rfl ?_
    refine g_if_lt (tgt := 224) C dL_law_214 (by decide) (fun c_13 => ?_) (fun c_13 => by exfalso; exact absurd c_13 (by decide))
    refine g_iload C dL_law_224 0 rfl ?_
    refine g_if_ge (tgt := 239) C dL_law_226 (by decide) (fun c_14 => by exfalso; exact absurd c_14 (by decide)) (fun c_14 => ?_)
    refine g_aload_n C dL_law_229 rfl 9 rfl ?_
    refine q_digest X J dL_law_230 (Nat.le_of_ble_eq_true rfl) (by omega) (by omega) (fun mk_15 fd_16 => ?_)
    refine g_eql (y := dgT np hr P wet cover sun (fun _ => 0)) dig_fd ?_
    refine g_lload C dL_law_233 2 rfl ?_
    refine g_lcmp C dL_law_235 ?_
    refine g_if_ne (tgt := 270) C dL_law_236 (by decide) (fun c_17 => by exfalso; exact c_17 (lcmp0 rfl)) (fun c_17 => ?_)
    refine g_iload C dL_law_239 0 rfl ?_
    refine g_if_lt (tgt := 272) C dL_law_241 (by decide) (fun c_18 => ?_) (fun c_18 => by exfalso; exact absurd c_18 (by decide))
    refine g_goto (tgt := 746) C dL_law_272 (by decide) ?_
    refine g_sub [7, 8, 9, 10] (lv' := [(3, .int v), (2, .int (nI t)), (1, .ref h), (0, .ref b)]) rfl ?_
    refine g_more (k2 := k + 400) (n2 := n + 2600) (by omega) (by omega) ?_
    refine g_less (ws' := (Wm cI cP h ad np hr wet cover sun fs mk_15 fd_16 pcs pa P [])) tl_less ?_
    exact kk _ _ _ _ _ _ _ _ _ _ _ J (by omega)
set_option maxHeartbeats 4000000 in
set_option maxRecDepth 100000 in
theorem sg_Bpress1 {p : Program} {l : Launch} {e : Env} {s : State} {m : MethodId} {args : Array Value} {below : List Frame} {meth : Method} {c : Code} {Q : State → Prop} {D : va_G} {A : Nat → Prop} {tys : List (ClassId × FieldType)} {rt : Option FieldType} {cI cP cZ cA cB : ClassId} {b L : Nat} {xs : Nat → Int32} {k n : Nat} {h np hr : Nat} {ad : Nat → Nat} {wet cover sun fs mk fd : Nat → Int32} {pcs : Nat → Option Nat} {pa : Nat → Nat} {P : Nat → Pd} {t pp q : Nat} {v : Int32} {r : Nat → Nat} {F : Nat → Nat → Int32} {il : Bool} (X : Cx p l s m args meth c D A tys rt cI cP cZ cA cB b L xs) (J : JV np wet cover sun P pcs pa) (hk : k + 400 ≤ 605351) (hn : n + 2600 ≤ 7285716)
    (kk : ∀ (np2 hr2 : Nat) (wet2 cover2 sun2 fs2 mk2 fd2 : Nat → Int32) (pcs2 : Nat → Option Nat) (pa2 : Nat → Nat) (P2 : Nat → Pd), JV np2 wet2 cover2 sun2 P2 pcs2 pa2 → hr2 ≤ hr + 3 → G p l e room_1 s m args below meth c D A s.heap 21 (k + 400) (n + 2600) Q 746 [(3, .int v), (2, .int (nI t)), (1, .ref h), (0, .ref b)] [] (Wm cI cP h ad np2 hr2 wet2 cover2 sun2 fs2 mk2 fd2 pcs2 pa2 P2 [])) :
    G p l e room_1 s m args below meth c D A s.heap 21 k n Q 147 [(10, .int 1), (8, .long (dgT np hr P wet cover sun (fun _ => 0))), (7, .int (gz il)), (6, .int (nI pp)), (5, .ref q), (4, .int (nI np)), (3, .int v), (2, .int (nI t)), (1, .ref h), (0, .ref b)] [] (Wm cI cP h ad np hr wet cover sun fs mk fd pcs pa P ((Mt cA cI q r F))) := by
  have C := X.C
  have hnp := J.1
  refine g_iload C dL_law_147 0 rfl ?_
  refine g_iconst (v := 2) C dL_law_149 (by decide) ?_
  refine g_icmp_ge (tgt := 275) C dL_law_150 (by decide) (fun c_1 => by exfalso; exact absurd c_1 (by decide)) (fun c_1 => ?_)
  refine g_aload_n C dL_law_153 rfl 8 rfl ?_
  refine g_iload_n C dL_law_154 rfl 6 rfl ?_
  refine g_iconst (v := 4) C dL_law_155 (by decide) ?_
  refine g_ishr C dL_law_156 ?_
  refine g_topi (fun z_2 _ => ?_)
  refine g_bipush (v := 10) C dL_law_157 (by decide) ?_
  refine q_below (j := 10) X rfl (by omega) (by omega) dL_law_159 (Nat.le_of_ble_eq_true rfl) (by omega) (by omega) (fun jx hjx => ?_)
  refine g_iload_n C dL_law_162 rfl 6 rfl ?_
  refine g_bipush (v := 6) C dL_law_163 (by decide) ?_
  refine g_ishr C dL_law_165 ?_
  refine g_topi (fun z_3 _ => ?_)
  refine g_bipush (v := 8) C dL_law_166 (by decide) ?_
  refine q_below (j := 8) X rfl (by omega) (by omega) dL_law_168 (Nat.le_of_ble_eq_true rfl) (by omega) (by omega) (fun jy hjy => ?_)
  refine g_iconst (v := 1) C dL_law_171 (by decide) ?_
  refine g_iload_n C dL_law_172 rfl 6 rfl ?_
  refine g_iconst (v := 5) C dL_law_173 (by decide) ?_
  refine g_ishr C dL_law_174 ?_
  refine g_topi (fun z_4 _ => ?_)
  refine g_iconst (v := 3) C dL_law_175 (by decide) ?_
  refine q_below (j := 3) X rfl (by omega) (by omega) dL_law_176 (Nat.le_of_ble_eq_true rfl) (by omega) (by omega) (fun jl hjl => ?_)
  refine g_iadd C dL_law_179 ?_
  refine g_eqi (x := 1 + (nI jl)) (y := nI (1 + jl)) (by exact nI_add 1 jl) ?_
  refine g_iload C dL_law_180 0 rfl ?_
  refine tif_ne (v := false) C (fun h => rfl) (fun h => absurd (show ¬ (1 : Int32) = 0 by decide) h) dL_law_182 dL_law_185 dL_law_186 dL_law_189 ?_
  refine g_iload_n C dL_law_190 rfl 6 rfl ?_
  refine g_iconst (v := 2) C dL_law_191 (by decide) ?_
  refine g_ishr C dL_law_192 ?_
  refine g_topi (fun z_5 _ => ?_)
  refine g_bipush (v := 7) C dL_law_193 (by decide) ?_
  refine q_below (j := 7) X rfl (by omega) (by omega) dL_law_195 (Nat.le_of_ble_eq_true rfl) (by omega) (by omega) (fun jf hjf => ?_)
  refine g_iload_n C dL_law_198 rfl 6 rfl ?_
  refine g_bipush (v := 7) C dL_law_199 (by decide) ?_
  refine g_ishr C dL_law_201 ?_
  refine g_topi (fun z_6 _ => ?_)
  refine g_bipush (v := 7) C dL_law_202 (by decide) ?_
  refine q_below (j := 7) X rfl (by omega) (by omega) dL_law_204 (Nat.le_of_ble_eq_true rfl) (by omega) (by omega) (fun jb hjb => ?_)
  refine q_press (x := jx) (y := jy) (ln := 1 + jl) (f9 := jf) (b9 := jb) (ac := false) X J (by omega) (by omega) (by omega) (by omega) (by omega) (by omega) rfl dL_law_207 (Nat.le_of_ble_eq_true rfl) (by omega) (by omega) (fun q2 hcd => ?_) ?_
  · obtain ⟨J2, hl⟩ := jv_press2 J (by omega) (by omega) (by omega) hcd q2
    refine g_istore (lv' := [(11, .int (nI np)), (10, .int 1), (8, .long (dgT np hr P wet cover sun (fun _ => 0))), (7, .int (gz il)), (6, .int (nI pp)), (5, .ref q), (4, .int (nI np)), (3, .int v), (2, .int (nI t)), (1, .ref h), (0, .ref b)]) C dL_law_210 (by decide) rfl ?_
    refine g_iload C dL_law_212 0 rfl ?_
    refine g_if_lt (tgt := 224) C dL_law_214 (by decide) (fun c_7 => by exfalso; rw [show (0 : Int32) = nI 0 from rfl, nI_ltI (by omega) (by omega)] at c_7; omega) (fun c_7 => ?_)
    rw [show (0 : Int32) = nI 0 from rfl, nI_ltI (by omega) (by omega)] at c_7
    refine g_iload C dL_law_217 0 rfl ?_
    refine g_iload C dL_law_219 6 rfl ?_
    refine g_icmp_ne (tgt := 270) C dL_law_221 (by decide) (fun c_8 => by exfalso; rw [nI_eq (by omega) (by omega)] at c_8; omega) (fun c_8 => ?_)
    rw [nI_eq (by omega) (by omega)] at c_8
    refine g_iload C dL_law_224 0 rfl ?_
    refine g_if_ge (tgt := 239) C dL_law_226 (by decide) (fun c_9 => ?_) (fun c_9 => by exfalso; rw [show (0 : Int32) = nI 0 from rfl, nI_leI (by omega) (by omega)] at c_9; omega)
    rw [show (0 : Int32) = nI 0 from rfl, nI_leI (by omega) (by omega)] at c_9
    refine g_iload C dL_law_239 0 rfl ?_
    refine g_if_lt (tgt := 272) C dL_law_241 (by decide) (fun c_10 => by exfalso; rw [show (0 : Int32) = nI 0 from rfl, nI_ltI (by omega) (by omega)] at c_10; omega) (fun c_10 => ?_)
    rw [show (0 : Int32) = nI 0 from rfl, nI_ltI (by omega) (by omega)] at c_10
    refine g_aload_n C dL_law_244 rfl 9 rfl ?_
    refine g_iload C dL_law_245 0 rfl ?_
    refine g_bipush (v := 6) C dL_law_247 (by decide) ?_
    refine q_piece (w := 6) (v := np) X J2 (by omega) (by omega) rfl dL_law_249 (Nat.le_of_ble_eq_true rfl) (by omega) (by omega) ?_
    refine g_eqi (y := gz (lsp ((pup P np (pPV jx jy (1 + jl) jf jb false)) np) wet)) rfl ?_
    refine g_eqi (x := gz (lsp ((pup P np (pPV jx jy (1 + jl) jf jb false)) np) wet)) (y := 1) (by rw [pup_s, hl]; rfl) ?_
    refine g_iconst (v := 1) C dL_law_252 (by decide) ?_
    refine g_icmp_ne (tgt := 270) C dL_law_253 (by decide) (fun c_11 => by exfalso; exact absurd c_11 (by decide)) (fun c_11 => ?_)
    refine g_aload_n C dL_law_256 rfl 9 rfl ?_
    refine g_iload C dL_law_257 0 rfl ?_
    refine g_iconst (v := 3) C dL_law_259 (by decide) ?_
    refine q_piece (w := 3) (v := np) X J2 (by omega) (by omega) rfl dL_law_260 (Nat.le_of_ble_eq_true rfl) (by omega) (by omega) ?_
    refine g_eqi (y := gz (qc ((pup P np (pPV jx jy (1 + jl) jf jb false)) np))) rfl ?_
    refine g_eqi (x := gz (qc ((pup P np (pPV jx jy (1 + jl) jf jb false)) np))) (y := 0) (by rw [pup_s]; rfl) ?_
    refine g_iconst (v := 1) C dL_law_263 (by decide) ?_
    refine g_iload C dL_law_264 1 rfl ?_
    refine g_isub C dL_law_266 ?_
    refine g_eqi (x := 1 - 1) (y := 0) (by decide) ?_
    refine g_icmp_eq (tgt := 272) C dL_law_267 (by decide) (fun c_12 => ?_) (fun c_12 => by exfalso; exact absurd c_12 (by decide))
    refine g_goto (tgt := 746) C dL_law_272 (by decide) ?_
    refine g_sub [7, 8, 9, 10] (lv' := [(3, .int v), (2, .int (nI t)), (1, .ref h), (0, .ref b)]) rfl ?_
    refine g_more (k2 := k + 400) (n2 := n + 2600) (by omega) (by omega) ?_
    refine g_less (ws' := (Wm cI cP h ad (np + 1) hr wet (setL cover (pcl (pPV jx jy (1 + jl) jf jb false)) (nI np) (1 + jl)) sun fs mk fd (va_up pcs np (some q2)) (va_up pa np q2) (pup P np (pPV jx jy (1 + jl) jf jb false)) [])) tl_less ?_
    exact kk _ _ _ _ _ _ _ _ _ _ _ J2 (by omega)
  · skip
    refine g_istore (lv' := [(11, .int (-1)), (10, .int 1), (8, .long (dgT np hr P wet cover sun (fun _ => 0))), (7, .int (gz il)), (6, .int (nI pp)), (5, .ref q), (4, .int (nI np)), (3, .int v), (2, .int (nI t)), (1, .ref h), (0, .ref b)]) C dL_law_210 (by decide) rfl ?_
    refine g_iload C dL_law_212 0 rfl ?_
    refine g_if_lt (tgt := 224) C dL_law_214 (by decide) (fun c_13 => ?_) (fun c_13 => by exfalso; exact absurd c_13 (by decide))
    refine g_iload C dL_law_224 0 rfl ?_
    refine g_if_ge (tgt := 239) C dL_law_226 (by decide) (fun c_14 => by exfalso; exact absurd c_14 (by decide)) (fun c_14 => ?_)
    refine g_aload_n C dL_law_229 rfl 9 rfl ?_
    refine q_digest X J dL_law_230 (Nat.le_of_ble_eq_true rfl) (by omega) (by omega) (fun mk_15 fd_16 => ?_)
    refine g_eql (y := dgT np hr P wet cover sun (fun _ => 0)) dig_fd ?_
    refine g_lload C dL_law_233 2 rfl ?_
    refine g_lcmp C dL_law_235 ?_
    refine g_if_ne (tgt := 270) C dL_law_236 (by decide) (fun c_17 => by exfalso; exact c_17 (lcmp0 rfl)) (fun c_17 => ?_)
    refine g_iload C dL_law_239 0 rfl ?_
    refine g_if_lt (tgt := 272) C dL_law_241 (by decide) (fun c_18 => ?_) (fun c_18 => by exfalso; exact absurd c_18 (by decide))
    refine g_goto (tgt := 746) C dL_law_272 (by decide) ?_
    refine g_sub [7, 8, 9, 10] (lv' := [(3, .int v), (2, .int (nI t)), (1, .ref h), (0, .ref b)]) rfl ?_
    refine g_more (k2 := k + 400) (n2 := n + 2600) (by omega) (by omega) ?_
    refine g_less (ws' := (Wm cI cP h ad np hr wet cover sun fs mk_15 fd_16 pcs pa P [])) tl_less ?_
    exact kk _ _ _ _ _ _ _ _ _ _ _ J (by omega)
set_option maxHeartbeats 4000000 in
set_option maxRecDepth 100000 in
theorem sg_hours {p : Program} {l : Launch} {e : Env} {s : State} {m : MethodId} {args : Array Value} {below : List Frame} {meth : Method} {c : Code} {Q : State → Prop} {D : va_G} {A : Nat → Prop} {tys : List (ClassId × FieldType)} {rt : Option FieldType} {cI cP cZ cA cB : ClassId} {b L : Nat} {xs : Nat → Int32} {k n : Nat} {h np hr : Nat} {ad : Nat → Nat} {wet cover sun fs mk fd : Nat → Int32} {pcs : Nat → Option Nat} {pa : Nat → Nat} {P : Nat → Pd} {t q : Nat} {v : Int32} {r : Nat → Nat} {F : Nat → Nat → Int32} {w0 : Nat → Int32} (X : Cx p l s m args meth c D A tys rt cI cP cZ cA cB b L xs) (J : JV np wet cover sun P pcs pa) (hF : ∀ i j, i ≤ 9 → j ≤ 7 → F i j = w0 (10 * j + i)) (hle : ∀ c, c < 80 → (w0 c = -1 ∧ wet c = -1) ∨ ∃ w v : Nat, w ≤ 12 ∧ v ≤ w ∧ w0 c = nI w ∧ wet c = nI v) (hk : k + 330 ≤ 605351) (hn : n + 2000 ≤ 7285716)
    (kk : G p l e room_1 s m args below meth c D A s.heap 21 (k + 330) (n + 2000) Q 746 [(3, .int v), (2, .int (nI t)), (1, .ref h), (0, .ref b)] [] (Wm cI cP h ad np hr wet cover sun fs mk fd pcs pa P [])) :
    G p l e room_1 s m args below meth c D A s.heap 21 k n Q 656 [(5, .ref q), (3, .int v), (2, .int (nI t)), (1, .ref h), (0, .ref b)] [] (Wm cI cP h ad np hr wet cover sun fs mk fd pcs pa P ((Mt cA cI q r F))) := by
  have C := X.C
  refine g_iconst (v := 0) C dL_law_656 (by decide) ?_
  refine g_istore (lv' := [(14, .int 0), (5, .ref q), (3, .int v), (2, .int (nI t)), (1, .ref h), (0, .ref b)]) C dL_law_657 (by decide) rfl ?_
  have lp659_1 : ∀ (n9 : Nat) (x : Nat) (hx : x ≤ 10) (hn9 : 11 ≤ x + n9), G p l e room_1 s m args below meth c D A s.heap 21 (k + 4 * (8 * x)) (n + 24 * (8 * x)) Q 659 [(14, .int (nI x)), (5, .ref q), (3, .int v), (2, .int (nI t)), (1, .ref h), (0, .ref b)] [] (Wm cI cP h ad np hr wet cover sun fs mk fd pcs pa P ((Mt cA cI q r F))) := by
    intro n9
    induction n9 with
    | zero =>
      intro x hx hn9
      exfalso; omega
    | succ n9 ih =>
      intro x hx hn9
      refine g_iload C dL_law_659 0 rfl ?_
      refine g_bipush (v := 10) C dL_law_661 (by decide) ?_
      refine g_icmp_ge (tgt := 746) C dL_law_663 (by decide) (fun c_2 => ?_) (fun c_2 => ?_)
      · skip
        rw [show (10 : Int32) = nI 10 from rfl, nI_leI (by omega) (by omega)] at c_2
        refine g_sub [2, 3, 4, 5] (lv' := [(3, .int v), (2, .int (nI t)), (1, .ref h), (0, .ref b)]) rfl ?_
        refine g_more (k2 := k + 330) (n2 := n + 2000) (by omega) (by omega) ?_
        refine g_less (ws' := (Wm cI cP h ad np hr wet cover sun fs mk fd pcs pa P [])) tl_less ?_
        exact kk
      · skip
        rw [show (10 : Int32) = nI 10 from rfl, nI_leI (by omega) (by omega)] at c_2
        refine g_iconst (v := 0) C dL_law_666 (by decide) ?_
        refine g_istore (lv' := [(15, .int 0), (14, .int (nI x)), (5, .ref q), (3, .int v), (2, .int (nI t)), (1, .ref h), (0, .ref b)]) C dL_law_667 (by decide) rfl ?_
        have lp669_3 : ∀ (n9 : Nat) (y : Nat) (hy : y ≤ 8) (hn8 : 9 ≤ y + n9), G p l e room_1 s m args below meth c D A s.heap 21 (k + 4 * (8 * x + y)) (n + 24 * (8 * x + y)) Q 669 [(15, .int (nI y)), (14, .int (nI x)), (5, .ref q), (3, .int v), (2, .int (nI t)), (1, .ref h), (0, .ref b)] [] (Wm cI cP h ad np hr wet cover sun fs mk fd pcs pa P ((Mt cA cI q r F))) := by
          intro n9
          induction n9 with
          | zero =>
            intro y hy hn8
            exfalso; omega
          | succ n9 ih2 =>
            intro y hy hn8
            refine g_iload C dL_law_669 0 rfl ?_
            refine g_bipush (v := 8) C dL_law_671 (by decide) ?_
            refine g_icmp_ge (tgt := 740) C dL_law_673 (by decide) (fun c_4 => ?_) (fun c_4 => ?_)
            · skip
              rw [show (8 : Int32) = nI 8 from rfl, nI_leI (by omega) (by omega)] at c_4
              refine g_iinc (v := nI (x + 1)) (lv' := [(14, .int (nI (x + 1))), (15, .int (nI y)), (5, .ref q), (3, .int v), (2, .int (nI t)), (1, .ref h), (0, .ref b)]) C dL_law_740 1 rfl (by exact nI_add _ 1) (by decide) rfl ?_
              refine g_goto (tgt := 659) C dL_law_743 (by decide) ?_
              refine g_sub [0, 2, 3, 4, 5, 6] (lv' := [(14, .int (nI (x + 1))), (5, .ref q), (3, .int v), (2, .int (nI t)), (1, .ref h), (0, .ref b)]) rfl ?_
              refine g_more (k2 := k + 4 * (8 * (x + 1))) (n2 := n + 24 * (8 * (x + 1))) (by omega) (by omega) ?_
              exact ih (x + 1) (by omega) (by omega)
            · skip
              rw [show (8 : Int32) = nI 8 from rfl, nI_leI (by omega) (by omega)] at c_4
              rcases hle (10 * y + x) (by omega) with ⟨e1, e2⟩ | ⟨w1, v1, hw1, hv1, e1, e2⟩
              · skip
                refine g_aload_n C dL_law_676 rfl 5 rfl ?_
                refine g_iload C dL_law_677 1 rfl ?_
                refine g_iload C dL_law_679 0 rfl ?_
                refine g_iconst (v := 0) C dL_law_681 (by decide) ?_
                refine q_cell (w := 0) X J (by omega) (by omega) (by omega) rfl dL_law_682 (Nat.le_of_ble_eq_true rfl) (by omega) (by omega) ?_
                refine g_eqi (y := wet (10 * y + x)) rfl ?_
                refine g_eqi (x := wet (10 * y + x)) (y := -1) (e2) ?_
                refine g_aload C dL_law_685 2 rfl ?_
                refine g_iload C dL_law_687 1 rfl ?_
                refine q_rowI X (by omega) dL_law_689 ?_
                refine g_iload C dL_law_690 0 rfl ?_
                refine q_iald X (by omega) (by omega) dL_law_692 ?_
                refine g_eqi (x := F x y) (y := -1) ((hF _ _ (by omega) (by omega)).trans e1) ?_
                refine g_icmp_gt (tgt := 732) C dL_law_693 (by decide) (fun c_5 => by exfalso; exact absurd c_5 (by decide)) (fun c_5 => ?_)
                refine g_aload_n C dL_law_696 rfl 5 rfl ?_
                refine g_iload C dL_law_697 1 rfl ?_
                refine g_iload C dL_law_699 0 rfl ?_
                refine g_iconst (v := 0) C dL_law_701 (by decide) ?_
                refine q_cell (w := 0) X J (by omega) (by omega) (by omega) rfl dL_law_702 (Nat.le_of_ble_eq_true rfl) (by omega) (by omega) ?_
                refine g_eqi (y := wet (10 * y + x)) rfl ?_
                refine g_eqi (x := wet (10 * y + x)) (y := -1) (e2) ?_
                refine tif_ge (v := true) C (fun h => absurd h (by decide)) (fun h => rfl) dL_law_705 dL_law_708 dL_law_709 dL_law_712 ?_
                refine g_aload C dL_law_713 2 rfl ?_
                refine g_iload C dL_law_715 1 rfl ?_
                refine q_rowI X (by omega) dL_law_717 ?_
                refine g_iload C dL_law_718 0 rfl ?_
                refine q_iald X (by omega) (by omega) dL_law_720 ?_
                refine g_eqi (x := F x y) (y := -1) ((hF _ _ (by omega) (by omega)).trans e1) ?_
                refine tif_ge (v := true) C (fun h => absurd h (by decide)) (fun h => rfl) dL_law_721 dL_law_724 dL_law_725 dL_law_728 ?_
                refine g_icmp_eq (tgt := 734) C dL_law_729 (by decide) (fun c_6 => ?_) (fun c_6 => by exfalso; exact c_6 rfl)
                refine g_iinc (v := nI (y + 1)) (lv' := [(15, .int (nI (y + 1))), (14, .int (nI x)), (5, .ref q), (3, .int v), (2, .int (nI t)), (1, .ref h), (0, .ref b)]) C dL_law_734 0 rfl (by exact nI_add _ 1) (by decide) rfl ?_
                refine g_goto (tgt := 669) C dL_law_737 (by decide) ?_
                refine g_sub [0, 1, 2, 3, 4, 5, 6] (lv' := [(15, .int (nI (y + 1))), (14, .int (nI x)), (5, .ref q), (3, .int v), (2, .int (nI t)), (1, .ref h), (0, .ref b)]) rfl ?_
                refine g_more (k2 := k + 4 * (8 * x + (y + 1))) (n2 := n + 24 * (8 * x + (y + 1))) (by omega) (by omega) ?_
                exact ih2 (y + 1) (by omega) (by omega)
              · skip
                refine g_aload_n C dL_law_676 rfl 5 rfl ?_
                refine g_iload C dL_law_677 1 rfl ?_
                refine g_iload C dL_law_679 0 rfl ?_
                refine g_iconst (v := 0) C dL_law_681 (by decide) ?_
                refine q_cell (w := 0) X J (by omega) (by omega) (by omega) rfl dL_law_682 (Nat.le_of_ble_eq_true rfl) (by omega) (by omega) ?_
                refine g_eqi (y := wet (10 * y + x)) rfl ?_
                refine g_eqi (x := wet (10 * y + x)) (y := nI v1) (e2) ?_
                refine g_aload C dL_law_685 2 rfl ?_
                refine g_iload C dL_law_687 1 rfl ?_
                refine q_rowI X (by omega) dL_law_689 ?_
                refine g_iload C dL_law_690 0 rfl ?_
                refine q_iald X (by omega) (by omega) dL_law_692 ?_
                refine g_eqi (x := F x y) (y := nI w1) ((hF _ _ (by omega) (by omega)).trans e1) ?_
                refine g_icmp_gt (tgt := 732) C dL_law_693 (by decide) (fun c_7 => by exfalso; rw [nI_ltI (by omega) (by omega)] at c_7; omega) (fun c_7 => ?_)
                rw [nI_ltI (by omega) (by omega)] at c_7
                refine g_aload_n C dL_law_696 rfl 5 rfl ?_
                refine g_iload C dL_law_697 1 rfl ?_
                refine g_iload C dL_law_699 0 rfl ?_
                refine g_iconst (v := 0) C dL_law_701 (by decide) ?_
                refine q_cell (w := 0) X J (by omega) (by omega) (by omega) rfl dL_law_702 (Nat.le_of_ble_eq_true rfl) (by omega) (by omega) ?_
                refine g_eqi (y := wet (10 * y + x)) rfl ?_
                refine g_eqi (x := wet (10 * y + x)) (y := nI v1) (e2) ?_
                refine tif_ge (v := false) C (fun h => rfl) (fun h => absurd (nI_pos' (by omega)) h) dL_law_705 dL_law_708 dL_law_709 dL_law_712 ?_
                refine g_aload C dL_law_713 2 rfl ?_
                refine g_iload C dL_law_715 1 rfl ?_
                refine q_rowI X (by omega) dL_law_717 ?_
                refine g_iload C dL_law_718 0 rfl ?_
                refine q_iald X (by omega) (by omega) dL_law_720 ?_
                refine g_eqi (x := F x y) (y := nI w1) ((hF _ _ (by omega) (by omega)).trans e1) ?_
                refine tif_ge (v := false) C (fun h => rfl) (fun h => absurd (nI_pos' (by omega)) h) dL_law_721 dL_law_724 dL_law_725 dL_law_728 ?_
                refine g_icmp_eq (tgt := 734) C dL_law_729 (by decide) (fun c_8 => ?_) (fun c_8 => by exfalso; exact c_8 rfl)
                refine g_iinc (v := nI (y + 1)) (lv' := [(15, .int (nI (y + 1))), (14, .int (nI x)), (5, .ref q), (3, .int v), (2, .int (nI t)), (1, .ref h), (0, .ref b)]) C dL_law_734 0 rfl (by exact nI_add _ 1) (by decide) rfl ?_
                refine g_goto (tgt := 669) C dL_law_737 (by decide) ?_
                refine g_sub [0, 1, 2, 3, 4, 5, 6] (lv' := [(15, .int (nI (y + 1))), (14, .int (nI x)), (5, .ref q), (3, .int v), (2, .int (nI t)), (1, .ref h), (0, .ref b)]) rfl ?_
                refine g_more (k2 := k + 4 * (8 * x + (y + 1))) (n2 := n + 24 * (8 * x + (y + 1))) (by omega) (by omega) ?_
                exact ih2 (y + 1) (by omega) (by omega)
        refine g_sub [0, 1, 2, 3, 4, 5, 6] (lv' := [(15, .int 0), (14, .int (nI x)), (5, .ref q), (3, .int v), (2, .int (nI t)), (1, .ref h), (0, .ref b)]) rfl ?_
        refine g_more (k2 := k + 4 * (8 * x + 0)) (n2 := n + 24 * (8 * x + 0)) (by omega) (by omega) ?_
        exact lp669_3 9 0 (by omega) (by omega)
  refine g_sub [0, 1, 2, 3, 4, 5] (lv' := [(14, .int 0), (5, .ref q), (3, .int v), (2, .int (nI t)), (1, .ref h), (0, .ref b)]) rfl ?_
  refine g_more (k2 := k + 4 * (8 * 0)) (n2 := n + 24 * (8 * 0)) (by omega) (by omega) ?_
  exact lp659_1 11 0 (by omega) (by omega)
set_option maxHeartbeats 4000000 in
set_option maxRecDepth 100000 in
theorem sg_Bpass {p : Program} {l : Launch} {e : Env} {s : State} {m : MethodId} {args : Array Value} {below : List Frame} {meth : Method} {c : Code} {Q : State → Prop} {D : va_G} {A : Nat → Prop} {tys : List (ClassId × FieldType)} {rt : Option FieldType} {cI cP cZ cA cB : ClassId} {b L : Nat} {xs : Nat → Int32} {k n : Nat} {h np hr : Nat} {ad : Nat → Nat} {wet cover sun fs mk fd : Nat → Int32} {pcs : Nat → Option Nat} {pa : Nat → Nat} {P : Nat → Pd} {t pp q : Nat} {v : Int32} {r : Nat → Nat} {F : Nat → Nat → Int32} {il : Bool} (X : Cx p l s m args meth c D A tys rt cI cP cZ cA cB b L xs) (J : JV np wet cover sun P pcs pa) (hF : ∀ i j, i ≤ 9 → j ≤ 7 → F i j = wet (10 * j + i)) (hhr : hr ≤ 1000) (hk : k + 400 ≤ 605351) (hn : n + 2600 ≤ 7285716)
    (kk : ∀ (np2 hr2 : Nat) (wet2 cover2 sun2 fs2 mk2 fd2 : Nat → Int32) (pcs2 : Nat → Option Nat) (pa2 : Nat → Nat) (P2 : Nat → Pd), JV np2 wet2 cover2 sun2 P2 pcs2 pa2 → hr2 ≤ hr + 3 → G p l e room_1 s m args below meth c D A s.heap 21 (k + 400) (n + 2600) Q 746 [(3, .int v), (2, .int (nI t)), (1, .ref h), (0, .ref b)] [] (Wm cI cP h ad np2 hr2 wet2 cover2 sun2 fs2 mk2 fd2 pcs2 pa2 P2 [])) :
    G p l e room_1 s m args below meth c D A s.heap 21 k n Q 147 [(10, .int 5), (8, .long (dgT np hr P wet cover sun (fun _ => 0))), (7, .int (gz il)), (6, .int (nI pp)), (5, .ref q), (4, .int (nI np)), (3, .int v), (2, .int (nI t)), (1, .ref h), (0, .ref b)] [] (Wm cI cP h ad np hr wet cover sun fs mk fd pcs pa P ((Mt cA cI q r F))) := by
  have C := X.C
  have hnp := J.1
  refine g_iload C dL_law_147 0 rfl ?_
  refine g_iconst (v := 2) C dL_law_149 (by decide) ?_
  refine g_icmp_ge (tgt := 275) C dL_law_150 (by decide) (fun c_1 => ?_) (fun c_1 => by exfalso; exact absurd c_1 (by decide))
  refine g_iload C dL_law_275 0 rfl ?_
  refine g_iconst (v := 5) C dL_law_277 (by decide) ?_
  refine g_icmp_ge (tgt := 575) C dL_law_278 (by decide) (fun c_2 => ?_) (fun c_2 => by exfalso; exact absurd c_2 (by decide))
  refine g_iload C dL_law_575 0 rfl ?_
  refine g_iconst (v := 5) C dL_law_577 (by decide) ?_
  refine g_icmp_ne (tgt := 746) C dL_law_578 (by decide) (fun c_3 => by exfalso; exact absurd c_3 (by decide)) (fun c_3 => ?_)
  refine g_iconst (v := 1) C dL_law_581 (by decide) ?_
  refine g_iload_n C dL_law_582 rfl 6 rfl ?_
  refine g_iconst (v := 4) C dL_law_583 (by decide) ?_
  refine g_ishr C dL_law_584 ?_
  refine g_topi (fun z_4 _ => ?_)
  refine g_iconst (v := 3) C dL_law_585 (by decide) ?_
  refine q_below (j := 3) X rfl (by omega) (by omega) dL_law_586 (Nat.le_of_ble_eq_true rfl) (by omega) (by omega) (fun jh hjh => ?_)
  refine g_iadd C dL_law_589 ?_
  refine g_eqi (x := 1 + (nI jh)) (y := nI (1 + jh)) (by exact nI_add 1 jh) ?_
  refine g_istore (lv' := [(11, .int (nI (1 + jh))), (10, .int 5), (8, .long (dgT np hr P wet cover sun (fun _ => 0))), (7, .int (gz il)), (6, .int (nI pp)), (5, .ref q), (4, .int (nI np)), (3, .int v), (2, .int (nI t)), (1, .ref h), (0, .ref b)]) C dL_law_590 (by decide) rfl ?_
  refine g_aload_n C dL_law_592 rfl 9 rfl ?_
  refine g_iconst (v := 3) C dL_law_593 (by decide) ?_
  refine q_count (w := 3) X J (by omega) rfl dL_law_594 (Nat.le_of_ble_eq_true rfl) (by omega) (by omega) ?_
  refine g_eqi (y := nI (cnt (fun k => lsp (P k) wet) np)) rfl ?_
  refine g_istore (lv' := [(12, .int (nI (cnt (fun k => lsp (P k) wet) np))), (11, .int (nI (1 + jh))), (10, .int 5), (8, .long (dgT np hr P wet cover sun (fun _ => 0))), (7, .int (gz il)), (6, .int (nI pp)), (5, .ref q), (4, .int (nI np)), (3, .int v), (2, .int (nI t)), (1, .ref h), (0, .ref b)]) C dL_law_597 (by decide) rfl ?_
  refine g_aload_n C dL_law_599 rfl 10 rfl ?_
  refine q_dry X J (by omega) dL_law_600 (Nat.le_of_ble_eq_true rfl) (by omega) (by omega) (fun fs_5 => ?_)
  refine g_istore (lv' := [(13, .int (fstI (dryB wet cover sun hr) 201 0)), (12, .int (nI (cnt (fun k => lsp (P k) wet) np))), (11, .int (nI (1 + jh))), (10, .int 5), (8, .long (dgT np hr P wet cover sun (fun _ => 0))), (7, .int (gz il)), (6, .int (nI pp)), (5, .ref q), (4, .int (nI np)), (3, .int v), (2, .int (nI t)), (1, .ref h), (0, .ref b)]) C dL_law_603 (by decide) rfl ?_
  rcases dry_two wet cover sun hr (1 + jh) with hd | ⟨kd, hkd, e1, e2, e3⟩
  · rw [hd]
    refine g_aload_n C dL_law_605 rfl 11 rfl ?_
    refine g_iload C dL_law_606 2 rfl ?_
    refine q_pass (v := 1 + jh) X J (by omega) (by omega) (by omega) dL_law_608 (Nat.le_of_ble_eq_true rfl) (by omega) (by omega) ?_
    have Jp_6 := jv_pass J hr (1 + jh)
    refine g_iload C dL_law_611 1 rfl ?_
    refine g_icmp_gt (tgt := 654) C dL_law_613 (by decide) (fun c_7 => by exfalso; exact cnt_nlt hnp loose_le c_7) (fun c_7 => ?_)
    refine g_iload C dL_law_616 0 rfl ?_
    refine g_iload C dL_law_618 2 rfl ?_
    refine g_icmp_le (tgt := 635) C dL_law_620 (by decide) (fun c_8 => ?_) (fun c_8 => by exfalso; exact c_8 (m1_le (by omega)))
    refine g_iload C dL_law_635 0 rfl ?_
    refine g_if_lt (tgt := 656) C dL_law_637 (by decide) (fun c_9 => ?_) (fun c_9 => by exfalso; exact absurd c_9 (by decide))
    refine g_sub [7, 9, 10, 11, 12] (lv' := [(5, .ref q), (3, .int v), (2, .int (nI t)), (1, .ref h), (0, .ref b)]) rfl ?_
    refine g_more (k2 := k + 20) (n2 := n + 120) (by omega) (by omega) ?_
    refine sg_hours (w0 := wet) X Jp_6 hF (fun c hc => wetN_two J.2.2.2.2.1 J.2.2.2.2.2.1 hc _) (by omega) (by omega) ?_
    refine g_more (k2 := k + 400) (n2 := n + 2600) (by omega) (by omega) ?_
    exact kk _ _ _ _ _ _ _ _ _ _ _ Jp_6 (by omega)
  · rw [e1]
    refine g_aload_n C dL_law_605 rfl 11 rfl ?_
    refine g_iload C dL_law_606 2 rfl ?_
    refine q_pass (v := 1 + jh) X J (by omega) (by omega) (by omega) dL_law_608 (Nat.le_of_ble_eq_true rfl) (by omega) (by omega) ?_
    have Jp_10 := jv_pass J hr (1 + jh)
    refine g_iload C dL_law_611 1 rfl ?_
    refine g_icmp_gt (tgt := 654) C dL_law_613 (by decide) (fun c_11 => by exfalso; exact cnt_nlt hnp loose_le c_11) (fun c_11 => ?_)
    refine g_iload C dL_law_616 0 rfl ?_
    refine g_iload C dL_law_618 2 rfl ?_
    refine g_icmp_le (tgt := 635) C dL_law_620 (by decide) (fun c_12 => ?_) (fun c_12 => ?_)
    · skip
      rw [nI_leI (by omega) (by omega)] at c_12
      refine g_iload C dL_law_635 0 rfl ?_
      refine g_if_lt (tgt := 656) C dL_law_637 (by decide) (fun c_13 => by exfalso; rw [show (0 : Int32) = nI 0 from rfl, nI_ltI (by omega) (by omega)] at c_13; omega) (fun c_13 => ?_)
      rw [show (0 : Int32) = nI 0 from rfl, nI_ltI (by omega) (by omega)] at c_13
      refine g_iload C dL_law_640 0 rfl ?_
      refine g_iload C dL_law_642 2 rfl ?_
      refine g_icmp_gt (tgt := 656) C dL_law_644 (by decide) (fun c_14 => by exfalso; rw [nI_ltI (by omega) (by omega)] at c_14; omega) (fun c_14 => ?_)
      rw [nI_ltI (by omega) (by omega)] at c_14
      refine g_aload_n C dL_law_647 rfl 11 rfl ?_
      refine q_dry X Jp_10 (by omega) dL_law_648 (Nat.le_of_ble_eq_true rfl) (by omega) (by omega) (fun fs_15 => ?_)
      refine g_eqi (x := fstI (dryB (wetN wet cover sun hr (1 + jh)) cover sun (hr + (1 + jh))) 201 0) (y := 0) (by exact e3 (by omega)) ?_
      refine g_if_eq (tgt := 656) C dL_law_651 (by decide) (fun c_16 => ?_) (fun c_16 => by exfalso; exact absurd c_16 (by decide))
      refine g_sub [7, 9, 10, 11, 12] (lv' := [(5, .ref q), (3, .int v), (2, .int (nI t)), (1, .ref h), (0, .ref b)]) rfl ?_
      refine g_more (k2 := k + 20) (n2 := n + 120) (by omega) (by omega) ?_
      refine sg_hours (w0 := wet) X Jp_10 hF (fun c hc => wetN_two J.2.2.2.2.1 J.2.2.2.2.2.1 hc _) (by omega) (by omega) ?_
      refine g_more (k2 := k + 400) (n2 := n + 2600) (by omega) (by omega) ?_
      exact kk _ _ _ _ _ _ _ _ _ _ _ Jp_10 (by omega)
    · skip
      rw [nI_leI (by omega) (by omega)] at c_12
      refine g_aload_n C dL_law_623 rfl 11 rfl ?_
      refine q_dry X Jp_10 (by omega) dL_law_624 (Nat.le_of_ble_eq_true rfl) (by omega) (by omega) (fun fs_17 => ?_)
      refine g_eqi (x := fstI (dryB (wetN wet cover sun hr (1 + jh)) cover sun (hr + (1 + jh))) 201 0) (y := nI (kd - (1 + jh))) (e2 (by omega)) ?_
      refine g_iload C dL_law_627 0 rfl ?_
      refine g_iload C dL_law_629 2 rfl ?_
      refine g_isub C dL_law_631 ?_
      refine g_eqi (x := (nI kd) - (nI (1 + jh))) (y := nI (kd - (1 + jh))) (by rw [pk_sub (by omega)]) ?_
      refine g_icmp_ne (tgt := 654) C dL_law_632 (by decide) (fun c_18 => by exfalso; rw [nI_eq (by omega) (by omega)] at c_18; omega) (fun c_18 => ?_)
      rw [nI_eq (by omega) (by omega)] at c_18
      refine g_iload C dL_law_635 0 rfl ?_
      refine g_if_lt (tgt := 656) C dL_law_637 (by decide) (fun c_19 => by exfalso; rw [show (0 : Int32) = nI 0 from rfl, nI_ltI (by omega) (by omega)] at c_19; omega) (fun c_19 => ?_)
      rw [show (0 : Int32) = nI 0 from rfl, nI_ltI (by omega) (by omega)] at c_19
      refine g_iload C dL_law_640 0 rfl ?_
      refine g_iload C dL_law_642 2 rfl ?_
      refine g_icmp_gt (tgt := 656) C dL_law_644 (by decide) (fun c_20 => ?_) (fun c_20 => by exfalso; rw [nI_ltI (by omega) (by omega)] at c_20; omega)
      rw [nI_ltI (by omega) (by omega)] at c_20
      refine g_sub [7, 9, 10, 11, 12] (lv' := [(5, .ref q), (3, .int v), (2, .int (nI t)), (1, .ref h), (0, .ref b)]) rfl ?_
      refine g_more (k2 := k + 20) (n2 := n + 120) (by omega) (by omega) ?_
      refine sg_hours (w0 := wet) X Jp_10 hF (fun c hc => wetN_two J.2.2.2.2.1 J.2.2.2.2.2.1 hc _) (by omega) (by omega) ?_
      refine g_more (k2 := k + 400) (n2 := n + 2600) (by omega) (by omega) ?_
      exact kk _ _ _ _ _ _ _ _ _ _ _ Jp_10 (by omega)
