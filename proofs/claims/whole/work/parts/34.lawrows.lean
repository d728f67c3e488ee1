/-! the law's loop: what holds at its head, and its short rows -/
def LI (cI cP cL : ClassId) (h o u0 N : Nat) (W : va_W) : Prop := ∃ (a1 a2 a3 a4 a5 a6 a7 u1 u2 u3 u4 u5 u6 u7 u8 u9 u10 u11 u12 u13 u14 np hr : Nat) (th ah : Int32) (wet cover sun fs mk fd fi le ac se hh ou rw fo aw : Nat → Int32) (pcs : Nat → Option Nat) (pa : Nat → Nat) (P : Nat → Pd) (g : Nat → Int64), W = ((h, .inr (1, [.ref a1, .ref a2, .ref a3, .ref a4, .int (nI np), .int (nI hr), .ref a5, .ref a6, .ref a7])) :: (a1, .inl (cI, 80, .inl (wet))) :: (a2, .inl (cI, 80, .inl (cover))) :: (a3, .inl (cI, 8, .inl (sun))) :: (a4, .inl (cP, 100, .inr (.inr (.inr (.inr (pcs)))))) :: (a5, .inl (cI, 80, .inl (fs))) :: (a6, .inl (cI, 80, .inl (mk))) :: (a7, .inl (cI, 80, .inl (fd))) :: (plist pa P np ++ ((o, .inl (cL, 1, .inr (.inl (g)))) :: (u0, .inr (3, [.int th, .int (nI np), .ref u1, .ref u2, .ref u3, .ref u4, .ref u5, .ref u6, .ref u7, .ref u8, .ref u9, .ref u10, .ref u11, .ref u13])) :: (u1, .inl (cI, 100, .inl (fi))) :: (u2, .inl (cI, 100, .inl (le))) :: (u3, .inl (cI, 100, .inl (ac))) :: (u4, .inl (cI, 100, .inl (se))) :: (u5, .inl (cI, 100, .inl (hh))) :: (u6, .inl (cI, 100, .inl (ou))) :: (u7, .inl (cI, 80, .inl (cover))) :: (u8, .inl (cI, 8, .inl (sun))) :: (u9, .inl (cI, 80, .inl (rw))) :: (u10, .inl (cI, 80, .inl (fo))) :: (u11, .inr (2, [.int (nI hr), .ref u12, .ref u0])) :: (u12, .inl (cI, 80, .inl (wet))) :: (u13, .inr (2, [.int ah, .ref u14, .ref u0])) :: (u14, .inl (cI, 80, .inl (aw))) :: ([] : va_W)))) ∧ IV N np hr wet cover sun P fi le ac se hh ou pcs pa
theorem rotL {a b c d e f g h o : Nat × va_E} {pl B : va_W} : List.Perm (a :: b :: c :: d :: e :: f :: g :: h :: (pl ++ (o :: B))) (B ++ (a :: b :: c :: d :: e :: f :: g :: h :: (pl ++ [o]))) := by
  have e1 : a :: b :: c :: d :: e :: f :: g :: h :: (pl ++ (o :: B)) = (a :: b :: c :: d :: e :: f :: g :: h :: (pl ++ [o])) ++ B := by simp
  rw [e1]
  exact List.perm_append_comm
theorem lcmp0 {a b : Int64} (h : a = b) : lg_cmp a b = 0 := by
  subst h
  unfold lg_cmp
  rw [if_neg (Int64.lt_irrefl), if_pos rfl]
theorem updL0 {g : Nat → Int64} {v : Int64} : vp_updL g 0 v (0 : Int32).toNatClampNeg = v := by
  show vp_updL g 0 v 0 = v
  exact if_pos rfl
theorem nI_z {k : Nat} (h : k < 2 ^ 31) (e : nI k = 0) : k = 0 := by
  rw [← nI_0, nI_eq h (by omega)] at e
  exact e
theorem shareEq : ∀ n, n ≤ 80 → Op.cmpValue (FP.dcmp (shareD n) (shareD n)) .l = 0 := by
  have h : (List.range 81).all (fun n => decide (Op.cmpValue (FP.dcmp (shareD n) (shareD n)) .l = 0)) = true := by decide +kernel
  intro n hn
  exact of_decide_eq_true (List.all_eq_true.mp h n (List.mem_range.mpr (by omega)))
theorem gap_ans2 {cover fd rw0 : Nat → Int32} {x y : Int32} (h : cdO x y = 0) : nI (mgp cover x y (fun _ => 0) fd).2.2 = gapM cover rw0 (10 * vn y + vn x) := by
  obtain ⟨x9, y9, hx, hy, rfl, rfl⟩ := onW_nat (cd0_1 h)
  rw [show vn (nI x9) = x9 from nI_clamp (by omega), show vn (nI y9) = y9 from nI_clamp (by omega)]
  exact gap_ans hx hy
theorem mend_ans2 {cover fd rw0 : Nat → Int32} {x y : Int32} {ac : Bool} (h : cdO x y = 0) : nI (pfm (mgp cover x y (fun _ => 0) fd).1 ac) = menM cover rw0 (10 * vn y + vn x) ac := by
  obtain ⟨x9, y9, hx, hy, rfl, rfl⟩ := onW_nat (cd0_1 h)
  rw [show vn (nI x9) = x9 from nI_clamp (by omega), show vn (nI y9) = y9 from nI_clamp (by omega)]
  exact mend_ans hx hy
section GA
variable {p : Program} {l : Launch} {e : Env} {R : Room} {s : State} {m : MethodId} {args : Array Value} {below : List Frame} {meth : Method} {c : Code} {Q : State → Prop} {D : va_G} {A : Nat → Prop} {tys : List (ClassId × FieldType)} {cc : ByteArray} {nL k n : Nat} {Ts : List Cond} {own : String} {ret : Option FieldType} {pc : Nat} {lv : List (Nat × Value)} {rest : List Value} {ws : va_W}
theorem g_arg (C : gC p s m args meth c D A s.heap tys cc nL Ts own ret) {b L : Nat} {xs : Nat → Int32} (hX : va_X b L xs s s.heap) (hbl : b < s.heap.size) (hbA : ¬ A b) {i j w0 w4 : Nat} {z : Int} (d0 : decode cc pc = .ok (.aload_n 0, 1)) (d1 : decode cc (pc + 1) = .ok (.iload 4, 2)) (d3 : decode cc (pc + 3) = .ok (.iconst z, 1)) (d4 : decode cc (pc + 4) = .ok (.iadd, 1)) (d5 : decode cc (pc + 5) = .ok (.iaload, 1)) (hz : Int32.ofInt z = nI j) (hw0 : lv[w0]? = some (0, .ref b)) (hw4 : lv[w4]? = some (4, .int (nI i))) (hij : i + j < L) (hL : L < 2 ^ 31)
    (kk : G p l e R s m args below meth c D A s.heap nL k n Q (pc + 6) lv (.int (xs (i + j)) :: rest) ws) : G p l e R s m args below meth c D A s.heap nL k n Q pc lv rest ws := by
  refine g_aload_n C d0 rfl w0 hw0 ?_
  refine g_iload C d1 w4 hw4 ?_
  refine g_iconst C d3 hz ?_
  refine g_iadd C d4 ?_
  refine g_eqi (y := nI (i + j)) (nI_add i j) ?_
  refine g_sld C hX hbl hbA (vp_in_nI hij hL) d5 ?_
  refine g_eqi (y := xs (i + j)) (by rw [nI_clamp (by omega)]) ?_
  exact kk
theorem g_argB (C : gC p s m args meth c D A s.heap tys cc nL Ts own ret) {b L : Nat} {xs : Nat → Int32} (hX : va_X b L xs s s.heap) (hbl : b < s.heap.size) (hbA : ¬ A b) {i j w0 w4 : Nat} {z : Int} (d0 : decode cc pc = .ok (.aload_n 0, 1)) (d1 : decode cc (pc + 1) = .ok (.iload 4, 2)) (d3 : decode cc (pc + 3) = .ok (.bipush z, 2)) (d4 : decode cc (pc + 5) = .ok (.iadd, 1)) (d5 : decode cc (pc + 6) = .ok (.iaload, 1)) (hz : (Int8.ofInt z).toInt32 = nI j) (hw0 : lv[w0]? = some (0, .ref b)) (hw4 : lv[w4]? = some (4, .int (nI i))) (hij : i + j < L) (hL : L < 2 ^ 31)
    (kk : G p l e R s m args below meth c D A s.heap nL k n Q (pc + 7) lv (.int (xs (i + j)) :: rest) ws) : G p l e R s m args below meth c D A s.heap nL k n Q pc lv rest ws := by
  refine g_aload_n C d0 rfl w0 hw0 ?_
  refine g_iload C d1 w4 hw4 ?_
  refine g_bipush C d3 hz ?_
  refine g_iadd C d4 ?_
  refine g_eqi (y := nI (i + j)) (nI_add i j) ?_
  refine g_sld C hX hbl hbA (vp_in_nI hij hL) d5 ?_
  refine g_eqi (y := xs (i + j)) (by rw [nI_clamp (by omega)]) ?_
  exact kk
theorem g_neq0 (C : gC p s m args meth c D A s.heap tys cc nL Ts own ret) {v : Int32} (d0 : decode cc pc = .ok (.ifCond .eq 7, 3)) (d3 : decode cc (pc + 3) = .ok (.iconst 1, 1)) (d4 : decode cc (pc + 4) = .ok (.goto 4, 3)) (d7 : decode cc (pc + 7) = .ok (.iconst 0, 1)) (kk : G p l e R s m args below meth c D A s.heap nL k n Q (pc + 8) lv (.int (gz (decide (¬ v = 0))) :: rest) ws) : G p l e R s m args below meth c D A s.heap nL k n Q pc lv (.int v :: rest) ws := by
  refine g_if_eq (tgt := pc + 7) C d0 (by omega) (fun hv => ?_) (fun hv => ?_)
  · refine g_iconst (v := 0) C d7 (by decide) ?_
    rw [decide_eq_false (fun h => h hv)] at kk
    exact kk
  · refine g_iconst (v := 1) C d3 (by decide) ?_
    refine g_goto (tgt := pc + 8) C d4 (by omega) ?_
    rw [decide_eq_true hv] at kk
    exact kk
theorem g_gzL (C : gC p s m args meth c D A s.heap tys cc nL Ts own ret) {v : Bool} (d0 : decode cc pc = .ok (.ifCond .eq 7, 3)) (d3 : decode cc (pc + 3) = .ok (.lconst 1, 1)) (d4 : decode cc (pc + 4) = .ok (.goto 4, 3)) (d7 : decode cc (pc + 7) = .ok (.lconst 0, 1)) (kk : G p l e R s m args below meth c D A s.heap nL k n Q (pc + 8) lv (.long (gzL v) :: rest) ws) : G p l e R s m args below meth c D A s.heap nL k n Q pc lv (.int (gz v) :: rest) ws := by
  refine g_if_eq (tgt := pc + 7) C d0 (by omega) (fun hv => ?_) (fun hv => ?_)
  · refine g_lconst (v := 0) C d7 (by decide) ?_
    rw [gz0.mp hv] at kk
    exact kk
  · refine g_lconst (v := 1) C d3 (by decide) ?_
    refine g_goto (tgt := pc + 8) C d4 (by omega) ?_
    rw [gzn.mp hv] at kk
    exact kk
end GA
