/-! the law's loop -/
set_option maxHeartbeats 4000000 in
set_option maxRecDepth 100000 in
theorem law_loop {p : Program} {l : Launch} {e : Env} {s : State} {m : MethodId} {args : Array Value} {below : List Frame} {meth : Method} {c : Code} {Q : State → Prop} {D : va_G} {A : Nat → Prop} {tys : List (ClassId × FieldType)} {rt : Option FieldType} {cI cP cZ cA cB : ClassId} {b L : Nat} {xs : Nat → Int32} (X : Cx p l s m args meth c D A tys rt cI cP cZ cA cB b L xs) {h : Nat} {ad : Nat → Nat}
    (kend : ∀ (k n : Nat) (v2 : Int32) (W : va_W), k ≤ 605351 → n ≤ 7285716 → G p l e room_1 s m args below meth c D A s.heap 21 k n Q 1492 [(2, .int v2), (1, .ref h), (0, .ref b)] [] W) :
    ∀ (n9 t np hr : Nat) (wet cover sun fs mk fd : Nat → Int32) (pcs : Nat → Option Nat) (pa : Nat → Nat) (P : Nat → Pd), 21 ≤ t + n9 → t ≤ 20 → JV np wet cover sun P pcs pa → hr ≤ 300 + 3 * t → G p l e room_1 s m args below meth c D A s.heap 21 (2000 + 6000 * t) (20000 + 38000 * t) Q 7 [(2, .int (nI t)), (1, .ref h), (0, .ref b)] [] (Wm cI cP h ad np hr wet cover sun fs mk fd pcs pa P []) := by
  intro n9
  induction n9 with
  | zero => intro t np hr wet cover sun fs mk fd pcs pa P h1 h2; exfalso; omega
  | succ n9 ih =>
    intro t np hr wet cover sun fs mk fd pcs pa P h1 h2 J hhr
    have C := X.C
    refine g_iload_n C dL_law_7 rfl 0 rfl ?_
    refine g_bipush (v := 20) C dL_law_8 (by decide) ?_
    refine g_icmp_ge (tgt := 1492) C dL_law_10 (by decide) (fun hc => ?_) (fun hc => ?_)
    · exact kend _ _ _ _ (by omega) (by omega)
    · rw [show (20 : Int32) = nI 20 from rfl, nI_leI (by omega) (by omega)] at hc
      refine sg_A X J (by omega) (by omega) (by omega) (fun v mk1 fd1 q r F pp wh il hF hwh hpp hil => ?_)
      have key : ∀ (np2 hr2 : Nat) (wet2 cover2 sun2 fs2 mk2 fd2 : Nat → Int32) (pcs2 : Nat → Option Nat) (pa2 : Nat → Nat) (P2 : Nat → Pd), JV np2 wet2 cover2 sun2 P2 pcs2 pa2 → hr2 ≤ hr + 3 → G p l e room_1 s m args below meth c D A s.heap 21 (2000 + 6000 * t + 180 + 400) (20000 + 38000 * t + 1100 + 2600) Q 746 [(3, .int v), (2, .int (nI t)), (1, .ref h), (0, .ref b)] [] (Wm cI cP h ad np2 hr2 wet2 cover2 sun2 fs2 mk2 fd2 pcs2 pa2 P2 []) := by
        intro np2 hr2 wet2 cover2 sun2 fs2 mk2 fd2 pcs2 pa2 P2 J2 hh
        refine sg_C X J2 (by omega) (by omega) (by omega) (fun fs3 mk3 fd3 q3 r3 F3 cv hF3 hcv => ?_)
        refine sg_D X J2 (by omega) hF3 hcv (by omega) (by omega) (fun mk4 fd4 ja sh hja hsh => ?_)
        refine sg_E X J2 (by omega) hcv hja hsh (by omega) (by omega) ?_
        refine g_more (k2 := 2000 + 6000 * (t + 1)) (n2 := 20000 + 38000 * (t + 1)) (by omega) (by omega) ?_
        exact ih (t + 1) np2 hr2 _ _ _ _ _ _ _ _ _ (by omega) (by omega) J2 (by omega)
      rcases (show wh = 0 ∨ wh = 1 ∨ (2 ≤ wh ∧ wh ≤ 4 ∧ np = 0) ∨ (wh = 2 ∧ 0 < np) ∨ (wh = 3 ∧ 0 < np) ∨ (wh = 4 ∧ 0 < np) ∨ wh = 5 by omega) with rfl | rfl | ⟨hw2, hw4, h0⟩ | ⟨rfl, h0⟩ | ⟨rfl, h0⟩ | ⟨rfl, h0⟩ | rfl
      · exact sg_Bpress0 X J (by omega) (by omega) key
      · exact sg_Bpress1 X J (by omega) (by omega) key
      · exact sg_Bnone X J hw2 hw4 h0 (by omega) (by omega) key
      · have hl : il = lsp (P pp) wet := by rw [hil, decide_eq_true h0, Bool.true_and]
        subst hl
        exact sg_Bflip X J hF (hpp h0) (by omega) (by omega) key
      · have hl : il = lsp (P pp) wet := by rw [hil, decide_eq_true h0, Bool.true_and]
        subst hl
        exact sg_Bturn X J hF (hpp h0) (by omega) (by omega) key
      · have hl : il = lsp (P pp) wet := by rw [hil, decide_eq_true h0, Bool.true_and]
        subst hl
        exact sg_Btake X J hF (hpp h0) (by omega) (by omega) key
      · exact sg_Bpass X J hF (by omega) (by omega) (by omega) key
