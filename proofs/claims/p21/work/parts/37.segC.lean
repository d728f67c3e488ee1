set_option maxHeartbeats 4000000 in
set_option maxRecDepth 100000 in
theorem sg_C {p : Program} {l : Launch} {e : Env} {s : State} {m : MethodId} {args : Array Value} {below : List Frame} {meth : Method} {c : Code} {Q : State → Prop} {D : va_G} {A : Nat → Prop} {tys : List (ClassId × FieldType)} {rt : Option FieldType} {cI cP cZ cA cB : ClassId} {b L : Nat} {xs : Nat → Int32} {k n : Nat} {h np hr : Nat} {ad : Nat → Nat} {wet cover sun fs mk fd : Nat → Int32} {pcs : Nat → Option Nat} {pa : Nat → Nat} {P : Nat → Pd} {t : Nat} {v : Int32} (X : Cx p l s m args meth c D A tys rt cI cP cZ cA cB b L xs) (J : JV np wet cover sun P pcs pa) (hhr : hr ≤ 1100) (hk : k + 4100 ≤ 605351) (hn : n + 26300 ≤ 7285716)
    (kk : ∀ (fs mk fd : Nat → Int32) (q : Nat) (r : Nat → Nat) (F : Nat → Nat → Int32) (cv : Nat), (∀ x y, x ≤ 9 → y ≤ 7 → F x y = gz (decide (0 ≤ cover (10 * y + x)))) → cv = cnt (fun c => decide (0 ≤ cover c)) 80 → G p l e room_1 s m args below meth c D A s.heap 21 (k + 4100) (n + 26300) Q 1062 [(14, .int (nI cv)), (11, .ref q), (4, .int (nI np)), (3, .int v), (2, .int (nI t)), (1, .ref h), (0, .ref b)] [] (Wm cI cP h ad np hr wet cover sun fs mk fd pcs pa P ((Mt cB cZ q r F)))) :
    G p l e room_1 s m args below meth c D A s.heap 21 k n Q 746 [(3, .int v), (2, .int (nI t)), (1, .ref h), (0, .ref b)] [] (Wm cI cP h ad np hr wet cover sun fs mk fd pcs pa P []) := by
  have C := X.C
  have hnp := J.1
  refine g_aload_n C dL_law_746 rfl 2 rfl ?_
  refine g_iconst (v := 1) C dL_law_747 (by decide) ?_
  refine q_count (w := 1) X J (by omega) rfl dL_law_748 (Nat.le_of_ble_eq_true rfl) (by omega) (by omega) ?_
  refine g_eqi (y := nI np) rfl ?_
  refine g_istore (lv' := [(4, .int (nI np)), (3, .int v), (2, .int (nI t)), (1, .ref h), (0, .ref b)]) C dL_law_751 (by decide) rfl ?_
  refine g_bipush (v := 10) C dL_law_753 (by decide) ?_
  refine g_bipush (v := 8) C dL_law_755 (by decide) ?_
  refine q_mnaZ X dL_law_757 (by omega) (by omega) (fun q11 r11 => ?_)
  refine g_astore (lv' := [(11, .ref q11), (4, .int (nI np)), (3, .int v), (2, .int (nI t)), (1, .ref h), (0, .ref b)]) C dL_law_761 (by decide) rfl ?_
  refine g_iconst (v := 0) C dL_law_763 (by decide) ?_
  refine g_istore (lv' := [(12, .int 0), (11, .ref q11), (4, .int (nI np)), (3, .int v), (2, .int (nI t)), (1, .ref h), (0, .ref b)]) C dL_law_764 (by decide) rfl ?_
  refine g_iconst (v := 0) C dL_law_766 (by decide) ?_
  refine g_istore (lv' := [(13, .int 0), (12, .int 0), (11, .ref q11), (4, .int (nI np)), (3, .int v), (2, .int (nI t)), (1, .ref h), (0, .ref b)]) C dL_law_767 (by decide) rfl ?_
  refine g_iconst (v := 0) C dL_law_769 (by decide) ?_
  refine g_istore (lv' := [(14, .int 0), (13, .int 0), (12, .int 0), (11, .ref q11), (4, .int (nI np)), (3, .int v), (2, .int (nI t)), (1, .ref h), (0, .ref b)]) C dL_law_770 (by decide) rfl ?_
  refine g_iconst (v := 0) C dL_law_772 (by decide) ?_
  refine g_istore (lv' := [(15, .int 0), (14, .int 0), (13, .int 0), (12, .int 0), (11, .ref q11), (4, .int (nI np)), (3, .int v), (2, .int (nI t)), (1, .ref h), (0, .ref b)]) C dL_law_773 (by decide) rfl ?_
  have lp775_1 : ∀ (n9 : Nat) (j : Nat) (fs2 : Nat → Int32) (cv lo th : Nat) (F : Nat → Nat → Int32) (hcv : cv = cnt (tkB cover j) 80) (hlo : lo = cnt (fun k => lsp (P k) wet) j) (hth : th = cnt (fun k => !qo (P k)) j) (hF : ∀ x y, x ≤ 9 → y ≤ 7 → F x y = gz (tkB cover j (10 * y + x))) (hj : j ≤ np) (hn9 : np + 1 ≤ j + n9), G p l e room_1 s m args below meth c D A s.heap 21 (k + 12 + 40 * j) (n + 96 + 260 * j) Q 775 [(15, .int (nI j)), (14, .int (nI cv)), (13, .int (nI lo)), (12, .int (nI th)), (11, .ref q11), (4, .int (nI np)), (3, .int v), (2, .int (nI t)), (1, .ref h), (0, .ref b)] [] (Wm cI cP h ad np hr wet cover sun fs2 mk fd pcs pa P ((Mt cB cZ q11 r11 F))) := by
    intro n9
    induction n9 with
    | zero =>
      intro j fs2 cv lo th F hcv hlo hth hF hj hn9
      exfalso; omega
    | succ n9 ih =>
      intro j fs2 cv lo th F hcv hlo hth hF hj hn9
      refine g_iload C dL_law_775 0 rfl ?_
      refine g_iload C dL_law_777 5 rfl ?_
      refine g_icmp_ge (tgt := 1029) C dL_law_779 (by decide) (fun c_2 => ?_) (fun c_2 => ?_)
      · skip
        rw [nI_leI (by omega) (by omega)] at c_2
        refine g_iload C dL_law_1029 3 rfl ?_
        refine g_aload_n C dL_law_1031 rfl 8 rfl ?_
        refine g_iconst (v := 2) C dL_law_1032 (by decide) ?_
        refine q_count (w := 2) X J (by omega) rfl dL_law_1033 (Nat.le_of_ble_eq_true rfl) (by omega) (by omega) ?_
        refine g_eqi (y := nI (cnt (fun k => !qo (P k)) np)) rfl ?_
        refine g_icmp_ne (tgt := 1060) C dL_law_1036 (by decide) (fun c_3 => by exfalso; exact c_3 (by rw [hth, show j = np by omega])) (fun c_3 => ?_)
        refine g_iload C dL_law_1039 2 rfl ?_
        refine g_aload_n C dL_law_1041 rfl 8 rfl ?_
        refine g_iconst (v := 3) C dL_law_1042 (by decide) ?_
        refine q_count (w := 3) X J (by omega) rfl dL_law_1043 (Nat.le_of_ble_eq_true rfl) (by omega) (by omega) ?_
        refine g_eqi (y := nI (cnt (fun k => lsp (P k) wet) np)) rfl ?_
        refine g_icmp_ne (tgt := 1060) C dL_law_1046 (by decide) (fun c_4 => by exfalso; exact c_4 (by rw [hlo, show j = np by omega])) (fun c_4 => ?_)
        refine g_iload C dL_law_1049 1 rfl ?_
        refine g_aload_n C dL_law_1051 rfl 8 rfl ?_
        refine g_bipush (v := 6) C dL_law_1052 (by decide) ?_
        refine q_count (w := 6) X J (by omega) rfl dL_law_1054 (Nat.le_of_ble_eq_true rfl) (by omega) (by omega) ?_
        refine g_eqi (y := nI (cnt (fun c => decide (0 ≤ cover c)) 80)) rfl ?_
        refine g_icmp_eq (tgt := 1062) C dL_law_1057 (by decide) (fun c_5 => ?_) (fun c_5 => by exfalso; exact c_5 (by rw [hcv, show j = np by omega]; exact congrArg nI (cnt_congr (fun c hc => tk_np J.1 J.2.2.2.1.1 hc))))
        refine g_sub [1, 4, 5, 6, 7, 8, 9] (lv' := [(14, .int (nI cv)), (11, .ref q11), (4, .int (nI np)), (3, .int v), (2, .int (nI t)), (1, .ref h), (0, .ref b)]) rfl ?_
        refine g_more (k2 := k + 4100) (n2 := n + 26300) (by omega) (by omega) ?_
        exact kk _ _ _ q11 r11 F cv (fun x y hx hy => by rw [hF x y hx hy, show j = np by omega, tk_np J.1 J.2.2.2.1.1 (by omega)]) (by rw [hcv, show j = np by omega]; exact cnt_congr (fun c hc => tk_np J.1 J.2.2.2.1.1 hc))
      · skip
        rw [nI_leI (by omega) (by omega)] at c_2
        refine g_aload_n C dL_law_782 rfl 8 rfl ?_
        refine g_iload C dL_law_783 0 rfl ?_
        refine g_bipush (v := 7) C dL_law_785 (by decide) ?_
        refine q_piece (w := 7) (v := j) X J (by omega) (by omega) rfl dL_law_787 (Nat.le_of_ble_eq_true rfl) (by omega) (by omega) ?_
        refine g_eqi (y := gz (qo (P j))) rfl ?_
        refine g_iconst (v := 1) C dL_law_790 (by decide) ?_
        refine g_icmp_ne (tgt := 816) C dL_law_791 (by decide) (fun c_6 => ?_) (fun c_6 => ?_)
        · skip
          replace c_6 := gzn1.mp c_6
          refine g_iinc (v := nI (th + 1)) (lv' := [(12, .int (nI (th + 1))), (15, .int (nI j)), (14, .int (nI cv)), (13, .int (nI lo)), (11, .ref q11), (4, .int (nI np)), (3, .int v), (2, .int (nI t)), (1, .ref h), (0, .ref b)]) C dL_law_816 3 rfl (by exact nI_add _ 1) (by decide) rfl ?_
          refine g_iconst (v := 1) C dL_law_819 (by decide) ?_
          refine g_istore (lv' := [(16, .int 1), (12, .int (nI (th + 1))), (15, .int (nI j)), (14, .int (nI cv)), (13, .int (nI lo)), (11, .ref q11), (4, .int (nI np)), (3, .int v), (2, .int (nI t)), (1, .ref h), (0, .ref b)]) C dL_law_820 (by decide) rfl ?_
          refine g_iconst (v := 0) C dL_law_822 (by decide) ?_
          refine g_istore (lv' := [(17, .int 0), (16, .int 1), (12, .int (nI (th + 1))), (15, .int (nI j)), (14, .int (nI cv)), (13, .int (nI lo)), (11, .ref q11), (4, .int (nI np)), (3, .int v), (2, .int (nI t)), (1, .ref h), (0, .ref b)]) C dL_law_823 (by decide) rfl ?_
          have lp825_7 : ∀ (n9 : Nat) (i : Nat) (cv2 : Nat) (w2 : Bool) (F2 : Nat → Nat → Int32) (hcv2 : cv2 = cnt (tkI cover (pcl (P j)) j i) 80) (hw2 : w2 = allB (fun a => decide (1 ≤ wet (pcl (P j) a))) i) (hF2 : ∀ x y, x ≤ 9 → y ≤ 7 → F2 x y = gz (tkI cover (pcl (P j)) j i (10 * y + x))) (hi : i ≤ ql (P j)) (hn8 : ql (P j) + 1 ≤ i + n9), G p l e room_1 s m args below meth c D A s.heap 21 (k + 12 + 40 * j + 1 + 12 * i) (n + 96 + 260 * j + 6 + 72 * i) Q 825 [(17, .int (nI i)), (16, .int (gz w2)), (15, .int (nI j)), (14, .int (nI cv2)), (13, .int (nI lo)), (12, .int (nI (th + 1))), (11, .ref q11), (4, .int (nI np)), (3, .int v), (2, .int (nI t)), (1, .ref h), (0, .ref b)] [] (Wm cI cP h ad np hr wet cover sun fs2 mk fd pcs pa P ((Mt cB cZ q11 r11 F2))) := by
            intro n9
            induction n9 with
            | zero =>
              intro i cv2 w2 F2 hcv2 hw2 hF2 hi hn8
              exfalso; omega
            | succ n9 ih2 =>
              intro i cv2 w2 F2 hcv2 hw2 hF2 hi hn8
              have hq3 := (J.2.1 j (by omega)).2.1
              refine g_iload C dL_law_825 0 rfl ?_
              refine g_aload_n C dL_law_827 rfl 10 rfl ?_
              refine g_iload C dL_law_828 2 rfl ?_
              refine g_iconst (v := 2) C dL_law_830 (by decide) ?_
              refine q_piece (w := 2) (v := j) X J (by omega) (by omega) rfl dL_law_831 (Nat.le_of_ble_eq_true rfl) (by omega) (by omega) ?_
              refine g_eqi (y := nI (ql (P j))) rfl ?_
              refine g_icmp_ge (tgt := 965) C dL_law_834 (by decide) (fun c_8 => ?_) (fun c_8 => ?_)
              · skip
                rw [nI_leI (by omega) (by omega)] at c_8
                have hww : w2 = lsp (P j) wet := by rw [hw2, show i = ql (P j) by omega, lsp, lse, c_6]; rfl
                subst hww
                refine g_iload C dL_law_965 1 rfl ?_
                refine g_aload_n C dL_law_967 rfl 10 rfl ?_
                refine g_iload C dL_law_968 2 rfl ?_
                refine g_bipush (v := 6) C dL_law_970 (by decide) ?_
                refine q_piece (w := 6) (v := j) X J (by omega) (by omega) rfl dL_law_972 (Nat.le_of_ble_eq_true rfl) (by omega) (by omega) ?_
                refine g_eqi (y := gz (lsp (P j) wet)) rfl ?_
                refine g_iconst (v := 1) C dL_law_975 (by decide) ?_
                refine tic_ne (v := lsp (P j) wet) C (fun h => gzn1.mp h) (fun h => gz1.mp (Classical.not_not.mp h)) dL_law_976 dL_law_979 dL_law_980 dL_law_983 ?_
                refine g_icmp_ne (tgt := 1006) C dL_law_984 (by decide) (fun c_9 => by exfalso; exact c_9 rfl) (fun c_9 => ?_)
                refine g_iload C dL_law_987 1 rfl ?_
                refine g_aload_n C dL_law_989 rfl 10 rfl ?_
                refine g_iload C dL_law_990 2 rfl ?_
                refine q_loose (v := j) X J (by omega) (by omega) dL_law_992 (Nat.le_of_ble_eq_true rfl) (by omega) (by omega) (fun fs_10 => ?_)
                refine tif_ne (v := !lsp (P j) wet) C (fun h => loose_h1 h) (fun h => loose_h2 h) dL_law_995 dL_law_998 dL_law_999 dL_law_1002 ?_
                refine g_icmp_ne (tgt := 1008) C dL_law_1003 (by decide) (fun c_11 => ?_) (fun c_11 => by exfalso; exact gz_nn _ c_11)
                refine g_iload C dL_law_1008 4 rfl ?_
                refine g_iload C dL_law_1010 1 rfl ?_
                refine tif_eq (v := lsp (P j) wet) C (fun h => gz0.mp h) (fun h => gzn.mp h) dL_law_1012 dL_law_1015 dL_law_1016 dL_law_1019 ?_
                refine g_iadd C dL_law_1020 ?_
                refine g_eqi (x := (nI lo) + (gz (lsp (P j) wet))) (y := nI (lo + (if lsp (P j) wet then 1 else 0))) (add_gz _ _) ?_
                refine g_istore (lv' := [(13, .int (nI (lo + (if lsp (P j) wet then 1 else 0)))), (17, .int (nI i)), (16, .int (gz (lsp (P j) wet))), (15, .int (nI j)), (14, .int (nI cv2)), (12, .int (nI (th + 1))), (11, .ref q11), (4, .int (nI np)), (3, .int v), (2, .int (nI t)), (1, .ref h), (0, .ref b)]) C dL_law_1021 (by decide) rfl ?_
                refine g_iinc (v := nI (j + 1)) (lv' := [(15, .int (nI (j + 1))), (13, .int (nI (lo + (if lsp (P j) wet then 1 else 0)))), (17, .int (nI i)), (16, .int (gz (lsp (P j) wet))), (14, .int (nI cv2)), (12, .int (nI (th + 1))), (11, .ref q11), (4, .int (nI np)), (3, .int v), (2, .int (nI t)), (1, .ref h), (0, .ref b)]) C dL_law_1023 3 rfl (by exact nI_add _ 1) (by decide) rfl ?_
                refine g_goto (tgt := 775) C dL_law_1026 (by decide) ?_
                refine g_sub [0, 4, 1, 5, 6, 7, 8, 9, 10, 11] (lv' := [(15, .int (nI (j + 1))), (14, .int (nI cv2)), (13, .int (nI (lo + (if lsp (P j) wet then 1 else 0)))), (12, .int (nI (th + 1))), (11, .ref q11), (4, .int (nI np)), (3, .int v), (2, .int (nI t)), (1, .ref h), (0, .ref b)]) rfl ?_
                refine g_more (k2 := k + 12 + 40 * (j + 1)) (n2 := n + 96 + 260 * (j + 1)) (by omega) (by omega) ?_
                have hend : ∀ c, c < 80 → tkI cover (pcl (P j)) j i c = tkB cover (j + 1) c := fun c hc => by rw [show i = ql (P j) by omega]; exact tk_end J.1 J.2.2.2.1 (show j < np by omega) c_6 hc
                exact ih (j + 1) _ cv2 _ _ F2 (by rw [hcv2]; exact cnt_congr hend) (by rw [hlo]; rfl) (by rw [hth]; exact (cnt_t (by rw [c_6]; rfl)).symm) (fun x y hx hy => by rw [hF2 x y hx hy, hend _ (by omega)]) (by omega) (by omega)
              · skip
                rw [nI_leI (by omega) (by omega)] at c_8
                obtain ⟨xx, yy, hxx, hyy, hp9, hex, hey⟩ := cell_xy (J.2.2.1 j (by omega)) (J.2.1 j (by omega)) (show i < ql (P j) by omega)
                obtain ⟨hown, hnew⟩ := tk_new J.1 J.2.1 J.2.2.2.1 (show j < np by omega) c_6 (show i < ql (P j) by omega)
                rw [hp9] at hown hnew
                refine g_aload_n C dL_law_837 rfl 10 rfl ?_
                refine g_iload C dL_law_838 2 rfl ?_
                refine g_iconst (v := 0) C dL_law_840 (by decide) ?_
                refine q_piece (w := 0) (v := j) X J (by omega) (by omega) rfl dL_law_841 (Nat.le_of_ble_eq_true rfl) (by omega) (by omega) ?_
                refine g_eqi (y := nI (qx (P j))) rfl ?_
                refine g_iload C dL_law_844 0 rfl ?_
                refine g_aload_n C dL_law_846 rfl 10 rfl ?_
                refine g_iload C dL_law_847 2 rfl ?_
                refine g_iconst (v := 3) C dL_law_849 (by decide) ?_
                refine q_piece (w := 3) (v := j) X J (by omega) (by omega) rfl dL_law_850 (Nat.le_of_ble_eq_true rfl) (by omega) (by omega) ?_
                refine g_eqi (y := gz (qc (P j))) rfl ?_
                refine g_imul C dL_law_853 ?_
                refine g_iadd C dL_law_854 ?_
                refine g_eqi (x := (nI (qx (P j))) + ((nI i) * (gz (qc (P j))))) (y := nI xx) (hex) ?_
                refine g_istore (lv' := [(18, .int (nI xx)), (17, .int (nI i)), (16, .int (gz w2)), (15, .int (nI j)), (14, .int (nI cv2)), (13, .int (nI lo)), (12, .int (nI (th + 1))), (11, .ref q11), (4, .int (nI np)), (3, .int v), (2, .int (nI t)), (1, .ref h), (0, .ref b)]) C dL_law_855 (by decide) rfl ?_
                refine g_aload_n C dL_law_857 rfl 11 rfl ?_
                refine g_iload C dL_law_858 3 rfl ?_
                refine g_iconst (v := 1) C dL_law_860 (by decide) ?_
                refine q_piece (w := 1) (v := j) X J (by omega) (by omega) rfl dL_law_861 (Nat.le_of_ble_eq_true rfl) (by omega) (by omega) ?_
                refine g_eqi (y := nI (qy (P j))) rfl ?_
                refine g_iload C dL_law_864 1 rfl ?_
                refine g_iconst (v := 1) C dL_law_866 (by decide) ?_
                refine g_aload_n C dL_law_867 rfl 11 rfl ?_
                refine g_iload C dL_law_868 3 rfl ?_
                refine g_iconst (v := 3) C dL_law_870 (by decide) ?_
                refine q_piece (w := 3) (v := j) X J (by omega) (by omega) rfl dL_law_871 (Nat.le_of_ble_eq_true rfl) (by omega) (by omega) ?_
                refine g_eqi (y := gz (qc (P j))) rfl ?_
                refine g_isub C dL_law_874 ?_
                refine g_imul C dL_law_875 ?_
                refine g_iadd C dL_law_876 ?_
                refine g_eqi (x := (nI (qy (P j))) + ((nI i) * (1 - (gz (qc (P j)))))) (y := nI yy) (hey) ?_
                refine g_istore (lv' := [(19, .int (nI yy)), (18, .int (nI xx)), (17, .int (nI i)), (16, .int (gz w2)), (15, .int (nI j)), (14, .int (nI cv2)), (13, .int (nI lo)), (12, .int (nI (th + 1))), (11, .ref q11), (4, .int (nI np)), (3, .int v), (2, .int (nI t)), (1, .ref h), (0, .ref b)]) C dL_law_877 (by decide) rfl ?_
                refine g_aload C dL_law_879 8 rfl ?_
                refine g_iload C dL_law_881 1 rfl ?_
                refine q_rowZ X (by omega) dL_law_883 ?_
                refine g_iload C dL_law_884 0 rfl ?_
                refine q_zald X (by omega) (by omega) dL_law_886 ?_
                refine g_eqi (x := F2 xx yy) (y := 0) (by rw [hF2 xx yy hxx hyy, hnew]; rfl) ?_
                refine g_if_ne (tgt := 923) C dL_law_887 (by decide) (fun c_12 => by exfalso; exact absurd c_12 (by decide)) (fun c_12 => ?_)
                refine g_aload_n C dL_law_890 rfl 12 rfl ?_
                refine g_iload C dL_law_891 1 rfl ?_
                refine g_iload C dL_law_893 0 rfl ?_
                refine g_iconst (v := 1) C dL_law_895 (by decide) ?_
                refine q_cell (w := 1) X J (by omega) (by omega) (by omega) rfl dL_law_896 (Nat.le_of_ble_eq_true rfl) (by omega) (by omega) ?_
                refine g_eqi (y := cover (10 * yy + xx)) rfl ?_
                refine g_eqi (x := cover (10 * yy + xx)) (y := nI j) (hown) ?_
                refine g_iload C dL_law_899 4 rfl ?_
                refine g_icmp_ne (tgt := 923) C dL_law_901 (by decide) (fun c_13 => by exfalso; rw [nI_eq (by omega) (by omega)] at c_13; omega) (fun c_13 => ?_)
                rw [nI_eq (by omega) (by omega)] at c_13
                refine g_aload_n C dL_law_904 rfl 12 rfl ?_
                refine g_iload C dL_law_905 1 rfl ?_
                refine g_iload C dL_law_907 0 rfl ?_
                refine g_iconst (v := 2) C dL_law_909 (by decide) ?_
                refine q_cell (w := 2) X J (by omega) (by omega) (by omega) rfl dL_law_910 (Nat.le_of_ble_eq_true rfl) (by omega) (by omega) ?_
                refine g_eqi (y := colv np P cover (10 * yy + xx)) rfl ?_
                refine g_eqi (x := colv np P cover (10 * yy + xx)) (y := shw (P j)) (colv_k J.1 (by omega) hown) ?_
                refine g_aload_n C dL_law_913 rfl 12 rfl ?_
                refine g_iload C dL_law_914 4 rfl ?_
                refine g_iconst (v := 4) C dL_law_916 (by decide) ?_
                refine q_piece (w := 4) (v := j) X J (by omega) (by omega) rfl dL_law_917 (Nat.le_of_ble_eq_true rfl) (by omega) (by omega) ?_
                refine g_eqi (y := shw (P j)) rfl ?_
                refine g_icmp_eq (tgt := 925) C dL_law_920 (by decide) (fun c_14 => ?_) (fun c_14 => by exfalso; exact c_14 rfl)
                refine g_aload C dL_law_925 8 rfl ?_
                refine g_iload C dL_law_927 1 rfl ?_
                refine q_rowZ X (by omega) dL_law_929 ?_
                refine g_iload C dL_law_930 0 rfl ?_
                refine g_iconst (v := 1) C dL_law_932 (by decide) ?_
                refine q_zast X (by omega) (by omega) dL_law_933 ?_
                refine g_iload C dL_law_934 3 rfl ?_
                refine g_aload_n C dL_law_936 rfl 12 rfl ?_
                refine g_iload C dL_law_937 1 rfl ?_
                refine g_iload C dL_law_939 0 rfl ?_
                refine g_iconst (v := 0) C dL_law_941 (by decide) ?_
                refine q_cell (w := 0) X J (by omega) (by omega) (by omega) rfl dL_law_942 (Nat.le_of_ble_eq_true rfl) (by omega) (by omega) ?_
                refine g_eqi (y := wet (10 * yy + xx)) rfl ?_
                refine tif_le (v := decide (1 ≤ wet (10 * yy + xx))) C (fun h => decide_eq_false (fun h9 => i_1le.mp h9 h)) (fun h => decide_eq_true (i_1le.mpr h)) dL_law_945 dL_law_948 dL_law_949 dL_law_952 ?_
                refine g_iand C dL_law_953 ?_
                refine g_eqi (x := (gz w2) &&& (gz (decide (1 ≤ wet (10 * yy + xx))))) (y := gz (w2 && (decide (1 ≤ wet (10 * yy + xx))))) (gz_and _ _) ?_
                refine g_istore (lv' := [(16, .int (gz (w2 && (decide (1 ≤ wet (10 * yy + xx)))))), (19, .int (nI yy)), (18, .int (nI xx)), (17, .int (nI i)), (15, .int (nI j)), (14, .int (nI cv2)), (13, .int (nI lo)), (12, .int (nI (th + 1))), (11, .ref q11), (4, .int (nI np)), (3, .int v), (2, .int (nI t)), (1, .ref h), (0, .ref b)]) C dL_law_954 (by decide) rfl ?_
                refine g_iinc (v := nI (cv2 + 1)) (lv' := [(14, .int (nI (cv2 + 1))), (16, .int (gz (w2 && (decide (1 ≤ wet (10 * yy + xx)))))), (19, .int (nI yy)), (18, .int (nI xx)), (17, .int (nI i)), (15, .int (nI j)), (13, .int (nI lo)), (12, .int (nI (th + 1))), (11, .ref q11), (4, .int (nI np)), (3, .int v), (2, .int (nI t)), (1, .ref h), (0, .ref b)]) C dL_law_956 5 rfl (by exact nI_add _ 1) (by decide) rfl ?_
                refine g_iinc (v := nI (i + 1)) (lv' := [(17, .int (nI (i + 1))), (14, .int (nI (cv2 + 1))), (16, .int (gz (w2 && (decide (1 ≤ wet (10 * yy + xx)))))), (19, .int (nI yy)), (18, .int (nI xx)), (15, .int (nI j)), (13, .int (nI lo)), (12, .int (nI (th + 1))), (11, .ref q11), (4, .int (nI np)), (3, .int v), (2, .int (nI t)), (1, .ref h), (0, .ref b)]) C dL_law_959 4 rfl (by exact nI_add _ 1) (by decide) rfl ?_
                refine g_goto (tgt := 825) C dL_law_962 (by decide) ?_
                refine g_sub [0, 2, 5, 1, 6, 7, 8, 9, 10, 11, 12, 13] (lv' := [(17, .int (nI (i + 1))), (16, .int (gz (w2 && (decide (1 ≤ wet (10 * yy + xx)))))), (15, .int (nI j)), (14, .int (nI (cv2 + 1))), (13, .int (nI lo)), (12, .int (nI (th + 1))), (11, .ref q11), (4, .int (nI np)), (3, .int v), (2, .int (nI t)), (1, .ref h), (0, .ref b)]) rfl ?_
                refine g_more (k2 := k + 12 + 40 * j + 1 + 12 * (i + 1)) (n2 := n + 96 + 260 * j + 6 + 72 * (i + 1)) (by omega) (by omega) ?_
                exact ih2 (i + 1) (cv2 + 1) _ _ (by rw [hcv2]; exact (tk_cnt (by rw [hp9]; omega) (by rw [hp9]; exact hnew)).symm) (by show _ = (allB _ i && decide (1 ≤ wet (pcl (P j) i))); rw [← hw2, hp9]) (tkF_step hxx hp9 hF2) (by omega) (by omega)
          refine g_sub [0, 1, 3, 4, 5, 2, 6, 7, 8, 9, 10, 11] (lv' := [(17, .int 0), (16, .int 1), (15, .int (nI j)), (14, .int (nI cv)), (13, .int (nI lo)), (12, .int (nI (th + 1))), (11, .ref q11), (4, .int (nI np)), (3, .int v), (2, .int (nI t)), (1, .ref h), (0, .ref b)]) rfl ?_
          refine g_more (k2 := k + 12 + 40 * j + 1 + 12 * 0) (n2 := n + 96 + 260 * j + 6 + 72 * 0) (by omega) (by omega) ?_
          exact lp825_7 (ql (P j) + 1) 0 cv true F hcv rfl hF (Nat.zero_le _) (by omega)
        · skip
          replace c_6 := gz1.mp c_6
          refine g_aload_n C dL_law_794 rfl 8 rfl ?_
          refine g_iload C dL_law_795 0 rfl ?_
          refine g_bipush (v := 6) C dL_law_797 (by decide) ?_
          refine q_piece (w := 6) (v := j) X J (by omega) (by omega) rfl dL_law_799 (Nat.le_of_ble_eq_true rfl) (by omega) (by omega) ?_
          refine g_eqi (y := gz (lsp (P j) wet)) rfl ?_
          refine g_eqi (x := gz (lsp (P j) wet)) (y := 0) (by rw [lsp_out c_6]; rfl) ?_
          refine g_if_ne (tgt := 814) C dL_law_802 (by decide) (fun c_15 => by exfalso; exact absurd c_15 (by decide)) (fun c_15 => ?_)
          refine g_aload_n C dL_law_805 rfl 8 rfl ?_
          refine g_iload C dL_law_806 0 rfl ?_
          refine q_loose (v := j) X J (by omega) (by omega) dL_law_808 (Nat.le_of_ble_eq_true rfl) (by omega) (by omega) (fun fs_16 => ?_)
          refine g_eqi (x := fstI (fun i => !lsp (P j) (wetN wet cover sun hr i)) 201 0) (y := 0) (loose_0 (lsp_out c_6)) ?_
          refine g_if_eq (tgt := 1023) C dL_law_811 (by decide) (fun c_17 => ?_) (fun c_17 => by exfalso; exact absurd c_17 (by decide))
          refine g_iinc (v := nI (j + 1)) (lv' := [(15, .int (nI (j + 1))), (14, .int (nI cv)), (13, .int (nI lo)), (12, .int (nI th)), (11, .ref q11), (4, .int (nI np)), (3, .int v), (2, .int (nI t)), (1, .ref h), (0, .ref b)]) C dL_law_1023 0 rfl (by exact nI_add _ 1) (by decide) rfl ?_
          refine g_goto (tgt := 775) C dL_law_1026 (by decide) ?_
          refine g_sub [0, 1, 2, 3, 4, 5, 6, 7, 8, 9] (lv' := [(15, .int (nI (j + 1))), (14, .int (nI cv)), (13, .int (nI lo)), (12, .int (nI th)), (11, .ref q11), (4, .int (nI np)), (3, .int v), (2, .int (nI t)), (1, .ref h), (0, .ref b)]) rfl ?_
          refine g_more (k2 := k + 12 + 40 * (j + 1)) (n2 := n + 96 + 260 * (j + 1)) (by omega) (by omega) ?_
          exact ih (j + 1) _ cv lo th F (by rw [hcv]; exact cnt_congr (fun c hc => (tk_out J.1 J.2.2.2.1 (show j < np by omega) c_6 hc).symm)) (by rw [hlo]; exact (cnt_f (lsp_out c_6)).symm) (by rw [hth]; exact (cnt_f (by rw [c_6]; rfl)).symm) (fun x y hx hy => by rw [hF x y hx hy, tk_out J.1 J.2.2.2.1 (show j < np by omega) c_6 (by omega)]) (by omega) (by omega)
  refine g_sub [0, 1, 2, 3, 4, 5, 6, 7, 8, 9] (lv' := [(15, .int 0), (14, .int 0), (13, .int 0), (12, .int 0), (11, .ref q11), (4, .int (nI np)), (3, .int v), (2, .int (nI t)), (1, .ref h), (0, .ref b)]) rfl ?_
  refine g_more (k2 := k + 12 + 40 * 0) (n2 := n + 96 + 260 * 0) (by omega) (by omega) ?_
  exact lp775_1 (np + 1) 0 fs 0 0 0 _ (cnt_no (fun c hc => tk_0 J.1 J.2.2.2.1.1 hc)).symm rfl rfl (fun x y hx hy => by rw [tk_0 J.1 J.2.2.2.1.1 (show 10 * y + x < 80 by omega)]; rfl) (by omega) (by omega)
