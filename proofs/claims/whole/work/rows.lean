section
-- ===== PART A: goes FIRST, ahead of the names: the tables' words, and 'selects' of the private methods out of them =====
/-- a private method of a class that the tables say can be made, by its rows of tables_1 -/
def lw_okq (q : MethodName × Nat) : Prop := (q.1.cls ≠ "java/lang/invoke/MethodHandle" ∧ q.1.cls ≠ "java/lang/invoke/VarHandle") ∧ Cond.instantiable q.1.cls q.2 ∈ tables_1 ∧ Cond.privateMethod q.1 ∈ tables_1 ∧ Cond.instanceMethod q.1 ∈ tables_1
theorem lw_p0 : lw_okq (⟨"WetMosaic", "dryOneHour", "([II)V"⟩, 9) := ⟨⟨by decide +kernel, by decide +kernel⟩, List.mem_of_getElem? (i := 14) (by decide +kernel), List.mem_of_getElem? (i := 63) (by decide +kernel), List.mem_of_getElem? (i := 64) (by decide +kernel)⟩
theorem lw_p1 : lw_okq (⟨"WetMosaic", "countFact", "(I)I"⟩, 9) := ⟨⟨by decide +kernel, by decide +kernel⟩, List.mem_of_getElem? (i := 14) (by decide +kernel), List.mem_of_getElem? (i := 93) (by decide +kernel), List.mem_of_getElem? (i := 94) (by decide +kernel)⟩
theorem lw_p2 : lw_okq (⟨"WetMosaic", "piecesIn", "()I"⟩, 9) := ⟨⟨by decide +kernel, by decide +kernel⟩, List.mem_of_getElem? (i := 14) (by decide +kernel), List.mem_of_getElem? (i := 97) (by decide +kernel), List.mem_of_getElem? (i := 98) (by decide +kernel)⟩
theorem lw_p3 : lw_okq (⟨"WetMosaic", "find", "(I)LWetMosaic$Piece;"⟩, 9) := ⟨⟨by decide +kernel, by decide +kernel⟩, List.mem_of_getElem? (i := 14) (by decide +kernel), List.mem_of_getElem? (i := 101) (by decide +kernel), List.mem_of_getElem? (i := 102) (by decide +kernel)⟩
theorem lw_p4 : lw_okq (⟨"WetMosaic", "loosePieces", "()I"⟩, 9) := ⟨⟨by decide +kernel, by decide +kernel⟩, List.mem_of_getElem? (i := 14) (by decide +kernel), List.mem_of_getElem? (i := 105) (by decide +kernel), List.mem_of_getElem? (i := 106) (by decide +kernel)⟩
theorem lw_p5 : lw_okq (⟨"WetMosaic", "gaps", "()I"⟩, 9) := ⟨⟨by decide +kernel, by decide +kernel⟩, List.mem_of_getElem? (i := 14) (by decide +kernel), List.mem_of_getElem? (i := 119) (by decide +kernel), List.mem_of_getElem? (i := 120) (by decide +kernel)⟩
theorem lw_p6 : lw_okq (⟨"WetMosaic", "clearMarks", "()V"⟩, 9) := ⟨⟨by decide +kernel, by decide +kernel⟩, List.mem_of_getElem? (i := 14) (by decide +kernel), List.mem_of_getElem? (i := 123) (by decide +kernel), List.mem_of_getElem? (i := 124) (by decide +kernel)⟩
theorem lw_p7 : lw_okq (⟨"WetMosaic", "markGap", "(II)I"⟩, 9) := ⟨⟨by decide +kernel, by decide +kernel⟩, List.mem_of_getElem? (i := 14) (by decide +kernel), List.mem_of_getElem? (i := 127) (by decide +kernel), List.mem_of_getElem? (i := 128) (by decide +kernel)⟩
theorem lw_p8 : lw_okq (⟨"WetMosaic", "reach", "(III)I"⟩, 9) := ⟨⟨by decide +kernel, by decide +kernel⟩, List.mem_of_getElem? (i := 14) (by decide +kernel), List.mem_of_getElem? (i := 131) (by decide +kernel), List.mem_of_getElem? (i := 132) (by decide +kernel)⟩
theorem lw_p9 : lw_okq (⟨"WetMosaic", "cellFact", "(II)I"⟩, 9) := ⟨⟨by decide +kernel, by decide +kernel⟩, List.mem_of_getElem? (i := 14) (by decide +kernel), List.mem_of_getElem? (i := 139) (by decide +kernel), List.mem_of_getElem? (i := 140) (by decide +kernel)⟩
theorem lw_p10 : lw_okq (⟨"WetMosaic", "colourAt", "(I)I"⟩, 9) := ⟨⟨by decide +kernel, by decide +kernel⟩, List.mem_of_getElem? (i := 14) (by decide +kernel), List.mem_of_getElem? (i := 143) (by decide +kernel), List.mem_of_getElem? (i := 144) (by decide +kernel)⟩
theorem lw_p11 : lw_okq (⟨"WetMosaic", "pieceFact", "(LWetMosaic$Piece;I)I"⟩, 9) := ⟨⟨by decide +kernel, by decide +kernel⟩, List.mem_of_getElem? (i := 14) (by decide +kernel), List.mem_of_getElem? (i := 151) (by decide +kernel), List.mem_of_getElem? (i := 152) (by decide +kernel)⟩
theorem lw_p12 : lw_okq (⟨"java/lang/Throwable", "fillInStackTrace", "(I)Ljava/lang/Throwable;"⟩, 6) := ⟨⟨by decide +kernel, by decide +kernel⟩, List.mem_of_getElem? (i := 209) (by decide +kernel), List.mem_of_getElem? (i := 207) (by decide +kernel), List.mem_of_getElem? (i := 208) (by decide +kernel)⟩
theorem lw_p13 : lw_okq (⟨"WetMosaic", "hasRoom", "(IIIZI)Z"⟩, 9) := ⟨⟨by decide +kernel, by decide +kernel⟩, List.mem_of_getElem? (i := 14) (by decide +kernel), List.mem_of_getElem? (i := 276) (by decide +kernel), List.mem_of_getElem? (i := 277) (by decide +kernel)⟩
theorem lw_p14 : lw_okq (⟨"WetMosaic", "isFree", "(II)Z"⟩, 9) := ⟨⟨by decide +kernel, by decide +kernel⟩, List.mem_of_getElem? (i := 14) (by decide +kernel), List.mem_of_getElem? (i := 280) (by decide +kernel), List.mem_of_getElem? (i := 281) (by decide +kernel)⟩
theorem lw_p15 : lw_okq (⟨"WetMosaic", "setCover", "(LWetMosaic$Piece;I)V"⟩, 9) := ⟨⟨by decide +kernel, by decide +kernel⟩, List.mem_of_getElem? (i := 14) (by decide +kernel), List.mem_of_getElem? (i := 335) (by decide +kernel), List.mem_of_getElem? (i := 336) (by decide +kernel)⟩
def lw_privs_1 : List (MethodName × Nat) := [(⟨"WetMosaic", "dryOneHour", "([II)V"⟩, 9), (⟨"WetMosaic", "countFact", "(I)I"⟩, 9), (⟨"WetMosaic", "piecesIn", "()I"⟩, 9), (⟨"WetMosaic", "find", "(I)LWetMosaic$Piece;"⟩, 9), (⟨"WetMosaic", "loosePieces", "()I"⟩, 9), (⟨"WetMosaic", "gaps", "()I"⟩, 9), (⟨"WetMosaic", "clearMarks", "()V"⟩, 9), (⟨"WetMosaic", "markGap", "(II)I"⟩, 9), (⟨"WetMosaic", "reach", "(III)I"⟩, 9), (⟨"WetMosaic", "cellFact", "(II)I"⟩, 9), (⟨"WetMosaic", "colourAt", "(I)I"⟩, 9), (⟨"WetMosaic", "pieceFact", "(LWetMosaic$Piece;I)I"⟩, 9), (⟨"java/lang/Throwable", "fillInStackTrace", "(I)Ljava/lang/Throwable;"⟩, 6), (⟨"WetMosaic", "hasRoom", "(IIIZI)Z"⟩, 9), (⟨"WetMosaic", "isFree", "(II)Z"⟩, 9), (⟨"WetMosaic", "setCover", "(LWetMosaic$Piece;I)V"⟩, 9)]
theorem lw_r1 : ∀ q ∈ lw_privs_1, lw_okq q := List.forall_mem_cons.mpr ⟨lw_p0, List.forall_mem_cons.mpr ⟨lw_p1, List.forall_mem_cons.mpr ⟨lw_p2, List.forall_mem_cons.mpr ⟨lw_p3, List.forall_mem_cons.mpr ⟨lw_p4, List.forall_mem_cons.mpr ⟨lw_p5, List.forall_mem_cons.mpr ⟨lw_p6, List.forall_mem_cons.mpr ⟨lw_p7, List.forall_mem_cons.mpr ⟨lw_p8, List.forall_mem_cons.mpr ⟨lw_p9, List.forall_mem_cons.mpr ⟨lw_p10, List.forall_mem_cons.mpr ⟨lw_p11, List.forall_mem_cons.mpr ⟨lw_p12, List.forall_mem_cons.mpr ⟨lw_p13, List.forall_mem_cons.mpr ⟨lw_p14, List.forall_mem_cons.mpr ⟨lw_p15, fun _ h => absurd h List.not_mem_nil⟩⟩⟩⟩⟩⟩⟩⟩⟩⟩⟩⟩⟩⟩⟩⟩
theorem lw_p16 : lw_okq (⟨"WetMosaic", "removeMortar", "(LWetMosaic$Piece;)V"⟩, 9) := ⟨⟨by decide +kernel, by decide +kernel⟩, List.mem_of_getElem? (i := 14) (by decide +kernel), List.mem_of_getElem? (i := 364) (by decide +kernel), List.mem_of_getElem? (i := 365) (by decide +kernel)⟩
theorem lw_p17 : lw_okq (⟨"WetMosaic", "cellsOff", "(III)I"⟩, 9) := ⟨⟨by decide +kernel, by decide +kernel⟩, List.mem_of_getElem? (i := 14) (by decide +kernel), List.mem_of_getElem? (i := 403) (by decide +kernel), List.mem_of_getElem? (i := 404) (by decide +kernel)⟩
theorem lw_p18 : lw_okq (⟨"WetMosaic", "fits", "(IIIII)Z"⟩, 9) := ⟨⟨by decide +kernel, by decide +kernel⟩, List.mem_of_getElem? (i := 14) (by decide +kernel), List.mem_of_getElem? (i := 407) (by decide +kernel), List.mem_of_getElem? (i := 408) (by decide +kernel)⟩
theorem lw_p19 : lw_okq (⟨"WetMosaic", "cellsOffFlipped", "(LWetMosaic$Piece;III)I"⟩, 9) := ⟨⟨by decide +kernel, by decide +kernel⟩, List.mem_of_getElem? (i := 14) (by decide +kernel), List.mem_of_getElem? (i := 418) (by decide +kernel), List.mem_of_getElem? (i := 419) (by decide +kernel)⟩
theorem lw_p20 : lw_okq (⟨"WetMosaic", "piecesForMarks", "(Z)I"⟩, 9) := ⟨⟨by decide +kernel, by decide +kernel⟩, List.mem_of_getElem? (i := 14) (by decide +kernel), List.mem_of_getElem? (i := 429) (by decide +kernel), List.mem_of_getElem? (i := 430) (by decide +kernel)⟩
theorem lw_p21 : lw_okq (⟨"WetMosaicModel", "no", "(I)I"⟩, 14) := ⟨⟨by decide +kernel, by decide +kernel⟩, List.mem_of_getElem? (i := 455) (by decide +kernel), List.mem_of_getElem? (i := 542) (by decide +kernel), List.mem_of_getElem? (i := 543) (by decide +kernel)⟩
theorem lw_p22 : lw_okq (⟨"WetMosaicModel", "canLie", "(IIZI)Z"⟩, 14) := ⟨⟨by decide +kernel, by decide +kernel⟩, List.mem_of_getElem? (i := 455) (by decide +kernel), List.mem_of_getElem? (i := 557) (by decide +kernel), List.mem_of_getElem? (i := 558) (by decide +kernel)⟩
theorem lw_p23 : lw_okq (⟨"WetMosaicModel", "coverBy", "(II)V"⟩, 14) := ⟨⟨by decide +kernel, by decide +kernel⟩, List.mem_of_getElem? (i := 455) (by decide +kernel), List.mem_of_getElem? (i := 561) (by decide +kernel), List.mem_of_getElem? (i := 562) (by decide +kernel)⟩
theorem lw_p24 : lw_okq (⟨"WetMosaicModel", "isPiece", "(I)Z"⟩, 14) := ⟨⟨by decide +kernel, by decide +kernel⟩, List.mem_of_getElem? (i := 455) (by decide +kernel), List.mem_of_getElem? (i := 569) (by decide +kernel), List.mem_of_getElem? (i := 570) (by decide +kernel)⟩
theorem lw_p25 : lw_okq (⟨"WetMosaicModel", "swap", "(I)V"⟩, 14) := ⟨⟨by decide +kernel, by decide +kernel⟩, List.mem_of_getElem? (i := 455) (by decide +kernel), List.mem_of_getElem? (i := 577) (by decide +kernel), List.mem_of_getElem? (i := 578) (by decide +kernel)⟩
theorem lw_p26 : lw_okq (⟨"WetMosaicModel", "change", "(IZ)V"⟩, 14) := ⟨⟨by decide +kernel, by decide +kernel⟩, List.mem_of_getElem? (i := 455) (by decide +kernel), List.mem_of_getElem? (i := 581) (by decide +kernel), List.mem_of_getElem? (i := 582) (by decide +kernel)⟩
theorem lw_p27 : lw_okq (⟨"WetMosaicModel", "cellTold", "(II)I"⟩, 14) := ⟨⟨by decide +kernel, by decide +kernel⟩, List.mem_of_getElem? (i := 455) (by decide +kernel), List.mem_of_getElem? (i := 597) (by decide +kernel), List.mem_of_getElem? (i := 598) (by decide +kernel)⟩
theorem lw_p28 : lw_okq (⟨"WetMosaicModel", "shown", "(I)I"⟩, 14) := ⟨⟨by decide +kernel, by decide +kernel⟩, List.mem_of_getElem? (i := 455) (by decide +kernel), List.mem_of_getElem? (i := 601) (by decide +kernel), List.mem_of_getElem? (i := 602) (by decide +kernel)⟩
theorem lw_p29 : lw_okq (⟨"WetMosaicModel", "pieceTold", "(II)I"⟩, 14) := ⟨⟨by decide +kernel, by decide +kernel⟩, List.mem_of_getElem? (i := 455) (by decide +kernel), List.mem_of_getElem? (i := 609) (by decide +kernel), List.mem_of_getElem? (i := 610) (by decide +kernel)⟩
theorem lw_p30 : lw_okq (⟨"WetMosaicModel", "counted", "(I)I"⟩, 14) := ⟨⟨by decide +kernel, by decide +kernel⟩, List.mem_of_getElem? (i := 455) (by decide +kernel), List.mem_of_getElem? (i := 617) (by decide +kernel), List.mem_of_getElem? (i := 618) (by decide +kernel)⟩
theorem lw_p31 : lw_okq (⟨"WetMosaicModel", "looseOnes", "()I"⟩, 14) := ⟨⟨by decide +kernel, by decide +kernel⟩, List.mem_of_getElem? (i := 455) (by decide +kernel), List.mem_of_getElem? (i := 621) (by decide +kernel), List.mem_of_getElem? (i := 622) (by decide +kernel)⟩
def lw_privs_2 : List (MethodName × Nat) := [(⟨"WetMosaic", "removeMortar", "(LWetMosaic$Piece;)V"⟩, 9), (⟨"WetMosaic", "cellsOff", "(III)I"⟩, 9), (⟨"WetMosaic", "fits", "(IIIII)Z"⟩, 9), (⟨"WetMosaic", "cellsOffFlipped", "(LWetMosaic$Piece;III)I"⟩, 9), (⟨"WetMosaic", "piecesForMarks", "(Z)I"⟩, 9), (⟨"WetMosaicModel", "no", "(I)I"⟩, 14), (⟨"WetMosaicModel", "canLie", "(IIZI)Z"⟩, 14), (⟨"WetMosaicModel", "coverBy", "(II)V"⟩, 14), (⟨"WetMosaicModel", "isPiece", "(I)Z"⟩, 14), (⟨"WetMosaicModel", "swap", "(I)V"⟩, 14), (⟨"WetMosaicModel", "change", "(IZ)V"⟩, 14), (⟨"WetMosaicModel", "cellTold", "(II)I"⟩, 14), (⟨"WetMosaicModel", "shown", "(I)I"⟩, 14), (⟨"WetMosaicModel", "pieceTold", "(II)I"⟩, 14), (⟨"WetMosaicModel", "counted", "(I)I"⟩, 14), (⟨"WetMosaicModel", "looseOnes", "()I"⟩, 14)]
theorem lw_r2 : ∀ q ∈ lw_privs_2, lw_okq q := List.forall_mem_cons.mpr ⟨lw_p16, List.forall_mem_cons.mpr ⟨lw_p17, List.forall_mem_cons.mpr ⟨lw_p18, List.forall_mem_cons.mpr ⟨lw_p19, List.forall_mem_cons.mpr ⟨lw_p20, List.forall_mem_cons.mpr ⟨lw_p21, List.forall_mem_cons.mpr ⟨lw_p22, List.forall_mem_cons.mpr ⟨lw_p23, List.forall_mem_cons.mpr ⟨lw_p24, List.forall_mem_cons.mpr ⟨lw_p25, List.forall_mem_cons.mpr ⟨lw_p26, List.forall_mem_cons.mpr ⟨lw_p27, List.forall_mem_cons.mpr ⟨lw_p28, List.forall_mem_cons.mpr ⟨lw_p29, List.forall_mem_cons.mpr ⟨lw_p30, List.forall_mem_cons.mpr ⟨lw_p31, fun _ h => absurd h List.not_mem_nil⟩⟩⟩⟩⟩⟩⟩⟩⟩⟩⟩⟩⟩⟩⟩⟩
theorem lw_p32 : lw_okq (⟨"WetMosaicModel", "covered", "()I"⟩, 14) := ⟨⟨by decide +kernel, by decide +kernel⟩, List.mem_of_getElem? (i := 455) (by decide +kernel), List.mem_of_getElem? (i := 629) (by decide +kernel), List.mem_of_getElem? (i := 630) (by decide +kernel)⟩
theorem lw_p33 : lw_okq (⟨"WetMosaicModel", "gaps", "()I"⟩, 14) := ⟨⟨by decide +kernel, by decide +kernel⟩, List.mem_of_getElem? (i := 455) (by decide +kernel), List.mem_of_getElem? (i := 633) (by decide +kernel), List.mem_of_getElem? (i := 634) (by decide +kernel)⟩
theorem lw_p34 : lw_okq (⟨"WetMosaicModel", "clear", "()V"⟩, 14) := ⟨⟨by decide +kernel, by decide +kernel⟩, List.mem_of_getElem? (i := 455) (by decide +kernel), List.mem_of_getElem? (i := 637) (by decide +kernel), List.mem_of_getElem? (i := 638) (by decide +kernel)⟩
theorem lw_p35 : lw_okq (⟨"WetMosaicModel", "fill", "(I)I"⟩, 14) := ⟨⟨by decide +kernel, by decide +kernel⟩, List.mem_of_getElem? (i := 455) (by decide +kernel), List.mem_of_getElem? (i := 641) (by decide +kernel), List.mem_of_getElem? (i := 642) (by decide +kernel)⟩
theorem lw_p36 : lw_okq (⟨"WetMosaicModel", "offBy", "(III)I"⟩, 14) := ⟨⟨by decide +kernel, by decide +kernel⟩, List.mem_of_getElem? (i := 455) (by decide +kernel), List.mem_of_getElem? (i := 655) (by decide +kernel), List.mem_of_getElem? (i := 656) (by decide +kernel)⟩
theorem lw_p37 : lw_okq (⟨"WetMosaicModel", "fits", "(IIII)Z"⟩, 14) := ⟨⟨by decide +kernel, by decide +kernel⟩, List.mem_of_getElem? (i := 455) (by decide +kernel), List.mem_of_getElem? (i := 659) (by decide +kernel), List.mem_of_getElem? (i := 660) (by decide +kernel)⟩
def lw_privs_3 : List (MethodName × Nat) := [(⟨"WetMosaicModel", "covered", "()I"⟩, 14), (⟨"WetMosaicModel", "gaps", "()I"⟩, 14), (⟨"WetMosaicModel", "clear", "()V"⟩, 14), (⟨"WetMosaicModel", "fill", "(I)I"⟩, 14), (⟨"WetMosaicModel", "offBy", "(III)I"⟩, 14), (⟨"WetMosaicModel", "fits", "(IIII)Z"⟩, 14)]
theorem lw_r3 : ∀ q ∈ lw_privs_3, lw_okq q := List.forall_mem_cons.mpr ⟨lw_p32, List.forall_mem_cons.mpr ⟨lw_p33, List.forall_mem_cons.mpr ⟨lw_p34, List.forall_mem_cons.mpr ⟨lw_p35, List.forall_mem_cons.mpr ⟨lw_p36, List.forall_mem_cons.mpr ⟨lw_p37, fun _ h => absurd h List.not_mem_nil⟩⟩⟩⟩⟩⟩
def lw_privs : List (MethodName × Nat) := lw_privs_1 ++ (lw_privs_2 ++ (lw_privs_3))
def lw_tbl : List Cond := k2_sels lw_privs ++ tables_1
theorem lw_privs_ok : ∀ q ∈ lw_privs, lw_okq q := by
  show ∀ q ∈ lw_privs_1 ++ (lw_privs_2 ++ (lw_privs_3)), lw_okq q
  exact List.forall_mem_append.mpr ⟨lw_r1, List.forall_mem_append.mpr ⟨lw_r2, lw_r3⟩⟩
/-- the streams that the claim lets the run draw from -/
abbrev lw_cs : List Choice := [Jvm.Choice.named "NaN.bits"]
theorem lw_bits : nanBits ∈ lw_cs := by first | decide | exact List.mem_cons_self | simp [lw_cs, nanBits]
-- ===== end of PART A; then your names; then what follows =====
end
section
/-! ===== BEGIN words of one list among another's, by their places ===== -/
theorem goodIn_r {big : List Cond} (ws : List Cond) (ps : List Nat) (hp : ws = ps.filterMap (fun i => big[i]?)) (h : ws.all goodWord = true) : GoodIn big ws := by
  intro w hw
  have h1 := List.all_eq_true.mp h w hw
  rw [hp] at hw
  obtain ⟨i, -, hi⟩ := List.mem_filterMap.mp hw
  have hm : w ∈ big := by first | exact List.mem_of_getElem? hi | exact List.getElem?_mem hi
  exact ⟨hm, good_of_word h1⟩
theorem goodIn_app {big a b : List Cond} (ha : GoodIn big a) (hb : GoodIn big b) : GoodIn big (a ++ b) := fun w h => (List.mem_append.mp h).elim (ha w) (hb w)
theorem goodIn_ca {big a b : List Cond} {c : Cond} (ha : GoodIn big (c :: a)) (hb : GoodIn big b) : GoodIn big (c :: (a ++ b)) := fun w h => (List.mem_cons.mp h).elim (fun e => ha w (List.mem_cons.mpr (Or.inl e))) (fun h => (List.mem_append.mp h).elim (fun h => ha w (List.mem_cons.mpr (Or.inr h))) (hb w))
theorem goodIn_sub {big ws : List Cond} (hm : ∀ w ∈ ws, w ∈ big) (h : ws.all goodWord = true) : GoodIn big ws := fun w hw => ⟨hm w hw, good_of_word (List.all_eq_true.mp h w hw)⟩
/-! ===== END ===== -/

/-! ===== BEGIN exceptions that leave a method, and their catching by the caller (launches without stack traces) ===== -/
section VXA
/-! The laws vx_back, vx_callV, vx_callS, vx_callSW, vx_throw0, vx_throwS follow proofs of the library, with one case more: JvmDerived/Free/Laws.lean (Back.of_free), Shelf42/LK1.lean (callV, callS), Shelf/KitTraced.lean (throwNew0V, throwNewS). -/
/-- where a method has thrown q: the class by its name, the cell, what was written, the world -/
def vx_T (XC : String → State → State → Prop) (st : State) (q : Addr) (t : State) (mc ms : Nat) (free : Addr → Prop) : Prop :=
  ∃ (E : String) (ce : Cell) (L : List Loc), XC E st t ∧ t.heap[q]? = some ce ∧ ce.vm = .none ∧ st.vm.findClass E = some ce.cls ∧ st.WarmedH t.vm ∧ st.sameButNew ({ t with vm := st.vm } : State) L mc ms ∧ ∀ z ∈ L, free z.base
def vx_Q (Qc : Array Value → State → Outcome → State → Prop) (XC : String → State → State → Prop) (mc ms : Nat) (free : Addr → Prop) : Array Value → State → Outcome → State → Prop := fun a st o t =>
  (Qc a st o t ∧ ∃ L, FrameEnd st o t L mc ms ∧ ∀ q ∈ L, free q.base) ∨ ∃ q, o = .threw q ∧ vx_T XC st q t mc ms free
/-- a callee that returns or throws -/
def vx_Met (l : Launch) (y : MethodName) (ws : List Cond) (rm : Room) (Pc : Array Value → State → Prop) (Qc : Array Value → State → Outcome → State → Prop) (XC : String → State → State → Prop) (mc ms : Nat) (free : Addr → Prop) : Prop :=
  MetFree l y (headSpec ws rm) Pc (fun _ _ _ _ _ => True) (vx_Q Qc XC mc ms free)
def vx_Post (XC : String → State → State → Prop) (mc ms : Nat) (free : Addr → Prop) : Pt → Array Value → Addr → Pt → Prop := fun A a q B =>
  ∃ (g : JFrame) (mk : MethodId) (t : State) (L : List Loc) (E : String) (ce : Cell), B.U.heap = t.heap ∧ B.U.vm = t.vm ∧ XC E (A.U.calling g mk a) t ∧ t.heap[q]? = some ce ∧ ce.vm = .none ∧ A.U.vm.findClass E = some ce.cls ∧ B.locs = A.locs ++ L ∧ (∀ z ∈ L, free z.base) ∧ B.cells = A.cells + mc ∧ B.slots = A.slots + ms
def vx_Back (l : Launch) (R : Room) (p : Program) (e : Env) (below : List Frame) (s : State) (sargs : Array Value) (y : MethodName) (len W9 : Nat)
    (Pre : Pt → Array Value → Prop) (Post : Pt → Array Value → Option Value → Pt → Prop) (PostX : Pt → Array Value → Addr → Pt → Prop) : Prop :=
  ∀ (m : MethodId) (meth : Method) (c : Code) (A : Pt) (g : JFrame) (ig : Instr) (mk : MethodId) (a : Array Value),
    Stand p l e R s m sargs below meth c A.U A.locs A.cells A.slots → g.method = m → g.locals.size = c.maxLocals → decode c.code g.pc = .ok (ig, len) →
    2 * g.monitorRoom + (g.stack.map fun v => v.category).sum ≤ W9 → A.U.methodNamed? y = some mk → Pre A a →
    (∃ (v : Option Value) (B : Pt), Stand p l e R s m sargs below meth c B.U B.locs B.cells B.slots ∧ Post A a v B ∧
      Steps p.tables e below (doInvoke e (A.U.setTop g) [] mk a).1 (B.U.setTop { g with pc := g.pc + len, stack := v.toList ++ g.stack })) ∨
    (∃ (q : Addr) (B : Pt), Stand p l e R s m sargs below meth c B.U B.locs B.cells B.slots ∧ PostX A a q B ∧
      Steps p.tables e below (doInvoke e (A.U.setTop g) [] mk a).1 ((B.U.setTop g).pushFrame (.throwing q)))
section Payer
variable {l : Launch} {R : Room} {p : Program} {e : Env} {below : List Frame} {s : State} {sargs : Array Value} {y : MethodName} {len W9 : Nat}
theorem vx_back {ws : List Cond} {rm : Room} {Pc : Array Value → State → Prop} {Qc : Array Value → State → Outcome → State → Prop} {XC : String → State → State → Prop} {mc ms : Nat} {free : Addr → Prop} {bytes : ByteArray} {maxL : Nat} {ret : Option FieldType}
    (hM : vx_Met l y ws rm Pc Qc XC mc ms free) (hblind : FrameBlind Pc) (hrc : rm.cells = mc) (hrs : rm.slots = ms)
    (hframes : rm.frames + 1 ≤ R.frames) (hlocals : W9 + (maxL + 11) + rm.locals ≤ R.locals)
    (hws : ∀ w ∈ ws, ∀ a' U, s.WarmedH U.vm → w.before a' U = true) (hcode : Cond.code y bytes maxL ret ∈ ws) (hinit : ∀ a' U, s.WarmedH U.vm → (Cond.initialized y.cls).before a' U = true) :
    vx_Back l R p e below s sargs y len W9 (PreOf R mc ms Pc) (PostOf Qc mc ms free) (vx_Post XC mc ms free) := by
  intro m meth c A g ig mk a X hg hsize hdg hW hn hp
  have h1 : (headSpec ws rm).pre.before a A.U = true := atoms_intro fun w hw => hws w hw _ _ X.warmed
  have h2 : (Cond.code y bytes maxL ret).before a A.U = true := hws _ hcode _ _ X.warmed
  have h3 : (Cond.initialized y.cls).before a A.U = true := hinit _ _ X.warmed
  have h4 : A.cells + (headSpec ws rm).room.cells ≤ R.cells := by rw [show (headSpec ws rm).room.cells = mc from hrc]; exact hp.1
  have h5 : A.slots + (headSpec ws rm).room.slots ≤ R.slots := by rw [show (headSpec ws rm).room.slots = ms from hrs]; exact hp.2.1
  have hPc : Pc a (A.U.calling g mk a) := hblind _ _ _ _ hp.2.2
  obtain ⟨U, Ls, c0, s0⟩ := A
  dsimp only [Pt.U, Pt.locs, Pt.cells, Pt.slots] at h1 h2 h3 h4 h5 X hn hPc ⊢
  obtain ⟨methY, cY, hmY, hcY, -, hlY, -, -, -, -⟩ := Cond.code_spec hn h2
  obtain ⟨kY, hkY, -⟩ := className_of_methodNamed hn
  have hinitY : kY.init = .initialized := Cond.initialized_spec (findClass_of_methodNamed hn) hkY h3
  have h : At U g.method c below := by rw [hg]; exact X.here
  have hlocals9 : W9 + (maxL + 11) + (headSpec ws rm).room.locals ≤ R.locals := hlocals
  have happ : (headSpec ws rm).appliesLoose y e.platform (U.calling g mk a) = true :=
    Spec.appliesLoose_calling (g := g) h hdg hn hkY hinitY
      (X.room_calling (g := g) (R' := (headSpec ws rm).room) hsize hmY hcY hframes (by rw [hlY]; omega) h4 h5) h1
  obtain ⟨mid, hmid⟩ := h.above
  have hfr : (U.setTop g).frames = (.java g :: mid) ++ below := by rw [State.frames_setTop' g h.top, hmid]; rfl
  obtain ⟨o, s₂, hsteps, -, hend, hq⟩ := Steps.callFree hM p X.admits X.cas X.clock (acts := []) hfr happ hPc trivial
  have hq' : vx_Q Qc XC mc ms free a (U.calling g mk a) o s₂ := hq
  rw [State.frames_setTop' g h.top] at hend
  obtain ⟨g₀, hg0⟩ := Option.isSome_iff_exists.mp h.top
  obtain ⟨r, hr⟩ := State.topJava?_eq_some.mp hg0
  have hr' : (({ U with heap := s₂.heap, slotsUsed := s₂.slotsUsed } : State).setVm s₂.vm).frames = .java g₀ :: r := hr
  rcases hq' with ⟨hqc, L, hfe, hL⟩ | ⟨q, rfl, E, ce, L, hx, hce, hcv, hcl, hW₂, hsm, hL⟩
  · obtain ⟨⟨v, rfl⟩, hW₂, e2, q2, q3, q4, q5, q6⟩ := id hfe
    have e3 : s₂ = ({ (U.calling g mk a).setFrames s₂.frames with heap := s₂.heap, slotsUsed := s₂.slotsUsed } : State).setVm s₂.vm := by
      have : s₂ = ({ s₂ with vm := (U.calling g mk a).vm } : State).setVm s₂.vm := rfl
      rw [e2] at this
      exact this
    obtain ⟨c₂, i₂, len₂, hc₂, hd₂, hf₂⟩ := hend
    have hW' : U.WarmedH s₂.vm := hW₂
    have hcc : c₂ = c := by
      have h1 : s₂.code? g.method = U.code? g.method := by
        rw [State.code?_eq, State.code?_eq, hW'.alike.method?]
      exact Option.some.inj (hc₂.symm.trans (h1.trans h.code))
    subst hcc
    have hlen : len₂ = len := by rw [hdg] at hd₂; cases hd₂; rfl
    subst hlen
    have hs₂ : s₂ = (({ U with heap := s₂.heap, slotsUsed := s₂.slotsUsed } : State).setVm s₂.vm).setTop { g with pc := g.pc + len₂, stack := v.toList ++ g.stack } := by
      refine e3.trans ?_
      rw [hf₂, State.calling_eq h.top, State.setFrames_setFrames, State.setTop_of_frames _ hr', hr]
      rfl
    have hsame : U.sameButNew ({ U with heap := s₂.heap, slotsUsed := s₂.slotsUsed } : State) L mc ms := by
      refine ⟨?_, q2, q3, q4, q5, q6⟩
      obtain ⟨t, ht, -⟩ := State.frames_cons hr
      show ({ U with heap := s₂.heap, slotsUsed := s₂.slotsUsed } : State) = { U.setFrames U.frames with heap := s₂.heap, slotsUsed := s₂.slotsUsed }
      rw [State.setFrames_self ht]
    subst hg
    refine Or.inl ⟨v, ⟨(({ U with heap := s₂.heap, slotsUsed := s₂.slotsUsed } : State).setVm s₂.vm), Ls ++ L, c0 + mc, s0 + ms⟩,
      ⟨X.admits, X.cas, X.clock, X.frames, X.room, X.hears, X.method, X.code, (X.here.setHeapUsed s₂.heap s₂.slotsUsed).setVm hW'.alike, X.tail, State.WarmedH.trans X.warmed hW', X.limits, X.bytes, X.same.trans (hsame.setVm s.vm)⟩,
      ⟨g, mk, s₂, L, rfl, rfl, hqc, rfl, hL, rfl, rfl⟩, ?_⟩
    show Steps p.tables e below _ ((({ U with heap := s₂.heap, slotsUsed := s₂.slotsUsed } : State).setVm s₂.vm).setTop { g with pc := g.pc + len₂, stack := v.toList ++ g.stack })
    rw [← hs₂]
    exact hsteps
  · obtain ⟨e2, q2, q3, q4, q5, q6⟩ := id hsm
    have e3 : s₂ = ({ (U.calling g mk a).setFrames s₂.frames with heap := s₂.heap, slotsUsed := s₂.slotsUsed } : State).setVm s₂.vm := by
      have : s₂ = ({ s₂ with vm := (U.calling g mk a).vm } : State).setVm s₂.vm := rfl
      rw [e2] at this
      exact this
    have hf₂ : s₂.frames = .throwing q :: .java g :: U.frames.tail := hend
    have hW' : U.WarmedH s₂.vm := hW₂
    have hs₂ : s₂ = ((({ U with heap := s₂.heap, slotsUsed := s₂.slotsUsed } : State).setVm s₂.vm).setTop g).pushFrame (.throwing q) := by
      refine e3.trans ?_
      rw [hf₂, State.calling_eq h.top, State.setFrames_setFrames, State.pushFrame, State.frames_setTop _ hr', State.setTop_of_frames _ hr', State.setFrames_setFrames, hr]
      rfl
    have hsame : U.sameButNew ({ U with heap := s₂.heap, slotsUsed := s₂.slotsUsed } : State) L mc ms := by
      refine ⟨?_, q2, q3, q4, q5, q6⟩
      obtain ⟨t, ht, -⟩ := State.frames_cons hr
      show ({ U with heap := s₂.heap, slotsUsed := s₂.slotsUsed } : State) = { U.setFrames U.frames with heap := s₂.heap, slotsUsed := s₂.slotsUsed }
      rw [State.setFrames_self ht]
    subst hg
    refine Or.inr ⟨q, ⟨(({ U with heap := s₂.heap, slotsUsed := s₂.slotsUsed } : State).setVm s₂.vm), Ls ++ L, c0 + mc, s0 + ms⟩,
      ⟨X.admits, X.cas, X.clock, X.frames, X.room, X.hears, X.method, X.code, (X.here.setHeapUsed s₂.heap s₂.slotsUsed).setVm hW'.alike, X.tail, State.WarmedH.trans X.warmed hW', X.limits, X.bytes, X.same.trans (hsame.setVm s.vm)⟩,
      ⟨g, mk, s₂, L, E, ce, rfl, rfl, hx, hce, hcv, hcl, rfl, hL, rfl, rfl⟩, ?_⟩
    show Steps p.tables e below _ (((({ U with heap := s₂.heap, slotsUsed := s₂.slotsUsed } : State).setVm s₂.vm).setTop g).pushFrame (.throwing q))
    rw [← hs₂]
    exact hsteps
end Payer
section Calls
variable {p : Program} {l : Launch} {e : Env} {R : Room} {s : State} {m : MethodId} {args : Array Value} {below : List Frame} {meth : Method} {c : Code} {T : State} {locs : List Loc} {cells slots : Nat}
theorem vx_callV (X : Stand p l e R s m args below meth c T locs cells slots) (hexec : p.tables.exec = Jvm.exec) {own C : String} {index : Nat} {y : MethodName} {bytes : ByteArray} {maxL : Nat} {ret : Option FieldType}
    (hown : s.vm.findClass own = some m.cls) (hlink : (Cond.methodLink own index y).before args s = true) (hinst : (Cond.instanceMethod y).before args s = true) (hsel : (Cond.selects C y y).before args s = true)
    (hcode : (Cond.code y bytes maxL ret).before args s = true) (hy : y.cls ≠ "java/lang/invoke/MethodHandle" ∧ y.cls ≠ "java/lang/invoke/VarHandle")
    {W9 : Nat} {Pre : Pt → Array Value → Prop} {Post : Pt → Array Value → Option Value → Pt → Prop} {PostX : Pt → Array Value → Addr → Pt → Prop} (hK : vx_Back l R p e below s args y 3 W9 Pre Post PostX)
    {b : Addr} {cellB : Cell} (hcell : T.heap[b]? = some cellB) (hobj : cellB.vm.isStatics = false) (hcls : s.vm.findClass C = some cellB.cls)
    {g : JFrame} (hg : g.method = m) (hsize : g.locals.size = c.maxLocals) {argsL rest : List Value} (hlen : ∀ sig, parseMethodDescriptor y.desc = some sig → argsL.length = sig.parameters.length)
    (hstack : g.stack = argsL.reverse ++ .ref b :: rest) (hW : 2 * g.monitorRoom + (rest.map fun v => v.category).sum ≤ W9) (hdg : decode c.code g.pc = .ok (.invokevirtual index, 3))
    (hpre : ∀ vm₁, s.WarmedH vm₁ → Pre ⟨T.setVm vm₁, locs, cells, slots⟩ (Value.ref b :: argsL).toArray) :
    (∃ (v : Option Value) (vm₁ : Vm) (B : Pt), s.WarmedH vm₁ ∧ Stand p l e R s m args below meth c B.U B.locs B.cells B.slots ∧ Post ⟨T.setVm vm₁, locs, cells, slots⟩ (Value.ref b :: argsL).toArray v B ∧
      ∀ target, Steps p.tables e below (B.U.setTop { g with pc := g.pc + 3, stack := v.toList ++ rest }) target → Steps p.tables e below (T.setTop g) target) ∨
    (∃ (q : Addr) (vm₁ : Vm) (B : Pt), s.WarmedH vm₁ ∧ Stand p l e R s m args below meth c B.U B.locs B.cells B.slots ∧ PostX ⟨T.setVm vm₁, locs, cells, slots⟩ (Value.ref b :: argsL).toArray q B ∧
      Steps p.tables e below (T.setTop g) ((B.U.setTop { g with stack := rest }).pushFrame (.throwing q))) := by
  obtain ⟨mk, methM, hnamed, hmethM, hstM, habM⟩ := Cond.instanceMethod_spec hinst
  obtain ⟨methM', cM, hmethM', -, -, -, -, -, -, hsigM⟩ := Cond.code_spec hnamed hcode
  cases hmethM.symm.trans hmethM'
  obtain ⟨c2, r2, m2, q1, q2, q3, q4, kP, hkP, hkPi⟩ := Cond.selects_spec hsel
  cases hcls.symm.trans q1
  cases (State.methodFound?_of_named hnamed hy).symm.trans q2
  cases hnamed.symm.trans q3
  have hselP : selectMethod e.platform s.vm cellB.cls mk = .method mk := by rw [Launch.admits_selectMethod X.admits]; exact q4
  obtain ⟨vm₁, X₁, hstep₁⟩ := X.invokevirtual hexec hown hlink hnamed hmethM hstM hkP hkPi hy (a := b) (cell := cellB) hcell
    (fun z h => by rw [h] at hobj; cases hobj) hselP hmethM habM hkP hkPi (g := g) hg (argsL := argsL) (rest := rest) (hlen _ hsigM) hstack hdg
  rcases hK m meth c ⟨T.setVm vm₁, locs, cells, slots⟩ { g with stack := rest } (.invokevirtual index) mk (Value.ref b :: argsL).toArray X₁ hg hsize hdg hW (X₁.named hnamed) (hpre vm₁ X₁.warmed) with ⟨v, B, X', hpost, hsteps⟩ | ⟨q, B, X', hpost, hsteps⟩
  · exact Or.inl ⟨v, vm₁, B, X₁.warmed, X', hpost, fun target h => hstep₁ _ fun acts => by rw [doInvoke_state]; exact hsteps.trans h⟩
  · exact Or.inr ⟨q, vm₁, B, X₁.warmed, X', hpost, hstep₁ _ fun acts => by rw [doInvoke_state]; exact hsteps⟩
theorem vx_callS (X : Stand p l e R s m args below meth c T locs cells slots) (hexec : p.tables.exec = Jvm.exec) {own : String} {index : Nat} {y : MethodName} {bytes : ByteArray} {maxL : Nat} {ret : Option FieldType}
    (hown : s.vm.findClass own = some m.cls) (hlink : (Cond.methodLink own index y).before args s = true) (hstat : (Cond.static y).before args s = true) (hinit : (Cond.initialized y.cls).before args s = true)
    (hcode : (Cond.code y bytes maxL ret).before args s = true) (hy : y.cls ≠ "java/lang/invoke/MethodHandle" ∧ y.cls ≠ "java/lang/invoke/VarHandle")
    {W9 : Nat} {Pre : Pt → Array Value → Prop} {Post : Pt → Array Value → Option Value → Pt → Prop} {PostX : Pt → Array Value → Addr → Pt → Prop} (hK : vx_Back l R p e below s args y 3 W9 Pre Post PostX)
    {g : JFrame} (hg : g.method = m) (hsize : g.locals.size = c.maxLocals) {argsL rest : List Value} (hlen : ∀ sig, parseMethodDescriptor y.desc = some sig → argsL.length = sig.parameters.length)
    (hstack : g.stack = argsL.reverse ++ rest) (hW : 2 * g.monitorRoom + (rest.map fun v => v.category).sum ≤ W9) (hdg : decode c.code g.pc = .ok (.invokestatic index, 3))
    (hpre : ∀ vm₁, s.WarmedH vm₁ → Pre ⟨T.setVm vm₁, locs, cells, slots⟩ argsL.toArray) :
    (∃ (v : Option Value) (vm₁ : Vm) (B : Pt), s.WarmedH vm₁ ∧ Stand p l e R s m args below meth c B.U B.locs B.cells B.slots ∧ Post ⟨T.setVm vm₁, locs, cells, slots⟩ argsL.toArray v B ∧
      ∀ target, Steps p.tables e below (B.U.setTop { g with pc := g.pc + 3, stack := v.toList ++ rest }) target → Steps p.tables e below (T.setTop g) target) ∨
    (∃ (q : Addr) (vm₁ : Vm) (B : Pt), s.WarmedH vm₁ ∧ Stand p l e R s m args below meth c B.U B.locs B.cells B.slots ∧ PostX ⟨T.setVm vm₁, locs, cells, slots⟩ argsL.toArray q B ∧
      Steps p.tables e below (T.setTop g) ((B.U.setTop { g with stack := rest }).pushFrame (.throwing q))) := by
  obtain ⟨mk, hnamed⟩ := Cond.code_named hcode
  obtain ⟨methM, cM, hmethM, -, -, -, -, -, -, hsigM⟩ := Cond.code_spec hnamed hcode
  have hstatic : methM.isStatic = true := Cond.static_spec hnamed hmethM hstat
  obtain ⟨kP, hkP, -⟩ := className_of_methodNamed hnamed
  have hinitP : kP.init = .initialized := Cond.initialized_spec (findClass_of_methodNamed hnamed) hkP hinit
  obtain ⟨vm₁, X₁, hstep₁⟩ := X.invokestatic hexec hown hlink hnamed hmethM hstatic hkP hinitP hy (g := g) hg (argsL := argsL) (rest := rest) (hlen _ hsigM) hstack hdg
  rcases hK m meth c ⟨T.setVm vm₁, locs, cells, slots⟩ { g with stack := rest } (.invokestatic index) mk argsL.toArray X₁ hg hsize hdg hW (X₁.named hnamed) (hpre vm₁ X₁.warmed) with ⟨v, B, X', hpost, hsteps⟩ | ⟨q, B, X', hpost, hsteps⟩
  · exact Or.inl ⟨v, vm₁, B, X₁.warmed, X', hpost, fun target h => hstep₁ _ fun acts => by rw [doInvoke_state]; exact hsteps.trans h⟩
  · exact Or.inr ⟨q, vm₁, B, X₁.warmed, X', hpost, hstep₁ _ fun acts => by rw [doInvoke_state]; exact hsteps⟩
end Calls
theorem vx_cls {s : State} {T : State} {vm₁ : Vm} {E : String} {k : ClassId} (hW : s.WarmedH vm₁) (h : (T.setVm vm₁).vm.findClass E = some k) : s.vm.findClass E = some k := by
  have h1 : vm₁.findClass E = some k := h
  rw [hW.alike.findClass] at h1
  exact h1
/-- the method's frame g, with q thrown over it -/
def vx_W (p : Program) (l : Launch) (e : Env) (R : Room) (s : State) (m : MethodId) (args : Array Value) (below : List Frame) (meth : Method) (c : Code) (H : Heap) (locs : List Loc) (cells slots : Nat) (Q : State → Prop) (g : JFrame) (q : Addr) : Prop :=
  ∀ T : State, T.heap = H → Stand p l e R s m args below meth c T locs cells slots → ∃ t, Steps p.tables e below ((T.setTop g).pushFrame (.throwing q)) t ∧ Q t
def vx_Run (p : Program) (l : Launch) (e : Env) (R : Room) (s : State) (m : MethodId) (args : Array Value) (below : List Frame) (meth : Method) (c : Code) (H : Heap) (locs : List Loc) (cells slots mc ms : Nat) (g : JFrame) (rest : List Value) (Qa : State → Outcome → State → Prop) (XC : String → State → State → Prop) (free : Addr → Prop) : Prop :=
  ∀ T : State, T.heap = H → Stand p l e R s m args below meth c T locs cells slots →
    (∃ (v : Option Value) (st₀ t T' : State) (L : List Loc), st₀.heap = H ∧ Stand p l e R s m args below meth c T' (locs ++ L) (cells + mc) (slots + ms) ∧ (∀ q ∈ L, free q.base) ∧ T'.heap = t.heap ∧ T'.vm = t.vm ∧ Qa st₀ (.returned v) t ∧
      Goes p e below T g T' { g with pc := g.pc + 3, stack := v.toList ++ rest }) ∨
    (∃ (q : Addr) (st₀ t T' : State) (L : List Loc) (E : String) (ce : Cell), st₀.heap = H ∧ Stand p l e R s m args below meth c T' (locs ++ L) (cells + mc) (slots + ms) ∧ (∀ z ∈ L, free z.base) ∧ T'.heap = t.heap ∧ T'.vm = t.vm ∧ XC E st₀ t ∧ t.heap[q]? = some ce ∧ ce.vm = .none ∧ s.vm.findClass E = some ce.cls ∧
      Steps p.tables e below (T.setTop g) ((T'.setTop { g with stack := rest }).pushFrame (.throwing q)))
def vx_X {S : Type} (px : S → Prop) (B : String → S → State → Prop) (A : Nat → Prop) : String → State → State → Prop := fun E st t => ∃ u : S, px u ∧ B E u t ∧ va_F A st t
section Runs
variable {p : Program} {l : Launch} {e : Env} {R : Room} {s : State} {m : MethodId} {args : Array Value} {below : List Frame} {meth : Method} {c : Code} {H : Heap} {locs : List Loc} {cells slots : Nat}
variable {y : MethodName} {bytes cc : ByteArray} {maxL nL mc ms n index : Nat} {ret : Option FieldType} {ws : List Cond} {rm : Room} {Pc : Array Value → State → Prop} {Qc : Array Value → State → Outcome → State → Prop} {XC : String → State → State → Prop} {free : Addr → Prop} {Ts : List Cond} {own C : String} {b : Addr} {As rest : List Value} {g : JFrame}
theorem vx_callBack (cb : CallB R s args own index y bytes maxL ret ws rm mc ms n) (hM : vx_Met l y ws rm Pc Qc XC mc ms free) (hbl : FrameBlind Pc) : vx_Back l R p e below s args y 3 8 (PreOf R mc ms Pc) (PostOf Qc mc ms free) (vx_Post XC mc ms free) := by
  obtain ⟨hrc, hrs, hfr, hlo, hws, hcw, -, hini, -⟩ := cb
  exact vx_back (bytes := bytes) (maxL := maxL) (ret := ret) hM hbl hrc hrs hfr hlo hws hcw (fun a' U hW => word_at hW (Or.inl (by first | rfl | simp [Cond.onTables, Cond.keeps, Cond.steady])) hini)
theorem vx_runV (S : CallFix p m c cc nL s args Ts own) (hM : vx_Met l y ws rm Pc Qc XC mc ms free) (cw : CallW R s args own C index y bytes maxL ret ws rm mc ms n) (hp : PreV s H C b Pc As)
    (hg : g.method = m) (hn : As.length = n) (hsize : g.locals.size = nL) (hstack : g.stack = As.reverse ++ .ref b :: rest) (hW : 2 * g.monitorRoom + (rest.map fun v => v.category).sum ≤ 8) (hdg : decode cc g.pc = .ok (.invokevirtual index, 3)) (hf : cells + mc ≤ R.cells ∧ slots + ms ≤ R.slots) :
    vx_Run p l e R s m args below meth c H locs cells slots mc ms g rest (Qc (Value.ref b :: As).toArray) XC free := by
  have hK : vx_Back l R p e below s args y 3 8 (PreOf R mc ms Pc) (PostOf Qc mc ms free) (vx_Post XC mc ms free) := vx_callBack cw.1 hM hp.1
  obtain ⟨⟨-, -, -, -, -, -, hcode, -, hy, hlen, hl⟩, hin, hse⟩ := cw
  obtain ⟨hx, hb, hml, ho, -⟩ := S
  obtain ⟨-, ⟨cellB, hcB, hoB, hclB⟩, hPc⟩ := hp
  intro T hT X
  rcases vx_callV X hx (C := C) (bytes := bytes) (maxL := maxL) (ret := ret) ho hl hin hse hcode hy hK (by rw [hT]; exact hcB) hoB hclB hg (hsize.trans hml.symm) (argsL := As) (rest := rest) (fun sig h => hn.trans (hlen sig h)) hstack hW (by rw [hb]; exact hdg)
    (fun vm₁ hW₁ => ⟨hf.1, hf.2, hPc (T.setVm vm₁) hT hW₁⟩) with ⟨v, vm₁, ⟨U', l2, c2, s2⟩, hW₁, X', ⟨g', mk, t, L, e1, e2, hq, h1, hL, h2, h3⟩, st⟩ | ⟨q, vm₁, ⟨U', l2, c2, s2⟩, hW₁, X', ⟨g', mk, t, L, E, ce, e1, e2, hq, hce, hcv, hcl, h1, hL, h2, h3⟩, st⟩
  · dsimp only [Pt.U, Pt.locs, Pt.cells, Pt.slots] at X' e1 e2 h1 h2 h3 st
    subst h1; subst h2; subst h3
    exact Or.inl ⟨v, (T.setVm vm₁).calling g' mk (Value.ref b :: As).toArray, t, U', L, hT, X', hL, e1, e2, hq, st⟩
  · dsimp only [Pt.U, Pt.locs, Pt.cells, Pt.slots] at X' e1 e2 h1 h2 h3 st hcl
    subst h1; subst h2; subst h3
    exact Or.inr ⟨q, (T.setVm vm₁).calling g' mk (Value.ref b :: As).toArray, t, U', L, E, ce, hT, X', hL, e1, e2, hq, hce, hcv, vx_cls hW₁ hcl, st⟩
theorem vx_runS (S : CallFix p m c cc nL s args Ts own) (hM : vx_Met l y ws rm Pc Qc XC mc ms free) (cw : CallB R s args own index y bytes maxL ret ws rm mc ms n ∧ (Cond.static y).before args s = true) (hp : PreS s H Pc As)
    (hg : g.method = m) (hn : As.length = n) (hsize : g.locals.size = nL) (hstack : g.stack = As.reverse ++ rest) (hW : 2 * g.monitorRoom + (rest.map fun v => v.category).sum ≤ 8) (hdg : decode cc g.pc = .ok (.invokestatic index, 3)) (hf : cells + mc ≤ R.cells ∧ slots + ms ≤ R.slots) :
    vx_Run p l e R s m args below meth c H locs cells slots mc ms g rest (Qc As.toArray) XC free := by
  have hK : vx_Back l R p e below s args y 3 8 (PreOf R mc ms Pc) (PostOf Qc mc ms free) (vx_Post XC mc ms free) := vx_callBack cw.1 hM hp.1
  obtain ⟨⟨-, -, -, -, -, -, hcode, hini, hy, hlen, hl⟩, hstt⟩ := cw
  obtain ⟨hx, hb, hml, ho, -⟩ := S
  intro T hT X
  rcases vx_callS X hx (bytes := bytes) (maxL := maxL) (ret := ret) ho hl hstt hini hcode hy hK hg (hsize.trans hml.symm) (argsL := As) (rest := rest) (fun sig h => hn.trans (hlen sig h)) hstack hW (by rw [hb]; exact hdg)
    (fun vm₁ hW₁ => ⟨hf.1, hf.2, hp.2 (T.setVm vm₁) hT hW₁⟩) with ⟨v, vm₁, ⟨U', l2, c2, s2⟩, hW₁, X', ⟨g', mk, t, L, e1, e2, hq, h1, hL, h2, h3⟩, st⟩ | ⟨q, vm₁, ⟨U', l2, c2, s2⟩, hW₁, X', ⟨g', mk, t, L, E, ce, e1, e2, hq, hce, hcv, hcl, h1, hL, h2, h3⟩, st⟩
  · dsimp only [Pt.U, Pt.locs, Pt.cells, Pt.slots] at X' e1 e2 h1 h2 h3 st
    subst h1; subst h2; subst h3
    exact Or.inl ⟨v, (T.setVm vm₁).calling g' mk As.toArray, t, U', L, hT, X', hL, e1, e2, hq, st⟩
  · dsimp only [Pt.U, Pt.locs, Pt.cells, Pt.slots] at X' e1 e2 h1 h2 h3 st hcl
    subst h1; subst h2; subst h3
    exact Or.inr ⟨q, (T.setVm vm₁).calling g' mk As.toArray, t, U', L, E, ce, hT, X', hL, e1, e2, hq, hce, hcv, vx_cls hW₁ hcl, st⟩
end Runs
section Rows
variable {p : Program} {l : Launch} {e : Env} {R : Room} {s : State} {m : MethodId} {args : Array Value} {below : List Frame} {meth : Method} {c : Code} {H : Heap} {locs : List Loc} {cells slots : Nat} {Q : State → Prop}
variable {mc ms : Nat} {free : Addr → Prop} {A0 A1 : Nat → Prop} {H0 : Heap} {a : Array Value} {pc : Nat} {ls : Array Slot} {st0 rest : List Value}
theorem vx_keep {st₀ t T' : State} {L : List Loc} (h0 : st₀.heap = H) (e1 : T'.heap = t.heap) (hS : va_S A0 H0 H locs) (hA : ∀ q, q < H.size → A1 q → A0 q) (hf : ∀ q, free q → A0 q) (hL : ∀ q ∈ L, free q.base) (hF : va_F A1 st₀ t) :
    H.size ≤ T'.heap.size ∧ (∀ q : Nat, q < H.size → ¬ A1 q → T'.heap[q]? = H[q]?) ∧ va_S A0 H0 T'.heap (locs ++ L) := by
  obtain ⟨hz, hk⟩ := hF
  rw [h0] at hz hk
  exact ⟨by rw [e1]; exact hz, fun q h1 h2 => by rw [e1]; exact hk q h1 h2,
    ⟨Nat.le_trans hS.1 (by rw [e1]; exact hz), fun q h1 h2 => by rw [e1, hk q (Nat.lt_of_lt_of_le h1 hS.1) (fun z => h2 (hA q (Nat.lt_of_lt_of_le h1 hS.1) z))]; exact hS.2.1 q h1 h2, fun q hq => by
      rcases List.mem_append.mp hq with h | h
      · exact hS.2.2 q h
      · exact hf _ (hL q h)⟩⟩
theorem vx_calli {S SX : Type} {post : Int32 → S → Prop} {px : SX → Prop} {B : S → State → Prop} {BX : String → SX → State → Prop} {AX : Nat → Prop} (hr : vx_Run p l e R s m args below meth c H locs cells slots mc ms (F0 m pc ls st0) rest (va_Qi post B A1 a) (vx_X px BX AX) free) (hS : va_S A0 H0 H locs) (hA : ∀ q, q < H.size → A1 q → A0 q) (hf : ∀ q, free q → A0 q) (hAX : ∀ q, q < H.size → AX q → A0 q)
    (kx : ∀ (E : String) (ce : Cell) (q9 : Addr) (u : SX) (t : State) (H1 : Heap) (locs1 : List Loc), t.heap = H1 → s.vm.Alike t.vm → px u → BX E u t → H.size ≤ H1.size → (∀ q : Nat, q < H.size → ¬ AX q → H1[q]? = H[q]?) → va_S A0 H0 H1 locs1 → H1[q9]? = some ce → ce.vm = .none → s.vm.findClass E = some ce.cls → vx_W p l e R s m args below meth c H1 locs1 (cells + mc) (slots + ms) Q (F0 m pc ls rest) q9)
    (kk : ∀ (r : Int32) (u : S) (t : State) (H1 : Heap) (locs1 : List Loc), t.heap = H1 → s.vm.Alike t.vm → post r u → B u t → H.size ≤ H1.size → (∀ q : Nat, q < H.size → ¬ A1 q → H1[q]? = H[q]?) → va_S A0 H0 H1 locs1 → W p l e R s m args below meth c H1 locs1 (cells + mc) (slots + ms) Q (F0 m (pc + 3) ls (.int r :: rest))) : W p l e R s m args below meth c H locs cells slots Q (F0 m pc ls st0) := by
  intro T hT X
  rcases hr T hT X with ⟨v, st₀, t, T', L, h0, X', hL, e1, e2, ⟨⟨r, u, hv, hp, hb⟩, hF⟩, st⟩ | ⟨q, st₀, t, T', L, E, ce, h0, X', hL, e1, e2, ⟨u, hp, hb, hF⟩, hce, hcv, hcl, st⟩
  · cases hv
    obtain ⟨k1, k2, k3⟩ := vx_keep h0 e1 hS hA hf hL hF
    obtain ⟨t2, a1, b1⟩ := kk r u t T'.heap (locs ++ L) e1.symm (by rw [← e2]; exact X'.warmed.alike) hp hb k1 k2 k3 T' rfl X'
    exact ⟨t2, st t2 a1, b1⟩
  · obtain ⟨k1, k2, k3⟩ := vx_keep h0 e1 hS hAX hf hL hF
    obtain ⟨t2, a1, b1⟩ := kx E ce q u t T'.heap (locs ++ L) e1.symm (by rw [← e2]; exact X'.warmed.alike) hp hb k1 k2 k3 (by rw [e1]; exact hce) hcv hcl T' rfl X'
    exact ⟨t2, st.trans a1, b1⟩
theorem vx_calll {S SX : Type} {post : Int64 → S → Prop} {px : SX → Prop} {B : S → State → Prop} {BX : String → SX → State → Prop} {AX : Nat → Prop} (hr : vx_Run p l e R s m args below meth c H locs cells slots mc ms (F0 m pc ls st0) rest (va_Ql post B A1 a) (vx_X px BX AX) free) (hS : va_S A0 H0 H locs) (hA : ∀ q, q < H.size → A1 q → A0 q) (hf : ∀ q, free q → A0 q) (hAX : ∀ q, q < H.size → AX q → A0 q)
    (kx : ∀ (E : String) (ce : Cell) (q9 : Addr) (u : SX) (t : State) (H1 : Heap) (locs1 : List Loc), t.heap = H1 → s.vm.Alike t.vm → px u → BX E u t → H.size ≤ H1.size → (∀ q : Nat, q < H.size → ¬ AX q → H1[q]? = H[q]?) → va_S A0 H0 H1 locs1 → H1[q9]? = some ce → ce.vm = .none → s.vm.findClass E = some ce.cls → vx_W p l e R s m args below meth c H1 locs1 (cells + mc) (slots + ms) Q (F0 m pc ls rest) q9)
    (kk : ∀ (r : Int64) (u : S) (t : State) (H1 : Heap) (locs1 : List Loc), t.heap = H1 → s.vm.Alike t.vm → post r u → B u t → H.size ≤ H1.size → (∀ q : Nat, q < H.size → ¬ A1 q → H1[q]? = H[q]?) → va_S A0 H0 H1 locs1 → W p l e R s m args below meth c H1 locs1 (cells + mc) (slots + ms) Q (F0 m (pc + 3) ls (.long r :: rest))) : W p l e R s m args below meth c H locs cells slots Q (F0 m pc ls st0) := by
  intro T hT X
  rcases hr T hT X with ⟨v, st₀, t, T', L, h0, X', hL, e1, e2, ⟨⟨r, u, hv, hp, hb⟩, hF⟩, st⟩ | ⟨q, st₀, t, T', L, E, ce, h0, X', hL, e1, e2, ⟨u, hp, hb, hF⟩, hce, hcv, hcl, st⟩
  · cases hv
    obtain ⟨k1, k2, k3⟩ := vx_keep h0 e1 hS hA hf hL hF
    obtain ⟨t2, a1, b1⟩ := kk r u t T'.heap (locs ++ L) e1.symm (by rw [← e2]; exact X'.warmed.alike) hp hb k1 k2 k3 T' rfl X'
    exact ⟨t2, st t2 a1, b1⟩
  · obtain ⟨k1, k2, k3⟩ := vx_keep h0 e1 hS hAX hf hL hF
    obtain ⟨t2, a1, b1⟩ := kx E ce q u t T'.heap (locs ++ L) e1.symm (by rw [← e2]; exact X'.warmed.alike) hp hb k1 k2 k3 (by rw [e1]; exact hce) hcv hcl T' rfl X'
    exact ⟨t2, st.trans a1, b1⟩
theorem vx_callf {S SX : Type} {post : UInt32 → S → Prop} {px : SX → Prop} {B : S → State → Prop} {BX : String → SX → State → Prop} {AX : Nat → Prop} (hr : vx_Run p l e R s m args below meth c H locs cells slots mc ms (F0 m pc ls st0) rest (va_Qf post B A1 a) (vx_X px BX AX) free) (hS : va_S A0 H0 H locs) (hA : ∀ q, q < H.size → A1 q → A0 q) (hf : ∀ q, free q → A0 q) (hAX : ∀ q, q < H.size → AX q → A0 q)
    (kx : ∀ (E : String) (ce : Cell) (q9 : Addr) (u : SX) (t : State) (H1 : Heap) (locs1 : List Loc), t.heap = H1 → s.vm.Alike t.vm → px u → BX E u t → H.size ≤ H1.size → (∀ q : Nat, q < H.size → ¬ AX q → H1[q]? = H[q]?) → va_S A0 H0 H1 locs1 → H1[q9]? = some ce → ce.vm = .none → s.vm.findClass E = some ce.cls → vx_W p l e R s m args below meth c H1 locs1 (cells + mc) (slots + ms) Q (F0 m pc ls rest) q9)
    (kk : ∀ (r : UInt32) (u : S) (t : State) (H1 : Heap) (locs1 : List Loc), t.heap = H1 → s.vm.Alike t.vm → post r u → B u t → H.size ≤ H1.size → (∀ q : Nat, q < H.size → ¬ A1 q → H1[q]? = H[q]?) → va_S A0 H0 H1 locs1 → W p l e R s m args below meth c H1 locs1 (cells + mc) (slots + ms) Q (F0 m (pc + 3) ls (.float r :: rest))) : W p l e R s m args below meth c H locs cells slots Q (F0 m pc ls st0) := by
  intro T hT X
  rcases hr T hT X with ⟨v, st₀, t, T', L, h0, X', hL, e1, e2, ⟨⟨r, u, hv, hp, hb⟩, hF⟩, st⟩ | ⟨q, st₀, t, T', L, E, ce, h0, X', hL, e1, e2, ⟨u, hp, hb, hF⟩, hce, hcv, hcl, st⟩
  · cases hv
    obtain ⟨k1, k2, k3⟩ := vx_keep h0 e1 hS hA hf hL hF
    obtain ⟨t2, a1, b1⟩ := kk r u t T'.heap (locs ++ L) e1.symm (by rw [← e2]; exact X'.warmed.alike) hp hb k1 k2 k3 T' rfl X'
    exact ⟨t2, st t2 a1, b1⟩
  · obtain ⟨k1, k2, k3⟩ := vx_keep h0 e1 hS hAX hf hL hF
    obtain ⟨t2, a1, b1⟩ := kx E ce q u t T'.heap (locs ++ L) e1.symm (by rw [← e2]; exact X'.warmed.alike) hp hb k1 k2 k3 (by rw [e1]; exact hce) hcv hcl T' rfl X'
    exact ⟨t2, st.trans a1, b1⟩
theorem vx_calld {S SX : Type} {post : UInt64 → S → Prop} {px : SX → Prop} {B : S → State → Prop} {BX : String → SX → State → Prop} {AX : Nat → Prop} (hr : vx_Run p l e R s m args below meth c H locs cells slots mc ms (F0 m pc ls st0) rest (va_Qd post B A1 a) (vx_X px BX AX) free) (hS : va_S A0 H0 H locs) (hA : ∀ q, q < H.size → A1 q → A0 q) (hf : ∀ q, free q → A0 q) (hAX : ∀ q, q < H.size → AX q → A0 q)
    (kx : ∀ (E : String) (ce : Cell) (q9 : Addr) (u : SX) (t : State) (H1 : Heap) (locs1 : List Loc), t.heap = H1 → s.vm.Alike t.vm → px u → BX E u t → H.size ≤ H1.size → (∀ q : Nat, q < H.size → ¬ AX q → H1[q]? = H[q]?) → va_S A0 H0 H1 locs1 → H1[q9]? = some ce → ce.vm = .none → s.vm.findClass E = some ce.cls → vx_W p l e R s m args below meth c H1 locs1 (cells + mc) (slots + ms) Q (F0 m pc ls rest) q9)
    (kk : ∀ (r : UInt64) (u : S) (t : State) (H1 : Heap) (locs1 : List Loc), t.heap = H1 → s.vm.Alike t.vm → post r u → B u t → H.size ≤ H1.size → (∀ q : Nat, q < H.size → ¬ A1 q → H1[q]? = H[q]?) → va_S A0 H0 H1 locs1 → W p l e R s m args below meth c H1 locs1 (cells + mc) (slots + ms) Q (F0 m (pc + 3) ls (.double r :: rest))) : W p l e R s m args below meth c H locs cells slots Q (F0 m pc ls st0) := by
  intro T hT X
  rcases hr T hT X with ⟨v, st₀, t, T', L, h0, X', hL, e1, e2, ⟨⟨r, u, hv, hp, hb⟩, hF⟩, st⟩ | ⟨q, st₀, t, T', L, E, ce, h0, X', hL, e1, e2, ⟨u, hp, hb, hF⟩, hce, hcv, hcl, st⟩
  · cases hv
    obtain ⟨k1, k2, k3⟩ := vx_keep h0 e1 hS hA hf hL hF
    obtain ⟨t2, a1, b1⟩ := kk r u t T'.heap (locs ++ L) e1.symm (by rw [← e2]; exact X'.warmed.alike) hp hb k1 k2 k3 T' rfl X'
    exact ⟨t2, st t2 a1, b1⟩
  · obtain ⟨k1, k2, k3⟩ := vx_keep h0 e1 hS hAX hf hL hF
    obtain ⟨t2, a1, b1⟩ := kx E ce q u t T'.heap (locs ++ L) e1.symm (by rw [← e2]; exact X'.warmed.alike) hp hb k1 k2 k3 (by rw [e1]; exact hce) hcv hcl T' rfl X'
    exact ⟨t2, st.trans a1, b1⟩
theorem vx_callv {S SX : Type} {post : S → Prop} {px : SX → Prop} {B : S → State → Prop} {BX : String → SX → State → Prop} {AX : Nat → Prop} (hr : vx_Run p l e R s m args below meth c H locs cells slots mc ms (F0 m pc ls st0) rest (va_Qv post B A1 a) (vx_X px BX AX) free) (hS : va_S A0 H0 H locs) (hA : ∀ q, q < H.size → A1 q → A0 q) (hf : ∀ q, free q → A0 q) (hAX : ∀ q, q < H.size → AX q → A0 q)
    (kx : ∀ (E : String) (ce : Cell) (q9 : Addr) (u : SX) (t : State) (H1 : Heap) (locs1 : List Loc), t.heap = H1 → s.vm.Alike t.vm → px u → BX E u t → H.size ≤ H1.size → (∀ q : Nat, q < H.size → ¬ AX q → H1[q]? = H[q]?) → va_S A0 H0 H1 locs1 → H1[q9]? = some ce → ce.vm = .none → s.vm.findClass E = some ce.cls → vx_W p l e R s m args below meth c H1 locs1 (cells + mc) (slots + ms) Q (F0 m pc ls rest) q9)
    (kk : ∀ (u : S) (t : State) (H1 : Heap) (locs1 : List Loc), t.heap = H1 → s.vm.Alike t.vm → post u → B u t → H.size ≤ H1.size → (∀ q : Nat, q < H.size → ¬ A1 q → H1[q]? = H[q]?) → va_S A0 H0 H1 locs1 → W p l e R s m args below meth c H1 locs1 (cells + mc) (slots + ms) Q (F0 m (pc + 3) ls (rest))) : W p l e R s m args below meth c H locs cells slots Q (F0 m pc ls st0) := by
  intro T hT X
  rcases hr T hT X with ⟨v, st₀, t, T', L, h0, X', hL, e1, e2, ⟨⟨u, hv, hp, hb⟩, hF⟩, st⟩ | ⟨q, st₀, t, T', L, E, ce, h0, X', hL, e1, e2, ⟨u, hp, hb, hF⟩, hce, hcv, hcl, st⟩
  · cases hv
    obtain ⟨k1, k2, k3⟩ := vx_keep h0 e1 hS hA hf hL hF
    obtain ⟨t2, a1, b1⟩ := kk u t T'.heap (locs ++ L) e1.symm (by rw [← e2]; exact X'.warmed.alike) hp hb k1 k2 k3 T' rfl X'
    exact ⟨t2, st t2 a1, b1⟩
  · obtain ⟨k1, k2, k3⟩ := vx_keep h0 e1 hS hAX hf hL hF
    obtain ⟨t2, a1, b1⟩ := kx E ce q u t T'.heap (locs ++ L) e1.symm (by rw [← e2]; exact X'.warmed.alike) hp hb k1 k2 k3 (by rw [e1]; exact hce) hcv hcl T' rfl X'
    exact ⟨t2, st.trans a1, b1⟩
/-- caught by the row x of this method's table; the rows ahead don't take it -/
theorem vx_catch {own name : String} {E : String} {ce : Cell} {q : Addr} (hown : s.vm.findClass own = some m.cls) (pre : List ExceptionTableEntry) (x : ExceptionTableEntry) (suf : List ExceptionTableEntry) (hsplit : c.exceptionTable.toList = pre ++ x :: suf)
    (hpass : ∀ z ∈ pre, covers z pc = false ∨ (z.catchType ≠ 0 ∧ ∃ nm : String, (Cond.classLink own z.catchType nm).before args s = true ∧ va_Nc E nm s)) (hx : covers x pc = true) (h0 : x.catchType ≠ 0)
    (hlink : (Cond.classLink own x.catchType name).before args s = true) (hcast : (Cond.castable E name).before args s = true) (hcell : H[q]? = some ce) (hv : ce.vm = .none) (hcl : s.vm.findClass E = some ce.cls)
    (kk : W p l e R s m args below meth c H locs cells slots Q (F0 m x.handlerPc ls [.ref q])) : vx_W p l e R s m args below meth c H locs cells slots Q (F0 m pc ls rest) q := by
  intro T hT X
  have hpl : e.platform.magicAccessors = ({} : Platform).magicAccessors := by rw [X.admits.platform]
  obtain ⟨c3, c4, hc3, hc4, hasg⟩ := Cond.castable_spec hcast
  cases Option.some.inj (hc3.symm.trans hcl)
  obtain ⟨c5, hc5, hcl5⟩ := Cond.classLink_spec hown hlink e.platform hpl
  cases Option.some.inj (hc4.symm.trans hc5)
  obtain ⟨vm', X', st⟩ := X.thenCaughtThrough q (g := F0 m pc ls rest) rfl (Steps.refl _) (by rw [hT]; exact hcell) (by rw [hv]; rfl) (by obtain ⟨k9, h9, -⟩ := Vm.findClass_spec hcl; exact ⟨k9, h9⟩) pre x suf hsplit
    (fun z hz => by
      rcases hpass z hz with h | ⟨hz0, nm, hl1, hn1⟩
      · exact Or.inl h
      · obtain ⟨c6, hc6, hcl6⟩ := Cond.classLink_spec hown hl1 e.platform hpl
        obtain ⟨a8, b8, h1, h2, h3⟩ := hn1
        cases Option.some.inj (h1.symm.trans hcl)
        cases Option.some.inj (h2.symm.trans hc6)
        exact Or.inr ⟨hz0, _, hcl6, h3⟩) hx (Or.inr ⟨h0, c4, hcl5, hasg⟩)
  obtain ⟨t, a1, b1⟩ := kk (T.setVm vm') hT X'
  exact ⟨t, st.trans a1, b1⟩
end Rows
section Ends
variable {p : Program} {l : Launch} {e : Env} {R : Room} {s : State} {m : MethodId} {args : Array Value} {below : List Frame} {meth : Method} {c : Code} {H : Heap} {locs : List Loc} {cells slots : Nat} {Q : State → Prop}
variable {mc ms : Nat} {free : Addr → Prop} {A0 A1 : Nat → Prop} {H0 : Heap} {a : Array Value} {ls : Array Slot} {st0 rest : List Value}
variable {Qc : Array Value → State → Outcome → State → Prop} {XC : String → State → State → Prop}
/-- what a body that may throw owes at its end -/
def vx_MQ (below : List Frame) (Qc : Array Value → State → Outcome → State → Prop) (XC : String → State → State → Prop) (a : Array Value) (s : State) (mc ms : Nat) (free : Addr → Prop) : State → Prop := fun t =>
  ∃ o, t.status = .running ∧ Ended t below o ∧ vx_Q Qc XC mc ms free a s o t
theorem vx_ret {g : JFrame} {mc ms : Nat} (k : W p l e R s m args below meth c H locs cells slots (MQ below Qc args s mc ms free) g) : W p l e R s m args below meth c H locs cells slots (vx_MQ below Qc XC args s mc ms free) g := by
  intro T hT X
  obtain ⟨t, a1, o, b1, b2, b3, b4⟩ := k T hT X
  exact ⟨t, a1, o, b1, b2, Or.inl ⟨b3, b4⟩⟩
/-- not caught here: it goes on to the caller -/
theorem vx_widen {g : JFrame} {q : Addr} {k n : Nat} (h1 : cells ≤ k) (h2 : slots ≤ n) (kk : vx_W p l e R s m args below meth c H locs k n Q g q) : vx_W p l e R s m args below meth c H locs cells slots Q g q := fun T hT X => kk T hT (stand_widen X h1 h2)
theorem vx_out {pc : Nat} {E : String} {ce : Cell} {q : Addr} {mc ms : Nat} (hout : ∀ x ∈ c.exceptionTable.toList, covers x pc = false) (hlocks : meth.locks = false) (hcell : H[q]? = some ce) (hv : ce.vm = .none) (hcl : s.vm.findClass E = some ce.cls)
    (hx : ∀ t : State, t.heap = H → s.vm.Alike t.vm → XC E s t) (hf : ∀ z ∈ locs, free z.base) (hc : cells ≤ mc) (hs : slots ≤ ms) :
    vx_W p l e R s m args below meth c H locs cells slots (vx_MQ below Qc XC args s mc ms free) (F0 m pc ls rest) q := by
  intro T hT X
  obtain ⟨st1, hrun, hend, hW, hsm⟩ := X.leaveThrown q (g := F0 m pc ls rest) rfl rfl rfl hout hlocks
  have hcell9 : (T.setFrames (.throwing q :: below)).heap[q]? = some ce := by
    show T.heap[q]? = some ce
    rw [hT]; exact hcell
  exact ⟨_, st1, .threw q, hrun, hend, Or.inr ⟨q, rfl, E, ce, locs, hx _ hT hW.alike, hcell9, hv, hcl, hW, hsm.mono hc hs, hf⟩⟩
theorem vx_frame {U : State} {k n : Nat} (h : s.sameButNew ({ U with vm := s.vm } : State) locs k n) : s.heap.size ≤ U.heap.size ∧ ∀ q : Nat, q < s.heap.size → (∀ z ∈ locs, z.base ≠ q) → U.heap[q]? = s.heap[q]? := by
  obtain ⟨-, h2, -, -, -, h6⟩ := h
  refine ⟨h2, fun q hq hz => ?_⟩
  obtain ⟨c9, e1, e2, e3, e4⟩ := h6 q _ (Array.getElem?_eq_getElem hq)
  have hs : c9.slots = (s.heap[q]).slots := Array.ext_getElem? fun i => e4 i fun hm => hz _ hm rfl
  have h9 : c9 = s.heap[q] := by
    rw [hs] at e2
    exact e2
  have e5 : U.heap[q]? = some c9 := e1
  rw [e5, h9, Array.getElem?_eq_getElem hq]
/-- the words of a throw but the four that speak of the heap -/
def vx_no (w : Cond) : Bool := decide (w ≠ .isRef (.static Bundle.tN "UNASSIGNED_STACK" Bundle.steD)) && decide (w ≠ .isRef (.static Bundle.tN "SUPPRESSED_SENTINEL" Bundle.listD)) && decide (w ≠ .laysStatic Bundle.tN "UNASSIGNED_STACK" Bundle.steD) && decide (w ≠ .laysStatic Bundle.tN "SUPPRESSED_SENTINEL" Bundle.listD)
def vx_at0 (own : String) (ic : Nat) (X : String) (names : List String) : List Cond := (Bundle.ownAtoms0 own ic X names).filter vx_no
def vx_atS (own : String) (ic : Nat) (X : String) (names : List String) : List Cond := (Bundle.ownAtoms own ic X names).filter vx_no
/-- a word that the tables alone decide, or a good one -/
def vx_ot (w : Cond) : Bool := w.onTables || goodWord w
theorem vx_ot_at {args a' : Array Value} {s U : State} {w : Cond} (hW : s.WarmedH U.vm) (hvm : s.vm = U.vm) (hg : vx_ot w = true) (h : w.before args s = true) : w.before a' U = true := by
  simp only [vx_ot, Bool.or_eq_true] at hg
  rcases hg with hg | hg
  · exact va_tabs hg hvm h
  · exact word_at hW (good_of_word hg) h
/-- a list's words: the good ones out of the method's own list, the others by premises of their own -/
theorem vx_hat {args : Array Value} {s : State} {L B : List Cond} (h1 : ∀ w ∈ L.filter goodWord, w.before args s = true) (h2 : ∀ w ∈ L.filter (fun w => !goodWord w), w ∈ B) (h3 : ∀ w ∈ B, w.before args s = true) : ∀ w ∈ L, w.before args s = true := by
  intro w hw
  by_cases g : goodWord w = true
  · exact h1 w (List.mem_filter.mpr ⟨hw, g⟩)
  · refine h3 w (h2 w (List.mem_filter.mpr ⟨hw, ?_⟩))
    show (!goodWord w) = true
    cases hgw : goodWord w
    · rfl
    · exact absurd hgw g
theorem vx_c {args : Array Value} {s : State} {w : Cond} {B : List Cond} (h : w.before args s = true) (t : ∀ w ∈ B, w.before args s = true) : ∀ w' ∈ w :: B, w'.before args s = true := fun w' h' => (List.mem_cons.mp h').elim (fun e => by rw [e]; exact h) (t w')
theorem vx_n {args : Array Value} {s : State} : ∀ w ∈ ([] : List Cond), w.before args s = true := fun _ h => nomatch h
theorem vx_own {args : Array Value} {s : State} {L : List Cond} (h1 : ∀ w ∈ L.filter vx_no, w.before args s = true)
    (hU : (Cond.isRef (.static Bundle.tN "UNASSIGNED_STACK" Bundle.steD)).before args s = true) (hN : (Cond.isRef (.static Bundle.tN "SUPPRESSED_SENTINEL" Bundle.listD)).before args s = true)
    (lU : (Cond.laysStatic Bundle.tN "UNASSIGNED_STACK" Bundle.steD).before args s = true) (lN : (Cond.laysStatic Bundle.tN "SUPPRESSED_SENTINEL" Bundle.listD).before args s = true) : ∀ w ∈ L, w.before args s = true := by
  intro w hw
  by_cases e1 : w = .isRef (.static Bundle.tN "UNASSIGNED_STACK" Bundle.steD)
  · rw [e1]; exact hU
  · by_cases e2 : w = .isRef (.static Bundle.tN "SUPPRESSED_SENTINEL" Bundle.listD)
    · rw [e2]; exact hN
    · by_cases e3 : w = .laysStatic Bundle.tN "UNASSIGNED_STACK" Bundle.steD
      · rw [e3]; exact lU
      · by_cases e4 : w = .laysStatic Bundle.tN "SUPPRESSED_SENTINEL" Bundle.listD
        · rw [e4]; exact lN
        · exact h1 w (List.mem_filter.mpr ⟨hw, by unfold vx_no; rw [decide_eq_true e1, decide_eq_true e2, decide_eq_true e3, decide_eq_true e4]; rfl⟩)
/-- where a static field lies, its class's statics cell in H -/
def vx_L (C n d : String) (A : Nat → Prop) (U : State) (H : Heap) : Prop := ∃ (c : ClassId) (k : Class) (i : Nat) (f : Field) (a : Nat) (cell : Cell), U.vm.findClass C = some c ∧ U.fieldFound? C n d = some (c, k, i, f) ∧ f.isStatic = true ∧ k.statics = some a ∧ H[a]? = some cell ∧ cell.vm.isStatics = true ∧ cell.cls = c ∧ f.slot < cell.slots.size ∧ k.staticTypes[f.slot]? = some f.type ∧ ¬ A a
theorem vx_L.moved {C n d : String} {A : Nat → Prop} {u U : State} {H : Heap} (hvm : u.vm.Alike U.vm) (h : vx_L C n d A u H) : vx_L C n d A U H := by
  obtain ⟨c, k, i, f, a, cell, h1, h2, h3, h4, h5, h6, h7, h8, h9, h10⟩ := h
  obtain ⟨k', hi', he⟩ := State.fieldFound?_setVm hvm h2
  exact ⟨c, k', i, f, a, cell, by rw [hvm.findClass]; exact h1, hi', h3, by rw [he]; exact h4, h5, h6, h7, h8, by rw [he]; exact h9, h10⟩
theorem vx_L.kept {C n d : String} {A : Nat → Prop} {U : State} {H H1 : Heap} (h : vx_L C n d A U H) (hq : ∀ a : Nat, a < H.size → ¬ A a → H1[a]? = H[a]?) : vx_L C n d A U H1 := by
  obtain ⟨c, k, i, f, a, cell, h1, h2, h3, h4, h5, h6, h7, h8, h9, h10⟩ := h
  exact ⟨c, k, i, f, a, cell, h1, h2, h3, h4, by rw [hq a (Array.getElem?_eq_some_iff.mp h5).1 h10]; exact h5, h6, h7, h8, h9, h10⟩
theorem vx_L.narrow {C n d : String} {A B : Nat → Prop} {U : State} {H : Heap} (h : vx_L C n d A U H) (hAB : ∀ q, B q → A q) : vx_L C n d B U H := by
  obtain ⟨c, k, i, f, a, cell, h1, h2, h3, h4, h5, h6, h7, h8, h9, h10⟩ := h
  exact ⟨c, k, i, f, a, cell, h1, h2, h3, h4, h5, h6, h7, h8, h9, fun z => h10 (hAB _ z)⟩
theorem vx_L.word {C n d : String} {A : Nat → Prop} {s : State} {args : Array Value} (h : vx_L C n d A s s.heap) : (Cond.laysStatic C n d).before args s = true := by
  obtain ⟨c, k, i, f, a, cell, h1, h2, h3, h4, h5, h6, h7, h8, h9, -⟩ := h
  show (Cond.laysStatic C n d).holds args s none s [] = true
  exact Cond.laysStatic_of h1 h2 h3 h4 h5 h6 h7 h8 h9
/-- .. and what it holds: null or some reference -/
def vx_Zq (C n d : String) (A : Nat → Prop) (U : State) (H : Heap) : Prop := va_Zq C n d A U H ∧ vx_L C n d A U H
theorem vx_Zq.moved {C n d : String} {A : Nat → Prop} {u U : State} {H : Heap} (hvm : u.vm.Alike U.vm) (h : vx_Zq C n d A u H) : vx_Zq C n d A U H := ⟨va_Zq.moved hvm h.1, vx_L.moved hvm h.2⟩
theorem vx_Zq.kept {C n d : String} {A : Nat → Prop} {U : State} {H H1 : Heap} (h : vx_Zq C n d A U H) (hq : ∀ a : Nat, a < H.size → ¬ A a → H1[a]? = H[a]?) : vx_Zq C n d A U H1 := ⟨va_Zq.kept h.1 hq, vx_L.kept h.2 hq⟩
theorem vx_Zq.narrow {C n d : String} {A B : Nat → Prop} {U : State} {H : Heap} (h : vx_Zq C n d A U H) (hAB : ∀ q, B q → A q) : vx_Zq C n d B U H := ⟨va_Zq.narrow h.1 hAB, vx_L.narrow h.2 hAB⟩
theorem vx_Zqof {args : Array Value} {s : State} {C n d : String} {A : Nat → Prop} (hl : (Cond.laysStatic C n d).before args s = true) (hini : (Cond.initialized C).before args s = true) (h : (Cond.isRef (.static C n d)).before args s = true) (hA : ∀ a : Nat, a < s.heap.size → ¬ A a) : vx_Zq C n d A s s.heap := by
  refine ⟨va_Zqof hl hini h hA, ?_⟩
  obtain ⟨c, k, i, f, a, cell, h1, h2, h3, h4, h5, h6, h7, h8, h9⟩ := Cond.laysStatic_spec hl
  exact ⟨c, k, i, f, a, cell, h1, h2, h3, h4, h5, h6, h7, h8, h9, hA a (Array.getElem?_eq_some_iff.mp h5).1⟩
theorem vx_isRef {C n d : String} {v : Value} {A : Nat → Prop} {s : State} {args : Array Value} (h : va_Z C n d v A s s.heap) (hv : v.isRef = true) : (Cond.isRef (.static C n d)).before args s = true := by
  obtain ⟨cf, kf, fi, f, a, cell, h1, h2, h3, h4, h5, h6, h7, -⟩ := h
  have he : (Term.static C n d).eval args s none [] s = some v := by
    simp [Term.eval, State.fieldNamed?, h1, h2, h4, h5, h6, h7]
  simp only [Cond.before, Cond.holds, Cond.value, he]
  cases v <;> simp_all [Value.isRef]
theorem vx_isRefq {C n d : String} {A : Nat → Prop} {s : State} {args : Array Value} (h : va_Zq C n d A s s.heap) : (Cond.isRef (.static C n d)).before args s = true := by
  rcases h with h | ⟨t, h⟩
  · exact vx_isRef h rfl
  · exact vx_isRef h rfl
/-- the same frame, seen from here: as if the method were called anew in this heap -/
theorem vx_rebase {T : State} (X : Stand p l e R s m args below meth c T locs cells slots) {R' : Room} (hf : R'.frames ≤ R.frames) (hl : R'.locals ≤ R.locals) (hc : cells + R'.cells ≤ R.cells) (hs : slots + R'.slots ≤ R.slots) :
    Stand p l e R' ((T.setVm s.vm).setFrames (.invoking m args :: below)) m args below meth c T [] 0 0 := by
  have htop : (T.setVm s.vm).topJava?.isSome := X.here.top
  have hF : ((T.setVm s.vm).setFrames (.invoking m args :: below)).frames = .invoking m args :: below := State.frames_setFrames _ (State.cur_lt_of_top htop)
  obtain ⟨g₀, hg0⟩ := Option.isSome_iff_exists.mp htop
  obtain ⟨r, hr⟩ := State.topJava?_eq_some.mp hg0
  have hl9 : e.platform.stackLimits (T.setVm s.vm).me = e.platform.stackLimits s.me := X.limits
  have hb9 : (T.setVm s.vm).me.stackBytes = s.me.stackBytes := X.bytes
  refine ⟨X.admits, X.cas, X.clock, hF, ?_, X.hears, X.method, X.code, X.here, X.tail, X.warmed, ?_, ?_, ?_⟩
  · have h := X.room
    have hU : ((T.setVm s.vm).setFrames (.invoking m args :: below)).localsInUse = s.localsInUse := by
      rw [State.localsInUse_invoking hF (meth := meth) (c := c) X.method X.code, State.localsInUse_invoking X.frames X.method X.code]
    simp only [State.hasRoom, Bool.and_eq_true, decide_eq_true_eq] at h ⊢
    obtain ⟨⟨⟨⟨h1, h2, h3, h4, h5, h6⟩, h7⟩, h8⟩, h9⟩ := h
    rw [X.frames, List.length_cons] at h2 h3
    have q1 := X.heapSize
    have q2 := X.used
    simp only [hF, hU, List.length_cons, State.stackLimits_setFrames, State.stackBytes_setFrames, hl9, hb9]
    refine ⟨⟨⟨⟨by omega, by omega, by omega, by omega, by omega, h6⟩, ?_⟩, ?_⟩, X.book⟩
    · show T.heap.size + R'.cells ≤ e.platform.maxCells
      omega
    · show T.slotsUsed + R'.slots ≤ e.platform.maxSlots
      omega
  · rw [State.stackLimits_setFrames]; rfl
  · rw [State.stackBytes_setFrames]; rfl
  · refine ⟨?_, Nat.le_refl _, Nat.le_refl _, ?_, ?_, fun a c9 h9 => ⟨c9, h9, rfl, rfl, fun _ _ => rfl⟩⟩
    · obtain ⟨t, ht, -⟩ := State.frames_cons hr
      show T.setVm s.vm = { ((T.setVm s.vm).setFrames (.invoking m args :: below)).setFrames (T.setVm s.vm).frames with heap := T.heap, slotsUsed := T.slotsUsed }
      rw [State.setFrames_setFrames, State.setFrames_self ht]
      rfl
    · show T.slotsUsed = T.slotsUsed + ((T.heap.toList.drop T.heap.size).map (·.slots.size)).sum
      rw [List.drop_eq_nil_of_le (Nat.le_of_eq Array.length_toList)]
      rfl
    · show ((T.heap.toList.drop T.heap.size).map (·.slots.size)).sum ≤ 0
      rw [List.drop_eq_nil_of_le (Nat.le_of_eq Array.length_toList)]
      exact Nat.le_refl _
/-- 'throw new E()': new; dup; invokespecial; athrow -/
theorem vx_throw0 {cc : ByteArray} {pc : Nat} (hexec : p.tables.exec = Jvm.exec) (hb : c.code = cc) (hl : l.stackTraces = false) {own cls : String} {names : List String} {ik ic mc ms : Nat} {A : Nat → Prop}
    (hown : s.vm.findClass own = some m.cls) (hcls : Bundle.fit cls = true) (hnames : ∀ n ∈ names, Bundle.fit n = true)
    (hk : (Cond.classLink own ik cls).before args s = true) (hini : (Cond.initialized cls).before args s = true) (hat : ∀ w ∈ vx_at0 own ic cls names, w.before args s = true)
    (hgood : ∀ w ∈ Cond.classLink own ik cls :: Cond.initialized cls :: vx_at0 own ic cls names, vx_ot w = true)
    (hU : vx_Zq Bundle.tN "UNASSIGNED_STACK" Bundle.steD A s s.heap) (hN : vx_Zq Bundle.tN "SUPPRESSED_SENTINEL" Bundle.listD A s s.heap) (hS : va_S A s.heap H locs) (hsize : ls.size = c.maxLocals)
    (d0 : decode cc pc = .ok (.new ik, 3)) (d3 : decode cc (pc + 3) = .ok (.dup, 1)) (d4 : decode cc (pc + 4) = .ok (.invokespecial ic, 3)) (d7 : decode cc (pc + 7) = .ok (.athrow, 1))
    (hout : ∀ x ∈ c.exceptionTable.toList, covers x (pc + 7) = false)
    (hRframes : names.length + 3 < R.frames) (hRlocals : (rest.map fun v => v.category).sum + (13 * (names.length + 1) + 42) ≤ R.locals) (hRcells : cells + 1 ≤ R.cells) (hRslots : slots + 6 ≤ R.slots) (hlocks : meth.locks = false)
    (hx : ∀ t : State, s.vm.Alike t.vm → H.size ≤ t.heap.size → (∀ q : Nat, q < H.size → t.heap[q]? = H[q]?) → XC cls s t)
    (hf : ∀ z ∈ locs, free z.base) (hc : cells + 1 ≤ mc) (hs : slots + 6 ≤ ms) :
    W p l e R s m args below meth c H locs cells slots (vx_MQ below Qc XC args s mc ms free) (F0 m pc ls rest) := by
  intro T hT X
  have htr : e.platform.stackTraces = false := (show e.platform.stackTraces = l.stackTraces by rw [X.admits.platform]).trans hl
  have Y := vx_rebase X (R' := { frames := R.frames, locals := R.locals, cells := 1, slots := 6 }) (Nat.le_refl _) (Nat.le_refl _) hRcells hRslots
  obtain ⟨s', hA⟩ : ∃ z, z = (T.setVm s.vm).setFrames (.invoking m args :: below) := ⟨_, rfl⟩
  rw [← hA] at Y
  have hvm : s'.vm = s.vm := by rw [hA]; rfl
  have hhp : s'.heap = H := by rw [hA]; exact hT
  have hW0 : s.WarmedH s'.vm := by rw [hvm]; exact State.WarmedH.refl s
  have hat' : ∀ w ∈ vx_at0 own ic cls names, w.before args s' = true := fun w hw => vx_ot_at hW0 hvm.symm (hgood w (List.mem_cons_of_mem _ (List.mem_cons_of_mem _ hw))) (hat w hw)
  have hk' : (Cond.classLink own ik cls).before args s' = true := vx_ot_at hW0 hvm.symm (hgood _ List.mem_cons_self) hk
  have hini' : (Cond.initialized cls).before args s' = true := vx_ot_at hW0 hvm.symm (hgood _ (List.mem_cons_of_mem _ List.mem_cons_self)) hini
  have hU' : vx_Zq Bundle.tN "UNASSIGNED_STACK" Bundle.steD A s' s'.heap := by rw [hhp]; exact vx_Zq.moved hW0.alike (hU.kept hS.2.1)
  have hN' : vx_Zq Bundle.tN "SUPPRESSED_SENTINEL" Bundle.listD A s' s'.heap := by rw [hhp]; exact vx_Zq.moved hW0.alike (hN.kept hS.2.1)
  have h : ∀ w ∈ Bundle.ownAtoms0 own ic cls names, w.before args s' = true := vx_own hat' (vx_isRefq hU'.1) (vx_isRefq hN'.1) hU'.2.word hN'.2.word
  have hown' : s'.vm.findClass own = some m.cls := by rw [hvm]; exact hown
  have hins : (Cond.instantiable cls 6).before args s' = true := h _ (by simp [Bundle.ownAtoms0])
  obtain ⟨vm₁, cX, kX, hfX, hkX, -, -, X₁, st1⟩ := Y.newCold hexec (own := own) (C := cls) (index := ik) (n := 6) hown' hk' hins hini'
    (g := F0 m pc ls rest) rfl (by rw [hb]; exact d0) (Nat.le_refl _) (Nat.le_refl _)
  generalize hT1 : (T.setVm vm₁).pushCell { cls := cX, slots := kX.instanceTypes.map defaultValue, vm := .none } = T1 at X₁ st1
  have hcat : (Value.ref T.heap.size).category = 1 := rfl
  have hcellA : T1.heap[T.heap.size]? = some (freshCell cX kX) := by rw [← hT1]; exact State.heap_pushCell_size _ _
  have d3' : decode c.code (pc + 3) = .ok (.dup, 1) := by rw [hb]; exact d3
  obtain ⟨U, hsteps, hrun, hend, hW, hsame, ce, hce, hO⟩ := X₁.ctorThrow0 hexec htr (own := own) (cls := cls) (names := names) (ic := ic) hown' hcls hnames h (fun x hx => nomatch hx) hfX hkX hcellA (by rw [hhp, hT]; exact Nat.le_refl _)
    (g := { method := m, pc := pc + 4, locals := ls, stack := .ref T.heap.size :: .ref T.heap.size :: rest, locked := none }) rfl hsize rfl rfl (rest := rest) rfl
    (by rw [hb]; exact d4) (by rw [hb]; exact d7) hout hRframes (by simp only [List.map_cons, List.sum_cons, hcat]; omega) hlocks
  obtain ⟨f1, f2⟩ := vx_frame hsame
  rw [hhp] at f1 f2
  have hWs : s.WarmedH U.vm := State.WarmedH.trans hW0 hW
  have hcl : s.vm.findClass cls = some ce.cls := by
    have h9 := hO.cls
    rw [hvm] at h9
    exact h9
  have hall : s.sameButNew ({ U with vm := s.vm } : State) locs mc ms := by
    subst hA
    obtain ⟨e1, e2⟩ := hsame
    rw [State.setFrames_setFrames] at e1
    have h2 : (T.setVm s.vm).sameButNew ({ U with vm := s.vm } : State) [] (0 + 1) (0 + 6) := ⟨e1, e2⟩
    have h3 := X.same.trans h2
    rw [List.append_nil] at h3
    exact h3.mono hc hs
  refine ⟨U, ?_, .threw T.heap.size, hrun, hend, Or.inr ⟨T.heap.size, rfl, cls, ce, locs, hx U hWs.alike f1 (fun q hq => f2 q hq (fun z hz => nomatch hz)), hce, hO.vm, hcl, hWs, hall, hf⟩⟩
  refine st1 _ ?_
  show Steps p.tables e below (T1.setTop { method := m, pc := pc + 3, locals := ls, stack := .ref T.heap.size :: rest, locked := none }) _
  jvm_step X₁.here [X₁.here.top, hexec, d3', Value.category]
  exact hsteps
/-- 'throw new E("text")': new; dup; ldc; invokespecial; athrow -/
theorem vx_throwS {cc : ByteArray} {pc : Nat} (hexec : p.tables.exec = Jvm.exec) (hb : c.code = cc) (hl : l.stackTraces = false) {own cls text : String} {names : List String} {ik is ic mc ms sa : Nat} {A : Nat → Prop}
    (hown : s.vm.findClass own = some m.cls) (hcls : Bundle.fit cls = true) (hnames : ∀ n ∈ names, Bundle.fit n = true)
    (hk : (Cond.classLink own ik cls).before args s = true) (hini : (Cond.initialized cls).before args s = true) (hstr : vk_R own is text sa s) (hat : ∀ w ∈ vx_atS own ic cls names, w.before args s = true)
    (hgood : ∀ w ∈ Cond.classLink own ik cls :: Cond.initialized cls :: vx_atS own ic cls names, vx_ot w = true)
    (hU : vx_Zq Bundle.tN "UNASSIGNED_STACK" Bundle.steD A s s.heap) (hN : vx_Zq Bundle.tN "SUPPRESSED_SENTINEL" Bundle.listD A s s.heap) (hS : va_S A s.heap H locs) (hsize : ls.size = c.maxLocals)
    (d0 : decode cc pc = .ok (.new ik, 3)) (d3 : decode cc (pc + 3) = .ok (.dup, 1)) (d4 : decode cc (pc + 4) = .ok (.ldc is, 2)) (d6 : decode cc (pc + 6) = .ok (.invokespecial ic, 3)) (d9 : decode cc (pc + 9) = .ok (.athrow, 1))
    (hout : ∀ x ∈ c.exceptionTable.toList, covers x (pc + 9) = false)
    (hRframes : names.length + 3 < R.frames) (hRlocals : (rest.map fun v => v.category).sum + (13 * (names.length + 1) + 43) ≤ R.locals) (hRcells : cells + 1 ≤ R.cells) (hRslots : slots + 6 ≤ R.slots) (hlocks : meth.locks = false)
    (hx : ∀ t : State, s.vm.Alike t.vm → H.size ≤ t.heap.size → (∀ q : Nat, q < H.size → t.heap[q]? = H[q]?) → XC cls s t)
    (hf : ∀ z ∈ locs, free z.base) (hc : cells + 1 ≤ mc) (hs : slots + 6 ≤ ms) :
    W p l e R s m args below meth c H locs cells slots (vx_MQ below Qc XC args s mc ms free) (F0 m pc ls rest) := by
  intro T hT X
  have htr : e.platform.stackTraces = false := (show e.platform.stackTraces = l.stackTraces by rw [X.admits.platform]).trans hl
  have Y := vx_rebase X (R' := { frames := R.frames, locals := R.locals, cells := 1, slots := 6 }) (Nat.le_refl _) (Nat.le_refl _) hRcells hRslots
  obtain ⟨s', hA⟩ : ∃ z, z = (T.setVm s.vm).setFrames (.invoking m args :: below) := ⟨_, rfl⟩
  rw [← hA] at Y
  have hvm : s'.vm = s.vm := by rw [hA]; rfl
  have hhp : s'.heap = H := by rw [hA]; exact hT
  have hW0 : s.WarmedH s'.vm := by rw [hvm]; exact State.WarmedH.refl s
  have hat' : ∀ w ∈ vx_atS own ic cls names, w.before args s' = true := fun w hw => vx_ot_at hW0 hvm.symm (hgood w (List.mem_cons_of_mem _ (List.mem_cons_of_mem _ hw))) (hat w hw)
  have hk' : (Cond.classLink own ik cls).before args s' = true := vx_ot_at hW0 hvm.symm (hgood _ List.mem_cons_self) hk
  have hini' : (Cond.initialized cls).before args s' = true := vx_ot_at hW0 hvm.symm (hgood _ (List.mem_cons_of_mem _ List.mem_cons_self)) hini
  have hU' : vx_Zq Bundle.tN "UNASSIGNED_STACK" Bundle.steD A s' s'.heap := by rw [hhp]; exact vx_Zq.moved hW0.alike (hU.kept hS.2.1)
  have hN' : vx_Zq Bundle.tN "SUPPRESSED_SENTINEL" Bundle.listD A s' s'.heap := by rw [hhp]; exact vx_Zq.moved hW0.alike (hN.kept hS.2.1)
  have h : ∀ w ∈ Bundle.ownAtoms own ic cls names, w.before args s' = true := vx_own hat' (vx_isRefq hU'.1) (vx_isRefq hN'.1) hU'.2.word hN'.2.word
  have hown' : s'.vm.findClass own = some m.cls := by rw [hvm]; exact hown
  have hins : (Cond.instantiable cls 6).before args s' = true := h _ (by simp [Bundle.ownAtoms])
  obtain ⟨vm₁, cX, kX, hfX, hkX, -, -, X₁, st1⟩ := Y.newCold hexec (own := own) (C := cls) (index := ik) (n := 6) hown' hk' hins hini'
    (g := F0 m pc ls rest) rfl (by rw [hb]; exact d0) (Nat.le_refl _) (Nat.le_refl _)
  generalize hT1 : (T.setVm vm₁).pushCell { cls := cX, slots := kX.instanceTypes.map defaultValue, vm := .none } = T1 at X₁ st1
  have hcat : (Value.ref T.heap.size).category = 1 := rfl
  have hcellA : T1.heap[T.heap.size]? = some (freshCell cX kX) := by rw [← hT1]; exact State.heap_pushCell_size _ _
  have d3' : decode c.code (pc + 3) = .ok (.dup, 1) := by rw [hb]; exact d3
  have d4' : decode c.code (pc + 4) = .ok (.ldc is, 2) := by rw [hb]; exact d4
  have hstr' : vk_R own is text sa s' := vk_R.warm hW0 hstr
  obtain ⟨U, hsteps, hrun, hend, hW, hsame, ce, hce, hO⟩ := X₁.ctorThrowS hexec htr (own := own) (cls := cls) (names := names) (ic := ic) hown' hcls hnames h (fun x hx => nomatch hx) hfX hkX hcellA (by rw [hhp, hT]; exact Nat.le_refl _) (msg := .ref sa) rfl
    (g := { method := m, pc := pc + 6, locals := ls, stack := .ref sa :: .ref T.heap.size :: .ref T.heap.size :: rest, locked := none }) rfl hsize rfl rfl (rest := rest) rfl
    (by rw [hb]; exact d6) (by rw [hb]; exact d9) hout hRframes (by simp only [List.map_cons, List.sum_cons, hcat]; omega) hlocks
  obtain ⟨f1, f2⟩ := vx_frame hsame
  rw [hhp] at f1 f2
  have hWs : s.WarmedH U.vm := State.WarmedH.trans hW0 hW
  have hcl : s.vm.findClass cls = some ce.cls := by
    have h9 := hO.cls
    rw [hvm] at h9
    exact h9
  have hall : s.sameButNew ({ U with vm := s.vm } : State) locs mc ms := by
    subst hA
    obtain ⟨e1, e2⟩ := hsame
    rw [State.setFrames_setFrames] at e1
    have h2 : (T.setVm s.vm).sameButNew ({ U with vm := s.vm } : State) [] (0 + 1) (0 + 6) := ⟨e1, e2⟩
    have h3 := X.same.trans h2
    rw [List.append_nil] at h3
    exact h3.mono hc hs
  refine ⟨U, ?_, .threw T.heap.size, hrun, hend, Or.inr ⟨T.heap.size, rfl, cls, ce, locs, hx U hWs.alike f1 (fun q hq => f2 q hq (fun z hz => nomatch hz)), hce, hO.vm, hcl, hWs, hall, hf⟩⟩
  refine st1 _ ?_
  show Steps p.tables e below (T1.setTop { method := m, pc := pc + 3, locals := ls, stack := .ref T.heap.size :: rest, locked := none }) _
  jvm_step X₁.here [X₁.here.top, hexec, d3', Value.category]
  exact X₁.ldcString hexec (own := own) (text := text) (index := is) (a := sa) hown' hstr'.1 hstr'.2
    (g := { method := m, pc := pc + 4, locals := ls, stack := .ref T.heap.size :: .ref T.heap.size :: rest, locked := none }) rfl d4' _ hsteps
/-- 'throw new E("text")', the text by a wide index -/
theorem vx_throwSW {cc : ByteArray} {pc : Nat} (hexec : p.tables.exec = Jvm.exec) (hb : c.code = cc) (hl : l.stackTraces = false) {own cls text : String} {names : List String} {ik is ic mc ms sa : Nat} {A : Nat → Prop}
    (hown : s.vm.findClass own = some m.cls) (hcls : Bundle.fit cls = true) (hnames : ∀ n ∈ names, Bundle.fit n = true)
    (hk : (Cond.classLink own ik cls).before args s = true) (hini : (Cond.initialized cls).before args s = true) (hstr : vk_R own is text sa s) (hat : ∀ w ∈ vx_atS own ic cls names, w.before args s = true)
    (hgood : ∀ w ∈ Cond.classLink own ik cls :: Cond.initialized cls :: vx_atS own ic cls names, vx_ot w = true)
    (hU : vx_Zq Bundle.tN "UNASSIGNED_STACK" Bundle.steD A s s.heap) (hN : vx_Zq Bundle.tN "SUPPRESSED_SENTINEL" Bundle.listD A s s.heap) (hS : va_S A s.heap H locs) (hsize : ls.size = c.maxLocals)
    (d0 : decode cc pc = .ok (.new ik, 3)) (d3 : decode cc (pc + 3) = .ok (.dup, 1)) (d4 : decode cc (pc + 4) = .ok (.ldc_w is, 3)) (d7 : decode cc (pc + 7) = .ok (.invokespecial ic, 3)) (d10 : decode cc (pc + 10) = .ok (.athrow, 1))
    (hout : ∀ x ∈ c.exceptionTable.toList, covers x (pc + 10) = false)
    (hRframes : names.length + 3 < R.frames) (hRlocals : (rest.map fun v => v.category).sum + (13 * (names.length + 1) + 43) ≤ R.locals) (hRcells : cells + 1 ≤ R.cells) (hRslots : slots + 6 ≤ R.slots) (hlocks : meth.locks = false)
    (hx : ∀ t : State, s.vm.Alike t.vm → H.size ≤ t.heap.size → (∀ q : Nat, q < H.size → t.heap[q]? = H[q]?) → XC cls s t)
    (hf : ∀ z ∈ locs, free z.base) (hc : cells + 1 ≤ mc) (hs : slots + 6 ≤ ms) :
    W p l e R s m args below meth c H locs cells slots (vx_MQ below Qc XC args s mc ms free) (F0 m pc ls rest) := by
  intro T hT X
  have htr : e.platform.stackTraces = false := (show e.platform.stackTraces = l.stackTraces by rw [X.admits.platform]).trans hl
  have Y := vx_rebase X (R' := { frames := R.frames, locals := R.locals, cells := 1, slots := 6 }) (Nat.le_refl _) (Nat.le_refl _) hRcells hRslots
  obtain ⟨s', hA⟩ : ∃ z, z = (T.setVm s.vm).setFrames (.invoking m args :: below) := ⟨_, rfl⟩
  rw [← hA] at Y
  have hvm : s'.vm = s.vm := by rw [hA]; rfl
  have hhp : s'.heap = H := by rw [hA]; exact hT
  have hW0 : s.WarmedH s'.vm := by rw [hvm]; exact State.WarmedH.refl s
  have hat' : ∀ w ∈ vx_atS own ic cls names, w.before args s' = true := fun w hw => vx_ot_at hW0 hvm.symm (hgood w (List.mem_cons_of_mem _ (List.mem_cons_of_mem _ hw))) (hat w hw)
  have hk' : (Cond.classLink own ik cls).before args s' = true := vx_ot_at hW0 hvm.symm (hgood _ List.mem_cons_self) hk
  have hini' : (Cond.initialized cls).before args s' = true := vx_ot_at hW0 hvm.symm (hgood _ (List.mem_cons_of_mem _ List.mem_cons_self)) hini
  have hU' : vx_Zq Bundle.tN "UNASSIGNED_STACK" Bundle.steD A s' s'.heap := by rw [hhp]; exact vx_Zq.moved hW0.alike (hU.kept hS.2.1)
  have hN' : vx_Zq Bundle.tN "SUPPRESSED_SENTINEL" Bundle.listD A s' s'.heap := by rw [hhp]; exact vx_Zq.moved hW0.alike (hN.kept hS.2.1)
  have h : ∀ w ∈ Bundle.ownAtoms own ic cls names, w.before args s' = true := vx_own hat' (vx_isRefq hU'.1) (vx_isRefq hN'.1) hU'.2.word hN'.2.word
  have hown' : s'.vm.findClass own = some m.cls := by rw [hvm]; exact hown
  have hins : (Cond.instantiable cls 6).before args s' = true := h _ (by simp [Bundle.ownAtoms])
  obtain ⟨vm₁, cX, kX, hfX, hkX, -, -, X₁, st1⟩ := Y.newCold hexec (own := own) (C := cls) (index := ik) (n := 6) hown' hk' hins hini'
    (g := F0 m pc ls rest) rfl (by rw [hb]; exact d0) (Nat.le_refl _) (Nat.le_refl _)
  generalize hT1 : (T.setVm vm₁).pushCell { cls := cX, slots := kX.instanceTypes.map defaultValue, vm := .none } = T1 at X₁ st1
  have hcat : (Value.ref T.heap.size).category = 1 := rfl
  have hcellA : T1.heap[T.heap.size]? = some (freshCell cX kX) := by rw [← hT1]; exact State.heap_pushCell_size _ _
  have d3' : decode c.code (pc + 3) = .ok (.dup, 1) := by rw [hb]; exact d3
  have d4' : decode c.code (pc + 4) = .ok (.ldc_w is, 3) := by rw [hb]; exact d4
  have hstr' : vk_R own is text sa s' := vk_R.warm hW0 hstr
  obtain ⟨U, hsteps, hrun, hend, hW, hsame, ce, hce, hO⟩ := X₁.ctorThrowS hexec htr (own := own) (cls := cls) (names := names) (ic := ic) hown' hcls hnames h (fun x hx => nomatch hx) hfX hkX hcellA (by rw [hhp, hT]; exact Nat.le_refl _) (msg := .ref sa) rfl
    (g := { method := m, pc := pc + 7, locals := ls, stack := .ref sa :: .ref T.heap.size :: .ref T.heap.size :: rest, locked := none }) rfl hsize rfl rfl (rest := rest) rfl
    (by rw [hb]; exact d7) (by rw [hb]; exact d10) hout hRframes (by simp only [List.map_cons, List.sum_cons, hcat]; omega) hlocks
  obtain ⟨f1, f2⟩ := vx_frame hsame
  rw [hhp] at f1 f2
  have hWs : s.WarmedH U.vm := State.WarmedH.trans hW0 hW
  have hcl : s.vm.findClass cls = some ce.cls := by
    have h9 := hO.cls
    rw [hvm] at h9
    exact h9
  have hall : s.sameButNew ({ U with vm := s.vm } : State) locs mc ms := by
    subst hA
    obtain ⟨e1, e2⟩ := hsame
    rw [State.setFrames_setFrames] at e1
    have h2 : (T.setVm s.vm).sameButNew ({ U with vm := s.vm } : State) [] (0 + 1) (0 + 6) := ⟨e1, e2⟩
    have h3 := X.same.trans h2
    rw [List.append_nil] at h3
    exact h3.mono hc hs
  refine ⟨U, ?_, .threw T.heap.size, hrun, hend, Or.inr ⟨T.heap.size, rfl, cls, ce, locs, hx U hWs.alike f1 (fun q hq => f2 q hq (fun z hz => nomatch hz)), hce, hO.vm, hcl, hWs, hall, hf⟩⟩
  refine st1 _ ?_
  show Steps p.tables e below (T1.setTop { method := m, pc := pc + 3, locals := ls, stack := .ref T.heap.size :: rest, locked := none }) _
  jvm_step X₁.here [X₁.here.top, hexec, d3', Value.category]
  exact X₁.ldcStringW hexec (own := own) (text := text) (index := is) (a := sa) hown' hstr'.1 hstr'.2
    (g := { method := m, pc := pc + 4, locals := ls, stack := .ref T.heap.size :: .ref T.heap.size :: rest, locked := none }) rfl d4' _ hsteps
end Ends
section Bodies
variable {l : Launch}
theorem vx_ofW {y : MethodName} {ws ws' : List Cond} {rm : Room} {Pc : Array Value → State → Prop} {Qc : Array Value → State → Outcome → State → Prop} {XC : String → State → State → Prop} {mc ms : Nat} {free : Addr → Prop} {cc : ByteArray} {maxL : Nat} {ret : Option FieldType}
    (hy : plainName y.cls = true) (hw : ws = Cond.code y cc maxL ret :: ws')
    (body : ∀ p e s m args below meth c s₁, BodyLoose p l y (headSpec ws rm) cc maxL ret e s m args below meth c s₁ → c.maxLocals = maxL → (∀ x ∈ c.exceptionTable.toList, False) → Pc args s →
      W p l e (headSpec ws rm).room s m args below meth c s.heap [] 0 0 (vx_MQ below Qc XC args s mc ms free) (entryFrame m args maxL)) : vx_Met l y ws rm Pc Qc XC mc ms free := by
  refine MetFree.of_bodyS (code := cc) (maxLocals := maxL) (ret := ret) hy ?_ ?_
  · intro args s m h hn
    obtain ⟨meth, c, h1, h2, h3, h4, h5, h6, -, -⟩ := Cond.code_spec hn (atoms_spec (ws := ws) h _ (by rw [hw]; exact List.mem_cons_self))
    exact ⟨meth, c, h1, h2, h3, h4, h5, h6⟩
  · intro p e s m args below meth c s₁ B hml hP _
    have hh0 : s₁.heap = s.heap := by rw [B.state]; rfl
    have ht : ∀ x ∈ c.exceptionTable.toList, False := by
      obtain ⟨meth9, c9, h1, h2, -, -, -, -, h7, -⟩ := Cond.code_spec B.named (atoms_spec (ws := ws) B.pre _ (by rw [hw]; exact List.mem_cons_self))
      cases Option.some.inj (h1.symm.trans B.method)
      cases Option.some.inj (h2.symm.trans (Stand.of_body B).code)
      intro x hx
      rw [Array.isEmpty_iff.mp h7] at hx
      cases hx
    obtain ⟨t, a1, o, b1, b2, b3⟩ := body p e s m args below meth c s₁ B hml ht hP s₁ hh0 (Stand.of_body B)
    exact ⟨t, o, a1, b1, b2, b3⟩
/-- the table of a body with handlers -/
theorem vx_table {p : Program} {x y : MethodName} {S : Spec} {cc bytes : ByteArray} {maxL maxL' : Nat} {ret ret' : Option FieldType} {e : Env} {s s₁ : State} {m : MethodId} {args : Array Value} {below : List Frame} {meth : Method} {c : Code} {hh : List (Nat × Nat × Nat × Nat)}
    (B : BodyLoose p l y S cc maxL ret e s m args below meth c s₁) (h : (Cond.codeWith y bytes maxL' ret' hh).before args s = true) : c.exceptionTable.toList = tableOf hh := by
  obtain ⟨m9, meth9, c9, hn9, h1, h2, -, -, h6, -⟩ := Cond.codeWith_spec h
  cases Option.some.inj (hn9.symm.trans B.named)
  cases Option.some.inj (h1.symm.trans B.method)
  cases Option.some.inj (h2.symm.trans (Stand.of_body B).code)
  rw [← h6, table_eq]
end Bodies
end VXA
/-! ===== END ===== -/
/-! ===== BEGIN a static call of a method with an exception table ===== -/
section VXS
variable {p : Program} {l : Launch} {e : Env} {R : Room} {s : State} {m : MethodId} {args : Array Value} {below : List Frame} {meth : Method} {c : Code} {T : State} {H : Heap} {locs : List Loc} {cells slots : Nat}
abbrev vx_CSW (R : Room) (s : State) (args : Array Value) (own : String) (index : Nat) (y : MethodName) (bytes : ByteArray) (maxL : Nat) (ret : Option FieldType) (hh : List (Nat × Nat × Nat × Nat)) (ws : List Cond) (rm : Room) (mc ms n : Nat) : Prop :=
  (rm.cells = mc ∧ rm.slots = ms ∧ rm.frames + 1 ≤ R.frames ∧ 8 + (maxL + 11) + rm.locals ≤ R.locals ∧ (∀ w ∈ ws, ∀ (a' : Array Value) (U : State), s.WarmedH U.vm → w.before a' U = true) ∧ Cond.codeWith y bytes maxL ret hh ∈ ws) ∧
  (Cond.codeWith y bytes maxL ret hh).before args s = true ∧ (Cond.initialized y.cls).before args s = true ∧ (y.cls ≠ "java/lang/invoke/MethodHandle" ∧ y.cls ≠ "java/lang/invoke/VarHandle") ∧
  (∀ sig, parseMethodDescriptor y.desc = some sig → n = sig.parameters.length) ∧ (Cond.methodLink own index y).before args s = true ∧ (Cond.static y).before args s = true
theorem vx_cwSW {own : String} {index maxL mc ms : Nat} {y : MethodName} {bytes : ByteArray} {ret : Option FieldType} {hh : List (Nat × Nat × Nat × Nat)} {Ts ws ws' : List Cond} {rm : Room} (n : Nat) (ht : ∀ w ∈ Ts, w.before args s = true) (hT : GoodIn Ts (va_wsS own index y ws)) (hw : ws = Cond.codeWith y bytes maxL ret hh :: ws') (hrc : rm.cells = mc) (hrs : rm.slots = ms)
    (hd : y.cls ≠ "java/lang/invoke/MethodHandle" ∧ y.cls ≠ "java/lang/invoke/VarHandle" ∧ (parseMethodDescriptor y.desc).map (fun d => d.parameters.length) = some n) (hR : rm.frames + 1 ≤ R.frames ∧ 8 + (maxL + 11) + rm.locals ≤ R.locals) :
    vx_CSW R s args own index y bytes maxL ret hh ws rm mc ms n := by
  have ok : ∀ w ∈ va_wsS own index y ws, w.before args s = true := fun w h => ht w (hT w h).1
  have hG : GoodIn Ts ws := fun w h => hT w (by unfold va_wsS; exact List.mem_append_right _ h)
  have hc : Cond.codeWith y bytes maxL ret hh ∈ ws := by rw [hw]; exact List.mem_cons_self
  refine ⟨⟨hrc, hrs, hR.1, hR.2, pay_in ht hG, hc⟩, ht _ (hG _ hc).1, ok _ (by simp [va_wsS]), ⟨hd.1, hd.2.1⟩, fun sig h => ?_, ok _ (by simp [va_wsS]), ok _ (by simp [va_wsS])⟩
  have h2 := hd.2.2
  rw [h] at h2
  exact (Option.some.inj h2).symm
theorem vx_callSW (X : Stand p l e R s m args below meth c T locs cells slots) (hexec : p.tables.exec = Jvm.exec) {own : String} {index : Nat} {y : MethodName} {bytes : ByteArray} {maxL : Nat} {ret : Option FieldType} {hh : List (Nat × Nat × Nat × Nat)}
    (hown : s.vm.findClass own = some m.cls) (hlink : (Cond.methodLink own index y).before args s = true) (hstat : (Cond.static y).before args s = true) (hinit : (Cond.initialized y.cls).before args s = true)
    (hcode : (Cond.codeWith y bytes maxL ret hh).before args s = true) (hy : y.cls ≠ "java/lang/invoke/MethodHandle" ∧ y.cls ≠ "java/lang/invoke/VarHandle")
    {W9 : Nat} {Pre : Pt → Array Value → Prop} {Post : Pt → Array Value → Option Value → Pt → Prop} (hK : Back l R p e below s args y 3 W9 Pre Post)
    {g : JFrame} (hg : g.method = m) (hsize : g.locals.size = c.maxLocals) {argsL rest : List Value} (hlen : ∀ sig, parseMethodDescriptor y.desc = some sig → argsL.length = sig.parameters.length)
    (hstack : g.stack = argsL.reverse ++ rest) (hW : 2 * g.monitorRoom + (rest.map fun v => v.category).sum ≤ W9) (hdg : decode c.code g.pc = .ok (.invokestatic index, 3))
    (hpre : ∀ vm₁, s.WarmedH vm₁ → Pre ⟨T.setVm vm₁, locs, cells, slots⟩ argsL.toArray) :
    ∃ (v : Option Value) (vm₁ : Vm) (B : Pt), s.WarmedH vm₁ ∧ Stand p l e R s m args below meth c B.U B.locs B.cells B.slots ∧ Post ⟨T.setVm vm₁, locs, cells, slots⟩ argsL.toArray v B ∧
      ∀ target, Steps p.tables e below (B.U.setTop { g with pc := g.pc + 3, stack := v.toList ++ rest }) target → Steps p.tables e below (T.setTop g) target := by
  obtain ⟨mk, methM, cM, hnamed, hmethM, -, -, -, -, -, -, hsigM⟩ := Cond.codeWith_spec hcode
  have hstatic : methM.isStatic = true := Cond.static_spec hnamed hmethM hstat
  obtain ⟨kP, hkP, -⟩ := className_of_methodNamed hnamed
  have hinitP : kP.init = .initialized := Cond.initialized_spec (findClass_of_methodNamed hnamed) hkP hinit
  obtain ⟨vm₁, X₁, hstep₁⟩ := X.invokestatic hexec hown hlink hnamed hmethM hstatic hkP hinitP hy (g := g) hg (argsL := argsL) (rest := rest) (hlen _ hsigM) hstack hdg
  obtain ⟨v, B, X', hpost, hsteps⟩ := hK m meth c ⟨T.setVm vm₁, locs, cells, slots⟩ { g with stack := rest } (.invokestatic index) mk argsL.toArray X₁ hg hsize hdg hW (X₁.named hnamed) (hpre vm₁ X₁.warmed)
  exact ⟨v, vm₁, B, X₁.warmed, X', hpost, fun target h => hstep₁ _ fun acts => by rw [doInvoke_state]; exact hsteps.trans h⟩
theorem vx_runSW {y : MethodName} {bytes cc : ByteArray} {maxL nL mc ms n index : Nat} {ret : Option FieldType} {hh : List (Nat × Nat × Nat × Nat)} {ws : List Cond} {rm : Room} {Pc : Array Value → State → Prop} {Qc : Array Value → State → Outcome → State → Prop} {free : Addr → Prop} {Ts : List Cond} {own : String} {As rest : List Value} {g : JFrame}
    (S : CallFix p m c cc nL s args Ts own) (hM : Met l y ws rm Pc Qc mc ms free) (cw : vx_CSW R s args own index y bytes maxL ret hh ws rm mc ms n) (hp : PreS s H Pc As)
    (hg : g.method = m) (hn : As.length = n) (hsize : g.locals.size = nL) (hstack : g.stack = As.reverse ++ rest) (hW : 2 * g.monitorRoom + (rest.map fun v => v.category).sum ≤ 8) (hdg : decode cc g.pc = .ok (.invokestatic index, 3)) (hf : cells + mc ≤ R.cells ∧ slots + ms ≤ R.slots) :
    va_Run p l e R s m args below meth c H locs cells slots mc ms g rest (Qc As.toArray) (free) := by
  obtain ⟨⟨hrc, hrs, hfr, hlo, hws, hcw⟩, hcode, hini, hy, hlen, hl, hstt⟩ := cw
  have hK : Back l R p e below s args y 3 8 (PreOf R mc ms Pc) (PostOf Qc mc ms free) := va_backW (hh := hh) (bytes := bytes) (maxL := maxL) (ret := ret) hM hp.1 hrc hrs hfr hlo hws hcw (fun a' U hW => word_at hW (Or.inl (by first | rfl | simp [Cond.onTables, Cond.keeps, Cond.steady])) hini)
  obtain ⟨hx, hb, hml, ho, -⟩ := S
  intro T hT X
  obtain ⟨v, vm₁, ⟨U', l2, c2, s2⟩, hW₁, X', ⟨g', mk, t, L, e1, e2, hq, h1, hL, h2, h3⟩, st⟩ := vx_callSW X hx (hh := hh) (bytes := bytes) (maxL := maxL) (ret := ret) ho hl hstt hini hcode hy hK hg (hsize.trans hml.symm) (argsL := As) (rest := rest) (fun sig h => hn.trans (hlen sig h)) hstack hW (by rw [hb]; exact hdg)
    (fun vm₁ hW₁ => ⟨hf.1, hf.2, hp.2 (T.setVm vm₁) hT hW₁⟩)
  dsimp only [Pt.U, Pt.locs, Pt.cells, Pt.slots] at X' e1 e2 h1 h2 h3 st
  subst h1; subst h2; subst h3
  exact ⟨v, (T.setVm vm₁).calling g' mk As.toArray, t, U', L, hT, X', hL, e1, e2, hq, st⟩
/-- not caught here, past rows that name other classes: it goes on to the caller -/
theorem vx_outP {p : Program} {l : Launch} {e : Env} {R : Room} {s : State} {m : MethodId} {args : Array Value} {below : List Frame} {meth : Method} {c : Code} {H : Heap} {locs : List Loc} {cells slots : Nat} {free : Addr → Prop} {ls : Array Slot} {rest : List Value} {Qc : Array Value → State → Outcome → State → Prop} {XC : String → State → State → Prop}
    {pc : Nat} {own E : String} {ce : Cell} {q : Addr} {mc ms : Nat} (hown : s.vm.findClass own = some m.cls) (hlocks : meth.locks = false)
    (hpass : ∀ z ∈ c.exceptionTable.toList, covers z pc = false ∨ (z.catchType ≠ 0 ∧ ∃ nm : String, (Cond.classLink own z.catchType nm).before args s = true ∧ va_Nc E nm s)) (hcell : H[q]? = some ce) (hv : ce.vm = .none) (hcl : s.vm.findClass E = some ce.cls)
    (hx : ∀ t : State, t.heap = H → s.vm.Alike t.vm → XC E s t) (hf : ∀ z ∈ locs, free z.base) (hc : cells ≤ mc) (hs : slots ≤ ms) :
    vx_W p l e R s m args below meth c H locs cells slots (vx_MQ below Qc XC args s mc ms free) (F0 m pc ls rest) q := by
  intro T hT X
  have hpl : e.platform.magicAccessors = ({} : Platform).magicAccessors := by rw [X.admits.platform]
  obtain ⟨vm', hW', X', st⟩ := X.outThrough hlocks q (g := F0 m pc ls rest) rfl rfl rfl (cell := ce) (by rw [hT]; exact hcell) (by rw [hv]; rfl)
    (by obtain ⟨k9, h9, -⟩ := Vm.findClass_spec hcl; exact ⟨k9, h9⟩) (fun z hz => by
      rcases hpass z hz with h | ⟨hz0, nm, hl1, hn1⟩
      · exact Or.inl h
      · obtain ⟨c6, hc6, hcl6⟩ := Cond.classLink_spec hown hl1 e.platform hpl
        obtain ⟨a8, b8, h1, h2, h3⟩ := hn1
        cases Option.some.inj (h1.symm.trans hcl)
        cases Option.some.inj (h2.symm.trans hc6)
        exact Or.inr ⟨hz0, _, hcl6, h3⟩)
  obtain ⟨g₀, hfr⟩ := X'.frames_eq
  have hcell9 : ((T.setVm vm').setFrames (.throwing q :: below)).heap[q]? = some ce := by
    show T.heap[q]? = some ce
    rw [hT]; exact hcell
  have hend : Ended ((T.setVm vm').setFrames (.throwing q :: below)) below (.threw q) := State.frames_setFrames _ (State.cur_lt_of_frames hfr)
  refine ⟨(T.setVm vm').setFrames (.throwing q :: below), ?_, .threw q, X'.here.running, hend, Or.inr ⟨q, rfl, E, ce, locs, hx _ hT (X'.ends _).1.alike, hcell9, hv, hcl, (X'.ends _).1, (X'.ends _).2.mono hc hs, hf⟩⟩
  rw [X.pushThrowing_eq]
  exact st
/-- a thing of a world lies in the heap -/
theorem vx_lt {D : va_G} {cl : List vw_C} {ws : va_W} {H1 : Heap} (h : va_P D cl ws H1) {k : Nat} {q : Nat × va_E} (hk : ws[k]? = some q) : q.1 < H1.size := (h k q hk).lt
end VXS
/-! ===== END ===== -/
/-! ===== BEGIN methods with a table of their own: called by a name, returning or throwing ===== -/
section VXH
/-! vx_backW, vx_callVX, vx_callSX, vx_callVW, vx_runVW, vx_runVX, vx_runSX, vx_ofWH follow the same proofs as their sisters above (Free/Laws.lean, Shelf42/LK1.lean); vx_outP calls Shelf42/NT130.lean (outThrough). -/
section
variable {l : Launch} {R : Room} {p : Program} {e : Env} {below : List Frame} {s : State} {sargs : Array Value} {y : MethodName} {len W9 : Nat}
theorem vx_backW {ws : List Cond} {rm : Room} {Pc : Array Value → State → Prop} {Qc : Array Value → State → Outcome → State → Prop} {XC : String → State → State → Prop} {mc ms : Nat} {free : Addr → Prop} {bytes : ByteArray} {maxL : Nat} {ret : Option FieldType} {hh : List (Nat × Nat × Nat × Nat)}
    (hM : vx_Met l y ws rm Pc Qc XC mc ms free) (hblind : FrameBlind Pc) (hrc : rm.cells = mc) (hrs : rm.slots = ms)
    (hframes : rm.frames + 1 ≤ R.frames) (hlocals : W9 + (maxL + 11) + rm.locals ≤ R.locals)
    (hws : ∀ w ∈ ws, ∀ a' U, s.WarmedH U.vm → w.before a' U = true) (hcode : Cond.codeWith y bytes maxL ret hh ∈ ws) (hinit : ∀ a' U, s.WarmedH U.vm → (Cond.initialized y.cls).before a' U = true) :
    vx_Back l R p e below s sargs y len W9 (PreOf R mc ms Pc) (PostOf Qc mc ms free) (vx_Post XC mc ms free) := by
  intro m meth c A g ig mk a X hg hsize hdg hW hn hp
  have h1 : (headSpec ws rm).pre.before a A.U = true := atoms_intro fun w hw => hws w hw _ _ X.warmed
  have h2 : (Cond.codeWith y bytes maxL ret hh).before a A.U = true := hws _ hcode _ _ X.warmed
  have h3 : (Cond.initialized y.cls).before a A.U = true := hinit _ _ X.warmed
  have h4 : A.cells + (headSpec ws rm).room.cells ≤ R.cells := by rw [show (headSpec ws rm).room.cells = mc from hrc]; exact hp.1
  have h5 : A.slots + (headSpec ws rm).room.slots ≤ R.slots := by rw [show (headSpec ws rm).room.slots = ms from hrs]; exact hp.2.1
  have hPc : Pc a (A.U.calling g mk a) := hblind _ _ _ _ hp.2.2
  obtain ⟨U, Ls, c0, s0⟩ := A
  dsimp only [Pt.U, Pt.locs, Pt.cells, Pt.slots] at h1 h2 h3 h4 h5 X hn hPc ⊢
  obtain ⟨m9, methY, cY, hn9, hmY, hcY, -, hlY, -⟩ := Cond.codeWith_spec h2
  cases Option.some.inj (hn9.symm.trans hn)
  obtain ⟨kY, hkY, -⟩ := className_of_methodNamed hn
  have hinitY : kY.init = .initialized := Cond.initialized_spec (findClass_of_methodNamed hn) hkY h3
  have h : At U g.method c below := by rw [hg]; exact X.here
  have hlocals9 : W9 + (maxL + 11) + (headSpec ws rm).room.locals ≤ R.locals := hlocals
  have happ : (headSpec ws rm).appliesLoose y e.platform (U.calling g mk a) = true :=
    Spec.appliesLoose_calling (g := g) h hdg hn hkY hinitY
      (X.room_calling (g := g) (R' := (headSpec ws rm).room) hsize hmY hcY hframes (by rw [hlY]; omega) h4 h5) h1
  obtain ⟨mid, hmid⟩ := h.above
  have hfr : (U.setTop g).frames = (.java g :: mid) ++ below := by rw [State.frames_setTop' g h.top, hmid]; rfl
  obtain ⟨o, s₂, hsteps, -, hend, hq⟩ := Steps.callFree hM p X.admits X.cas X.clock (acts := []) hfr happ hPc trivial
  have hq' : vx_Q Qc XC mc ms free a (U.calling g mk a) o s₂ := hq
  rw [State.frames_setTop' g h.top] at hend
  obtain ⟨g₀, hg0⟩ := Option.isSome_iff_exists.mp h.top
  obtain ⟨r, hr⟩ := State.topJava?_eq_some.mp hg0
  have hr' : (({ U with heap := s₂.heap, slotsUsed := s₂.slotsUsed } : State).setVm s₂.vm).frames = .java g₀ :: r := hr
  rcases hq' with ⟨hqc, L, hfe, hL⟩ | ⟨q, rfl, E, ce, L, hx, hce, hcv, hcl, hW₂, hsm, hL⟩
  · obtain ⟨⟨v, rfl⟩, hW₂, e2, q2, q3, q4, q5, q6⟩ := id hfe
    have e3 : s₂ = ({ (U.calling g mk a).setFrames s₂.frames with heap := s₂.heap, slotsUsed := s₂.slotsUsed } : State).setVm s₂.vm := by
      have : s₂ = ({ s₂ with vm := (U.calling g mk a).vm } : State).setVm s₂.vm := rfl
      rw [e2] at this
      exact this
    obtain ⟨c₂, i₂, len₂, hc₂, hd₂, hf₂⟩ := hend
    have hW' : U.WarmedH s₂.vm := hW₂
    have hcc : c₂ = c := by
      have h1 : s₂.code? g.method = U.code? g.method := by
        rw [State.code?_eq, State.code?_eq, hW'.alike.method?]
      exact Option.some.inj (hc₂.symm.trans (h1.trans h.code))
    subst hcc
    have hlen : len₂ = len := by rw [hdg] at hd₂; cases hd₂; rfl
    subst hlen
    have hs₂ : s₂ = (({ U with heap := s₂.heap, slotsUsed := s₂.slotsUsed } : State).setVm s₂.vm).setTop { g with pc := g.pc + len₂, stack := v.toList ++ g.stack } := by
      refine e3.trans ?_
      rw [hf₂, State.calling_eq h.top, State.setFrames_setFrames, State.setTop_of_frames _ hr', hr]
      rfl
    have hsame : U.sameButNew ({ U with heap := s₂.heap, slotsUsed := s₂.slotsUsed } : State) L mc ms := by
      refine ⟨?_, q2, q3, q4, q5, q6⟩
      obtain ⟨t, ht, -⟩ := State.frames_cons hr
      show ({ U with heap := s₂.heap, slotsUsed := s₂.slotsUsed } : State) = { U.setFrames U.frames with heap := s₂.heap, slotsUsed := s₂.slotsUsed }
      rw [State.setFrames_self ht]
    subst hg
    refine Or.inl ⟨v, ⟨(({ U with heap := s₂.heap, slotsUsed := s₂.slotsUsed } : State).setVm s₂.vm), Ls ++ L, c0 + mc, s0 + ms⟩,
      ⟨X.admits, X.cas, X.clock, X.frames, X.room, X.hears, X.method, X.code, (X.here.setHeapUsed s₂.heap s₂.slotsUsed).setVm hW'.alike, X.tail, State.WarmedH.trans X.warmed hW', X.limits, X.bytes, X.same.trans (hsame.setVm s.vm)⟩,
      ⟨g, mk, s₂, L, rfl, rfl, hqc, rfl, hL, rfl, rfl⟩, ?_⟩
    show Steps p.tables e below _ ((({ U with heap := s₂.heap, slotsUsed := s₂.slotsUsed } : State).setVm s₂.vm).setTop { g with pc := g.pc + len₂, stack := v.toList ++ g.stack })
    rw [← hs₂]
    exact hsteps
  · obtain ⟨e2, q2, q3, q4, q5, q6⟩ := id hsm
    have e3 : s₂ = ({ (U.calling g mk a).setFrames s₂.frames with heap := s₂.heap, slotsUsed := s₂.slotsUsed } : State).setVm s₂.vm := by
      have : s₂ = ({ s₂ with vm := (U.calling g mk a).vm } : State).setVm s₂.vm := rfl
      rw [e2] at this
      exact this
    have hf₂ : s₂.frames = .throwing q :: .java g :: U.frames.tail := hend
    have hW' : U.WarmedH s₂.vm := hW₂
    have hs₂ : s₂ = ((({ U with heap := s₂.heap, slotsUsed := s₂.slotsUsed } : State).setVm s₂.vm).setTop g).pushFrame (.throwing q) := by
      refine e3.trans ?_
      rw [hf₂, State.calling_eq h.top, State.setFrames_setFrames, State.pushFrame, State.frames_setTop _ hr', State.setTop_of_frames _ hr', State.setFrames_setFrames, hr]
      rfl
    have hsame : U.sameButNew ({ U with heap := s₂.heap, slotsUsed := s₂.slotsUsed } : State) L mc ms := by
      refine ⟨?_, q2, q3, q4, q5, q6⟩
      obtain ⟨t, ht, -⟩ := State.frames_cons hr
      show ({ U with heap := s₂.heap, slotsUsed := s₂.slotsUsed } : State) = { U.setFrames U.frames with heap := s₂.heap, slotsUsed := s₂.slotsUsed }
      rw [State.setFrames_self ht]
    subst hg
    refine Or.inr ⟨q, ⟨(({ U with heap := s₂.heap, slotsUsed := s₂.slotsUsed } : State).setVm s₂.vm), Ls ++ L, c0 + mc, s0 + ms⟩,
      ⟨X.admits, X.cas, X.clock, X.frames, X.room, X.hears, X.method, X.code, (X.here.setHeapUsed s₂.heap s₂.slotsUsed).setVm hW'.alike, X.tail, State.WarmedH.trans X.warmed hW', X.limits, X.bytes, X.same.trans (hsame.setVm s.vm)⟩,
      ⟨g, mk, s₂, L, E, ce, rfl, rfl, hx, hce, hcv, hcl, rfl, hL, rfl, rfl⟩, ?_⟩
    show Steps p.tables e below _ (((({ U with heap := s₂.heap, slotsUsed := s₂.slotsUsed } : State).setVm s₂.vm).setTop g).pushFrame (.throwing q))
    rw [← hs₂]
    exact hsteps
end
variable {p : Program} {l : Launch} {e : Env} {R : Room} {s : State} {m : MethodId} {args : Array Value} {below : List Frame} {meth : Method} {c : Code} {T : State} {H : Heap} {locs : List Loc} {cells slots : Nat}
theorem vx_callVX (X : Stand p l e R s m args below meth c T locs cells slots) (hexec : p.tables.exec = Jvm.exec) {own C : String} {index : Nat} {y : MethodName} {bytes : ByteArray} {maxL : Nat} {ret : Option FieldType} {hh : List (Nat × Nat × Nat × Nat)}
    (hown : s.vm.findClass own = some m.cls) (hlink : (Cond.methodLink own index y).before args s = true) (hinst : (Cond.instanceMethod y).before args s = true) (hsel : (Cond.selects C y y).before args s = true)
    (hcode : (Cond.codeWith y bytes maxL ret hh).before args s = true) (hy : y.cls ≠ "java/lang/invoke/MethodHandle" ∧ y.cls ≠ "java/lang/invoke/VarHandle")
    {W9 : Nat} {Pre : Pt → Array Value → Prop} {Post : Pt → Array Value → Option Value → Pt → Prop} {PostX : Pt → Array Value → Addr → Pt → Prop} (hK : vx_Back l R p e below s args y 3 W9 Pre Post PostX)
    {b : Addr} {cellB : Cell} (hcell : T.heap[b]? = some cellB) (hobj : cellB.vm.isStatics = false) (hcls : s.vm.findClass C = some cellB.cls)
    {g : JFrame} (hg : g.method = m) (hsize : g.locals.size = c.maxLocals) {argsL rest : List Value} (hlen : ∀ sig, parseMethodDescriptor y.desc = some sig → argsL.length = sig.parameters.length)
    (hstack : g.stack = argsL.reverse ++ .ref b :: rest) (hW : 2 * g.monitorRoom + (rest.map fun v => v.category).sum ≤ W9) (hdg : decode c.code g.pc = .ok (.invokevirtual index, 3))
    (hpre : ∀ vm₁, s.WarmedH vm₁ → Pre ⟨T.setVm vm₁, locs, cells, slots⟩ (Value.ref b :: argsL).toArray) :
    (∃ (v : Option Value) (vm₁ : Vm) (B : Pt), s.WarmedH vm₁ ∧ Stand p l e R s m args below meth c B.U B.locs B.cells B.slots ∧ Post ⟨T.setVm vm₁, locs, cells, slots⟩ (Value.ref b :: argsL).toArray v B ∧
      ∀ target, Steps p.tables e below (B.U.setTop { g with pc := g.pc + 3, stack := v.toList ++ rest }) target → Steps p.tables e below (T.setTop g) target) ∨
    (∃ (q : Addr) (vm₁ : Vm) (B : Pt), s.WarmedH vm₁ ∧ Stand p l e R s m args below meth c B.U B.locs B.cells B.slots ∧ PostX ⟨T.setVm vm₁, locs, cells, slots⟩ (Value.ref b :: argsL).toArray q B ∧
      Steps p.tables e below (T.setTop g) ((B.U.setTop { g with stack := rest }).pushFrame (.throwing q))) := by
  obtain ⟨mk, methM, hnamed, hmethM, hstM, habM⟩ := Cond.instanceMethod_spec hinst
  obtain ⟨m8, methM', cM, hn8, hmethM', -, -, -, -, -, -, hsigM⟩ := Cond.codeWith_spec hcode
  cases Option.some.inj (hn8.symm.trans hnamed)
  cases hmethM.symm.trans hmethM'
  obtain ⟨c2, r2, m2, q1, q2, q3, q4, kP, hkP, hkPi⟩ := Cond.selects_spec hsel
  cases hcls.symm.trans q1
  cases (State.methodFound?_of_named hnamed hy).symm.trans q2
  cases hnamed.symm.trans q3
  have hselP : selectMethod e.platform s.vm cellB.cls mk = .method mk := by rw [Launch.admits_selectMethod X.admits]; exact q4
  obtain ⟨vm₁, X₁, hstep₁⟩ := X.invokevirtual hexec hown hlink hnamed hmethM hstM hkP hkPi hy (a := b) (cell := cellB) hcell
    (fun z h => by rw [h] at hobj; cases hobj) hselP hmethM habM hkP hkPi (g := g) hg (argsL := argsL) (rest := rest) (hlen _ hsigM) hstack hdg
  rcases hK m meth c ⟨T.setVm vm₁, locs, cells, slots⟩ { g with stack := rest } (.invokevirtual index) mk (Value.ref b :: argsL).toArray X₁ hg hsize hdg hW (X₁.named hnamed) (hpre vm₁ X₁.warmed) with ⟨v, B, X', hpost, hsteps⟩ | ⟨q, B, X', hpost, hsteps⟩
  · exact Or.inl ⟨v, vm₁, B, X₁.warmed, X', hpost, fun target h => hstep₁ _ fun acts => by rw [doInvoke_state]; exact hsteps.trans h⟩
  · exact Or.inr ⟨q, vm₁, B, X₁.warmed, X', hpost, hstep₁ _ fun acts => by rw [doInvoke_state]; exact hsteps⟩
theorem vx_callSX (X : Stand p l e R s m args below meth c T locs cells slots) (hexec : p.tables.exec = Jvm.exec) {own : String} {index : Nat} {y : MethodName} {bytes : ByteArray} {maxL : Nat} {ret : Option FieldType} {hh : List (Nat × Nat × Nat × Nat)}
    (hown : s.vm.findClass own = some m.cls) (hlink : (Cond.methodLink own index y).before args s = true) (hstat : (Cond.static y).before args s = true) (hinit : (Cond.initialized y.cls).before args s = true)
    (hcode : (Cond.codeWith y bytes maxL ret hh).before args s = true) (hy : y.cls ≠ "java/lang/invoke/MethodHandle" ∧ y.cls ≠ "java/lang/invoke/VarHandle")
    {W9 : Nat} {Pre : Pt → Array Value → Prop} {Post : Pt → Array Value → Option Value → Pt → Prop} {PostX : Pt → Array Value → Addr → Pt → Prop} (hK : vx_Back l R p e below s args y 3 W9 Pre Post PostX)
    {g : JFrame} (hg : g.method = m) (hsize : g.locals.size = c.maxLocals) {argsL rest : List Value} (hlen : ∀ sig, parseMethodDescriptor y.desc = some sig → argsL.length = sig.parameters.length)
    (hstack : g.stack = argsL.reverse ++ rest) (hW : 2 * g.monitorRoom + (rest.map fun v => v.category).sum ≤ W9) (hdg : decode c.code g.pc = .ok (.invokestatic index, 3))
    (hpre : ∀ vm₁, s.WarmedH vm₁ → Pre ⟨T.setVm vm₁, locs, cells, slots⟩ argsL.toArray) :
    (∃ (v : Option Value) (vm₁ : Vm) (B : Pt), s.WarmedH vm₁ ∧ Stand p l e R s m args below meth c B.U B.locs B.cells B.slots ∧ Post ⟨T.setVm vm₁, locs, cells, slots⟩ argsL.toArray v B ∧
      ∀ target, Steps p.tables e below (B.U.setTop { g with pc := g.pc + 3, stack := v.toList ++ rest }) target → Steps p.tables e below (T.setTop g) target) ∨
    (∃ (q : Addr) (vm₁ : Vm) (B : Pt), s.WarmedH vm₁ ∧ Stand p l e R s m args below meth c B.U B.locs B.cells B.slots ∧ PostX ⟨T.setVm vm₁, locs, cells, slots⟩ argsL.toArray q B ∧
      Steps p.tables e below (T.setTop g) ((B.U.setTop { g with stack := rest }).pushFrame (.throwing q))) := by
  obtain ⟨mk, methM, cM, hnamed, hmethM, -, -, -, -, -, -, hsigM⟩ := Cond.codeWith_spec hcode
  have hstatic : methM.isStatic = true := Cond.static_spec hnamed hmethM hstat
  obtain ⟨kP, hkP, -⟩ := className_of_methodNamed hnamed
  have hinitP : kP.init = .initialized := Cond.initialized_spec (findClass_of_methodNamed hnamed) hkP hinit
  obtain ⟨vm₁, X₁, hstep₁⟩ := X.invokestatic hexec hown hlink hnamed hmethM hstatic hkP hinitP hy (g := g) hg (argsL := argsL) (rest := rest) (hlen _ hsigM) hstack hdg
  rcases hK m meth c ⟨T.setVm vm₁, locs, cells, slots⟩ { g with stack := rest } (.invokestatic index) mk argsL.toArray X₁ hg hsize hdg hW (X₁.named hnamed) (hpre vm₁ X₁.warmed) with ⟨v, B, X', hpost, hsteps⟩ | ⟨q, B, X', hpost, hsteps⟩
  · exact Or.inl ⟨v, vm₁, B, X₁.warmed, X', hpost, fun target h => hstep₁ _ fun acts => by rw [doInvoke_state]; exact hsteps.trans h⟩
  · exact Or.inr ⟨q, vm₁, B, X₁.warmed, X', hpost, hstep₁ _ fun acts => by rw [doInvoke_state]; exact hsteps⟩
theorem vx_callVW (X : Stand p l e R s m args below meth c T locs cells slots) (hexec : p.tables.exec = Jvm.exec) {own C : String} {index : Nat} {y : MethodName} {bytes : ByteArray} {maxL : Nat} {ret : Option FieldType} {hh : List (Nat × Nat × Nat × Nat)}
    (hown : s.vm.findClass own = some m.cls) (hlink : (Cond.methodLink own index y).before args s = true) (hinst : (Cond.instanceMethod y).before args s = true) (hsel : (Cond.selects C y y).before args s = true)
    (hcode : (Cond.codeWith y bytes maxL ret hh).before args s = true) (hy : y.cls ≠ "java/lang/invoke/MethodHandle" ∧ y.cls ≠ "java/lang/invoke/VarHandle")
    {W9 : Nat} {Pre : Pt → Array Value → Prop} {Post : Pt → Array Value → Option Value → Pt → Prop} (hK : Back l R p e below s args y 3 W9 Pre Post)
    {b : Addr} {cellB : Cell} (hcell : T.heap[b]? = some cellB) (hobj : cellB.vm.isStatics = false) (hcls : s.vm.findClass C = some cellB.cls)
    {g : JFrame} (hg : g.method = m) (hsize : g.locals.size = c.maxLocals) {argsL rest : List Value} (hlen : ∀ sig, parseMethodDescriptor y.desc = some sig → argsL.length = sig.parameters.length)
    (hstack : g.stack = argsL.reverse ++ .ref b :: rest) (hW : 2 * g.monitorRoom + (rest.map fun v => v.category).sum ≤ W9) (hdg : decode c.code g.pc = .ok (.invokevirtual index, 3))
    (hpre : ∀ vm₁, s.WarmedH vm₁ → Pre ⟨T.setVm vm₁, locs, cells, slots⟩ (Value.ref b :: argsL).toArray) :
    ∃ (v : Option Value) (vm₁ : Vm) (B : Pt), s.WarmedH vm₁ ∧ Stand p l e R s m args below meth c B.U B.locs B.cells B.slots ∧ Post ⟨T.setVm vm₁, locs, cells, slots⟩ (Value.ref b :: argsL).toArray v B ∧
      ∀ target, Steps p.tables e below (B.U.setTop { g with pc := g.pc + 3, stack := v.toList ++ rest }) target → Steps p.tables e below (T.setTop g) target := by
  obtain ⟨mk, methM, hnamed, hmethM, hstM, habM⟩ := Cond.instanceMethod_spec hinst
  obtain ⟨m8, methM', cM, hn8, hmethM', -, -, -, -, -, -, hsigM⟩ := Cond.codeWith_spec hcode
  cases Option.some.inj (hn8.symm.trans hnamed)
  cases hmethM.symm.trans hmethM'
  obtain ⟨c2, r2, m2, q1, q2, q3, q4, kP, hkP, hkPi⟩ := Cond.selects_spec hsel
  cases hcls.symm.trans q1
  cases (State.methodFound?_of_named hnamed hy).symm.trans q2
  cases hnamed.symm.trans q3
  have hselP : selectMethod e.platform s.vm cellB.cls mk = .method mk := by rw [Launch.admits_selectMethod X.admits]; exact q4
  obtain ⟨vm₁, X₁, hstep₁⟩ := X.invokevirtual hexec hown hlink hnamed hmethM hstM hkP hkPi hy (a := b) (cell := cellB) hcell
    (fun z h => by rw [h] at hobj; cases hobj) hselP hmethM habM hkP hkPi (g := g) hg (argsL := argsL) (rest := rest) (hlen _ hsigM) hstack hdg
  obtain ⟨v, B, X', hpost, hsteps⟩ := hK m meth c ⟨T.setVm vm₁, locs, cells, slots⟩ { g with stack := rest } (.invokevirtual index) mk (Value.ref b :: argsL).toArray X₁ hg hsize hdg hW (X₁.named hnamed) (hpre vm₁ X₁.warmed)
  exact ⟨v, vm₁, B, X₁.warmed, X', hpost, fun target h => hstep₁ _ fun acts => by rw [doInvoke_state]; exact hsteps.trans h⟩
abbrev vx_CVW (R : Room) (s : State) (args : Array Value) (own C : String) (index : Nat) (y : MethodName) (bytes : ByteArray) (maxL : Nat) (ret : Option FieldType) (hh : List (Nat × Nat × Nat × Nat)) (ws : List Cond) (rm : Room) (mc ms n : Nat) : Prop :=
  (rm.cells = mc ∧ rm.slots = ms ∧ rm.frames + 1 ≤ R.frames ∧ 8 + (maxL + 11) + rm.locals ≤ R.locals ∧ (∀ w ∈ ws, ∀ (a' : Array Value) (U : State), s.WarmedH U.vm → w.before a' U = true) ∧ Cond.codeWith y bytes maxL ret hh ∈ ws) ∧
  (Cond.codeWith y bytes maxL ret hh).before args s = true ∧ (Cond.initialized y.cls).before args s = true ∧ (y.cls ≠ "java/lang/invoke/MethodHandle" ∧ y.cls ≠ "java/lang/invoke/VarHandle") ∧
  (∀ sig, parseMethodDescriptor y.desc = some sig → n = sig.parameters.length) ∧ (Cond.methodLink own index y).before args s = true ∧ (Cond.instanceMethod y).before args s = true ∧ (Cond.selects C y y).before args s = true
theorem vx_cwVW {own C : String} {index maxL mc ms : Nat} {y : MethodName} {bytes : ByteArray} {ret : Option FieldType} {hh : List (Nat × Nat × Nat × Nat)} {Ts ws ws' : List Cond} {rm : Room} (n : Nat) (ht : ∀ w ∈ Ts, w.before args s = true) (hT : GoodIn Ts (wsV own index C y ws)) (hw : ws = Cond.codeWith y bytes maxL ret hh :: ws') (hrc : rm.cells = mc) (hrs : rm.slots = ms)
    (hd : y.cls = C ∧ y.cls ≠ "java/lang/invoke/MethodHandle" ∧ y.cls ≠ "java/lang/invoke/VarHandle" ∧ (parseMethodDescriptor y.desc).map (fun d => d.parameters.length) = some n) (hR : rm.frames + 1 ≤ R.frames ∧ 8 + (maxL + 11) + rm.locals ≤ R.locals) :
    vx_CVW R s args own C index y bytes maxL ret hh ws rm mc ms n := by
  obtain ⟨hC, hd⟩ := hd
  subst hC
  have ok : ∀ w ∈ wsV own index y.cls y ws, w.before args s = true := fun w h => ht w (hT w h).1
  have hG : GoodIn Ts ws := fun w h => hT w (by unfold wsV; exact List.mem_append_right _ h)
  have hc : Cond.codeWith y bytes maxL ret hh ∈ ws := by rw [hw]; exact List.mem_cons_self
  refine ⟨⟨hrc, hrs, hR.1, hR.2, pay_in ht hG, hc⟩, ht _ (hG _ hc).1, ok _ (by simp [wsV]), ⟨hd.1, hd.2.1⟩, fun sig h => ?_, ok _ (by simp [wsV]), ok _ (by simp [wsV]), ok _ (by simp [wsV])⟩
  have h2 := hd.2.2
  rw [h] at h2
  exact (Option.some.inj h2).symm
theorem vx_runVW {y : MethodName} {bytes cc : ByteArray} {maxL nL mc ms n index : Nat} {ret : Option FieldType} {hh : List (Nat × Nat × Nat × Nat)} {ws : List Cond} {rm : Room} {Pc : Array Value → State → Prop} {Qc : Array Value → State → Outcome → State → Prop} {free : Addr → Prop} {Ts : List Cond} {own C : String} {b : Addr} {As rest : List Value} {g : JFrame}
    (S : CallFix p m c cc nL s args Ts own) (hM : Met l y ws rm Pc Qc mc ms free) (cw : vx_CVW R s args own C index y bytes maxL ret hh ws rm mc ms n) (hp : PreV s H C b Pc As)
    (hg : g.method = m) (hn : As.length = n) (hsize : g.locals.size = nL) (hstack : g.stack = As.reverse ++ .ref b :: rest) (hW : 2 * g.monitorRoom + (rest.map fun v => v.category).sum ≤ 8) (hdg : decode cc g.pc = .ok (.invokevirtual index, 3)) (hf : cells + mc ≤ R.cells ∧ slots + ms ≤ R.slots) :
    va_Run p l e R s m args below meth c H locs cells slots mc ms g rest (Qc (Value.ref b :: As).toArray) free := by
  obtain ⟨⟨hrc, hrs, hfr, hlo, hws, hcw⟩, hcode, hini, hy, hlen, hl, hin, hse⟩ := cw
  have hK : Back l R p e below s args y 3 8 (PreOf R mc ms Pc) (PostOf Qc mc ms free) := va_backW (hh := hh) (bytes := bytes) (maxL := maxL) (ret := ret) hM hp.1 hrc hrs hfr hlo hws hcw (fun a' U hW => word_at hW (Or.inl (by first | rfl | simp [Cond.onTables, Cond.keeps, Cond.steady])) hini)
  obtain ⟨hx, hb, hml, ho, -⟩ := S
  obtain ⟨-, ⟨cellB, hcB, hoB, hclB⟩, hPc⟩ := hp
  intro T hT X
  obtain ⟨v, vm₁, ⟨U', l2, c2, s2⟩, hW₁, X', ⟨g', mk, t, L, e1, e2, hq, h1, hL, h2, h3⟩, st⟩ := vx_callVW X hx (C := C) (hh := hh) (bytes := bytes) (maxL := maxL) (ret := ret) ho hl hin hse hcode hy hK (by rw [hT]; exact hcB) hoB hclB hg (hsize.trans hml.symm) (argsL := As) (rest := rest) (fun sig h => hn.trans (hlen sig h)) hstack hW (by rw [hb]; exact hdg)
    (fun vm₁ hW₁ => ⟨hf.1, hf.2, hPc (T.setVm vm₁) hT hW₁⟩)
  dsimp only [Pt.U, Pt.locs, Pt.cells, Pt.slots] at X' e1 e2 h1 h2 h3 st
  subst h1; subst h2; subst h3
  exact ⟨v, (T.setVm vm₁).calling g' mk (Value.ref b :: As).toArray, t, U', L, hT, X', hL, e1, e2, hq, st⟩
section
variable {y : MethodName} {bytes cc : ByteArray} {maxL nL mc ms n index : Nat} {ret : Option FieldType} {ws : List Cond} {rm : Room} {Pc : Array Value → State → Prop} {Qc : Array Value → State → Outcome → State → Prop} {XC : String → State → State → Prop} {free : Addr → Prop} {Ts : List Cond} {own C : String} {b : Addr} {As rest : List Value} {g : JFrame}
theorem vx_runVX {hh : List (Nat × Nat × Nat × Nat)} (S : CallFix p m c cc nL s args Ts own) (hM : vx_Met l y ws rm Pc Qc XC mc ms free) (cw : vx_CVW R s args own C index y bytes maxL ret hh ws rm mc ms n) (hp : PreV s H C b Pc As)
    (hg : g.method = m) (hn : As.length = n) (hsize : g.locals.size = nL) (hstack : g.stack = As.reverse ++ .ref b :: rest) (hW : 2 * g.monitorRoom + (rest.map fun v => v.category).sum ≤ 8) (hdg : decode cc g.pc = .ok (.invokevirtual index, 3)) (hf : cells + mc ≤ R.cells ∧ slots + ms ≤ R.slots) :
    vx_Run p l e R s m args below meth c H locs cells slots mc ms g rest (Qc (Value.ref b :: As).toArray) XC free := by
  obtain ⟨⟨hrc, hrs, hfr, hlo, hws, hcw⟩, hcode, hini, hy, hlen, hl, hin, hse⟩ := cw
  have hK : vx_Back l R p e below s args y 3 8 (PreOf R mc ms Pc) (PostOf Qc mc ms free) (vx_Post XC mc ms free) := vx_backW (hh := hh) (bytes := bytes) (maxL := maxL) (ret := ret) hM hp.1 hrc hrs hfr hlo hws hcw (fun a' U hW => word_at hW (Or.inl (by first | rfl | simp [Cond.onTables, Cond.keeps, Cond.steady])) hini)
  obtain ⟨hx, hb, hml, ho, -⟩ := S
  obtain ⟨-, ⟨cellB, hcB, hoB, hclB⟩, hPc⟩ := hp
  intro T hT X
  rcases vx_callVX X hx (C := C) (hh := hh) (bytes := bytes) (maxL := maxL) (ret := ret) ho hl hin hse hcode hy hK (by rw [hT]; exact hcB) hoB hclB hg (hsize.trans hml.symm) (argsL := As) (rest := rest) (fun sig h => hn.trans (hlen sig h)) hstack hW (by rw [hb]; exact hdg)
    (fun vm₁ hW₁ => ⟨hf.1, hf.2, hPc (T.setVm vm₁) hT hW₁⟩) with ⟨v, vm₁, ⟨U', l2, c2, s2⟩, hW₁, X', ⟨g', mk, t, L, e1, e2, hq, h1, hL, h2, h3⟩, st⟩ | ⟨q, vm₁, ⟨U', l2, c2, s2⟩, hW₁, X', ⟨g', mk, t, L, E, ce, e1, e2, hq, hce, hcv, hcl, h1, hL, h2, h3⟩, st⟩
  · dsimp only [Pt.U, Pt.locs, Pt.cells, Pt.slots] at X' e1 e2 h1 h2 h3 st
    subst h1; subst h2; subst h3
    exact Or.inl ⟨v, (T.setVm vm₁).calling g' mk (Value.ref b :: As).toArray, t, U', L, hT, X', hL, e1, e2, hq, st⟩
  · dsimp only [Pt.U, Pt.locs, Pt.cells, Pt.slots] at X' e1 e2 h1 h2 h3 st hcl
    subst h1; subst h2; subst h3
    exact Or.inr ⟨q, (T.setVm vm₁).calling g' mk (Value.ref b :: As).toArray, t, U', L, E, ce, hT, X', hL, e1, e2, hq, hce, hcv, vx_cls hW₁ hcl, st⟩
theorem vx_runSX {hh : List (Nat × Nat × Nat × Nat)} (S : CallFix p m c cc nL s args Ts own) (hM : vx_Met l y ws rm Pc Qc XC mc ms free) (cw : vx_CSW R s args own index y bytes maxL ret hh ws rm mc ms n) (hp : PreS s H Pc As)
    (hg : g.method = m) (hn : As.length = n) (hsize : g.locals.size = nL) (hstack : g.stack = As.reverse ++ rest) (hW : 2 * g.monitorRoom + (rest.map fun v => v.category).sum ≤ 8) (hdg : decode cc g.pc = .ok (.invokestatic index, 3)) (hf : cells + mc ≤ R.cells ∧ slots + ms ≤ R.slots) :
    vx_Run p l e R s m args below meth c H locs cells slots mc ms g rest (Qc As.toArray) XC free := by
  obtain ⟨⟨hrc, hrs, hfr, hlo, hws, hcw⟩, hcode, hini, hy, hlen, hl, hstt⟩ := cw
  have hK : vx_Back l R p e below s args y 3 8 (PreOf R mc ms Pc) (PostOf Qc mc ms free) (vx_Post XC mc ms free) := vx_backW (hh := hh) (bytes := bytes) (maxL := maxL) (ret := ret) hM hp.1 hrc hrs hfr hlo hws hcw (fun a' U hW => word_at hW (Or.inl (by first | rfl | simp [Cond.onTables, Cond.keeps, Cond.steady])) hini)
  obtain ⟨hx, hb, hml, ho, -⟩ := S
  intro T hT X
  rcases vx_callSX X hx (hh := hh) (bytes := bytes) (maxL := maxL) (ret := ret) ho hl hstt hini hcode hy hK hg (hsize.trans hml.symm) (argsL := As) (rest := rest) (fun sig h => hn.trans (hlen sig h)) hstack hW (by rw [hb]; exact hdg)
    (fun vm₁ hW₁ => ⟨hf.1, hf.2, hp.2 (T.setVm vm₁) hT hW₁⟩) with ⟨v, vm₁, ⟨U', l2, c2, s2⟩, hW₁, X', ⟨g', mk, t, L, e1, e2, hq, h1, hL, h2, h3⟩, st⟩ | ⟨q, vm₁, ⟨U', l2, c2, s2⟩, hW₁, X', ⟨g', mk, t, L, E, ce, e1, e2, hq, hce, hcv, hcl, h1, hL, h2, h3⟩, st⟩
  · dsimp only [Pt.U, Pt.locs, Pt.cells, Pt.slots] at X' e1 e2 h1 h2 h3 st
    subst h1; subst h2; subst h3
    exact Or.inl ⟨v, (T.setVm vm₁).calling g' mk As.toArray, t, U', L, hT, X', hL, e1, e2, hq, st⟩
  · dsimp only [Pt.U, Pt.locs, Pt.cells, Pt.slots] at X' e1 e2 h1 h2 h3 st hcl
    subst h1; subst h2; subst h3
    exact Or.inr ⟨q, (T.setVm vm₁).calling g' mk As.toArray, t, U', L, E, ce, hT, X', hL, e1, e2, hq, hce, hcv, vx_cls hW₁ hcl, st⟩
end
end VXH
theorem vx_ofWH {l : Launch} {y : MethodName} {ws ws' : List Cond} {rm : Room} {Pc : Array Value → State → Prop} {Qc : Array Value → State → Outcome → State → Prop} {XC : String → State → State → Prop} {mc ms : Nat} {free : Addr → Prop} {cc : ByteArray} {maxL : Nat} {ret : Option FieldType} {hh : List (Nat × Nat × Nat × Nat)}
    (hy : plainName y.cls = true) (hw : ws = Cond.codeWith y cc maxL ret hh :: ws')
    (body : ∀ p e s m args below meth c s₁, BodyLoose p l y (headSpec ws rm) cc maxL ret e s m args below meth c s₁ → c.maxLocals = maxL → Pc args s →
      W p l e (headSpec ws rm).room s m args below meth c s.heap [] 0 0 (vx_MQ below Qc XC args s mc ms free) (entryFrame m args maxL)) : vx_Met l y ws rm Pc Qc XC mc ms free := by
  refine MetFree.of_bodyS (code := cc) (maxLocals := maxL) (ret := ret) hy ?_ ?_
  · intro args s m h hn
    obtain ⟨m9, meth, c, hn9, h1, h2, h3, h4, -, h5, h6, -⟩ := Cond.codeWith_spec (atoms_spec (ws := ws) h _ (by rw [hw]; exact List.mem_cons_self))
    cases hn.symm.trans hn9
    exact ⟨meth, c, h1, h2, h3, h4, h5, h6⟩
  · intro p e s m args below meth c s₁ B hml hP _
    have hh0 : s₁.heap = s.heap := by rw [B.state]; rfl
    obtain ⟨t, a1, o, b1, b2, b3⟩ := body p e s m args below meth c s₁ B hml hP s₁ hh0 (Stand.of_body B)
    exact ⟨t, o, a1, b1, b2, b3⟩
/-! ===== END ===== -/
end
section
/-! ===== BEGIN printed: names, fields, word lists, decode rows ===== -/
def RX0 : String := "WetMosaic$Piece"
def TX0 : u_T := fun k => match k with
  | 0 => ("WetMosaic$Piece", "x", "I", true)
  | 1 => ("WetMosaic$Piece", "y", "I", true)
  | 2 => ("WetMosaic$Piece", "length", "I", true)
  | 3 => ("WetMosaic$Piece", "front", "I", true)
  | 4 => ("WetMosaic$Piece", "back", "I", true)
  | 5 => ("WetMosaic$Piece", "across", "Z", false)
  | 6 => ("WetMosaic$Piece", "showsBack", "Z", false)
  | _ => ("WetMosaic$Piece", "out", "Z", false)
def tyX0 : Nat → FieldType := fun k => match k with
  | 0 => .int
  | 1 => .int
  | 2 => .int
  | 3 => .int
  | 4 => .int
  | 5 => .boolean
  | 6 => .boolean
  | _ => .boolean
abbrev wsX00 : List Cond := u_ws RX0 TX0 8
theorem nmX0 : ∀ a, a < 8 → ∀ b, b < 8 → a ≠ b → (TX0 a).2.1 ≠ (TX0 b).2.1 := by decide +kernel
theorem tyX0_ok : ∀ k, k < 8 → parseFieldDescriptor (TX0 k).2.2.1 = some (tyX0 k) := by decide +kernel
abbrev cX0_init : ByteArray := prog_2_method_1_code
def yX0_init : MethodName := ⟨RX0, "<init>", "(IIIZII)V"⟩
abbrev cX0_shownColour : ByteArray := prog_2_method_2_code
def yX0_shownColour : MethodName := ⟨RX0, "shownColour", "()I"⟩
abbrev cX0_otherColour : ByteArray := prog_2_method_3_code
def yX0_otherColour : MethodName := ⟨RX0, "otherColour", "()I"⟩
abbrev cX0_cellAt : ByteArray := prog_2_method_4_code
def yX0_cellAt : MethodName := ⟨RX0, "cellAt", "(I)I"⟩
def RX1 : String := "WetMosaic"
def TX1 : u_T := fun k => match k with
  | 0 => ("WetMosaic", "wet", "[I", true)
  | 1 => ("WetMosaic", "cover", "[I", true)
  | 2 => ("WetMosaic", "sun", "[I", true)
  | 3 => ("WetMosaic", "pieces", "[LWetMosaic$Piece;", true)
  | 4 => ("WetMosaic", "pressed", "I", false)
  | 5 => ("WetMosaic", "hour", "I", false)
  | 6 => ("WetMosaic", "foreseen", "[I", true)
  | 7 => ("WetMosaic", "marks", "[I", true)
  | _ => ("WetMosaic", "found", "[I", true)
def tyX1 : Nat → FieldType := fun k => match k with
  | 0 => .array .int
  | 1 => .array .int
  | 2 => .array .int
  | 3 => .array (.object "WetMosaic$Piece")
  | 4 => .int
  | 5 => .int
  | 6 => .array .int
  | 7 => .array .int
  | _ => .array .int
abbrev wsX10 : List Cond := u_ws RX1 TX1 9
theorem nmX1 : ∀ a, a < 9 → ∀ b, b < 9 → a ≠ b → (TX1 a).2.1 ≠ (TX1 b).2.1 := by decide +kernel
theorem tyX1_ok : ∀ k, k < 9 → parseFieldDescriptor (TX1 k).2.2.1 = some (tyX1 k) := by decide +kernel
abbrev cX1_init : ByteArray := prog_1_method_1_code
def yX1_init : MethodName := ⟨RX1, "<init>", "()V"⟩
abbrev cX1_spread : ByteArray := prog_1_method_2_code
def yX1_spread : MethodName := ⟨RX1, "spread", "(IIII)I"⟩
abbrev cX1_setSun : ByteArray := prog_1_method_3_code
def yX1_setSun : MethodName := ⟨RX1, "setSun", "(II)I"⟩
abbrev cX1_press : ByteArray := prog_1_method_4_code
def yX1_press : MethodName := ⟨RX1, "press", "(IIIZII)I"⟩
abbrev cX1_flip : ByteArray := prog_1_method_5_code
def yX1_flip : MethodName := ⟨RX1, "flip", "(I)I"⟩
abbrev cX1_turn : ByteArray := prog_1_method_6_code
def yX1_turn : MethodName := ⟨RX1, "turn", "(I)I"⟩
abbrev cX1_take : ByteArray := prog_1_method_7_code
def yX1_take : MethodName := ⟨RX1, "take", "(I)Z"⟩
abbrev cX1_cell : ByteArray := prog_1_method_8_code
def yX1_cell : MethodName := ⟨RX1, "cell", "(III)I"⟩
abbrev cX1_piece : ByteArray := prog_1_method_9_code
def yX1_piece : MethodName := ⟨RX1, "piece", "(II)I"⟩
abbrev cX1_count : ByteArray := prog_1_method_10_code
def yX1_count : MethodName := ⟨RX1, "count", "(I)I"⟩
abbrev cX1_off : ByteArray := prog_1_method_11_code
def yX1_off : MethodName := ⟨RX1, "off", "(III)I"⟩
abbrev cX1_advise : ByteArray := prog_1_method_12_code
def yX1_advise : MethodName := ⟨RX1, "advise", "(III)I"⟩
abbrev cX1_mends : ByteArray := prog_1_method_13_code
def yX1_mends : MethodName := ⟨RX1, "mends", "(IIZ)I"⟩
abbrev cX1_gap : ByteArray := prog_1_method_14_code
def yX1_gap : MethodName := ⟨RX1, "gap", "(II)I"⟩
abbrev cX1_pass : ByteArray := prog_1_method_15_code
def yX1_pass : MethodName := ⟨RX1, "pass", "(I)I"⟩
abbrev cX1_loose : ByteArray := prog_1_method_16_code
def yX1_loose : MethodName := ⟨RX1, "loose", "(I)I"⟩
abbrev cX1_dry : ByteArray := prog_1_method_17_code
def yX1_dry : MethodName := ⟨RX1, "dry", "()I"⟩
abbrev cX1_share : ByteArray := prog_1_method_18_code
def yX1_share : MethodName := ⟨RX1, "share", "()D"⟩
abbrev cX1_digest : ByteArray := prog_1_method_19_code
def yX1_digest : MethodName := ⟨RX1, "digest", "()J"⟩
abbrev cX1_within : ByteArray := prog_1_method_20_code
def yX1_within : MethodName := ⟨RX1, "within", "(III)Z"⟩
abbrev cX1_isOnWall : ByteArray := prog_1_method_21_code
def yX1_isOnWall : MethodName := ⟨RX1, "isOnWall", "(II)Z"⟩
abbrev cX1_isColour : ByteArray := prog_1_method_22_code
def yX1_isColour : MethodName := ⟨RX1, "isColour", "(I)Z"⟩
abbrev cX1_refuseOutside : ByteArray := prog_1_method_23_code
def yX1_refuseOutside : MethodName := ⟨RX1, "refuseOutside", "(II)V"⟩
abbrev cX1_refuseNoPattern : ByteArray := prog_1_method_24_code
def yX1_refuseNoPattern : MethodName := ⟨RX1, "refuseNoPattern", "(III)V"⟩
abbrev cX1_cellOf : ByteArray := prog_1_method_25_code
def yX1_cellOf : MethodName := ⟨RX1, "cellOf", "(II)I"⟩
abbrev cX1_at : ByteArray := prog_1_method_26_code
def yX1_at : MethodName := ⟨RX1, "at", "([II)I"⟩
abbrev cX1_put : ByteArray := prog_1_method_27_code
def yX1_put : MethodName := ⟨RX1, "put", "([III)V"⟩
abbrev cX1_cellsFrom : ByteArray := prog_1_method_28_code
def yX1_cellsFrom : MethodName := ⟨RX1, "cellsFrom", "([II)I"⟩
abbrev cX1_find : ByteArray := prog_1_method_29_code
def yX1_find : MethodName := ⟨RX1, "find", "(I)LWetMosaic$Piece;"⟩
abbrev cX1_isLoose : ByteArray := prog_1_method_30_code
def yX1_isLoose : MethodName := ⟨RX1, "isLoose", "(LWetMosaic$Piece;[I)Z"⟩
abbrev cX1_hasRoom : ByteArray := prog_1_method_31_code
def yX1_hasRoom : MethodName := ⟨RX1, "hasRoom", "(IIIZI)Z"⟩
abbrev cX1_isFree : ByteArray := prog_1_method_32_code
def yX1_isFree : MethodName := ⟨RX1, "isFree", "(II)Z"⟩
abbrev cX1_setCover : ByteArray := prog_1_method_33_code
def yX1_setCover : MethodName := ⟨RX1, "setCover", "(LWetMosaic$Piece;I)V"⟩
abbrev cX1_removeMortar : ByteArray := prog_1_method_34_code
def yX1_removeMortar : MethodName := ⟨RX1, "removeMortar", "(LWetMosaic$Piece;)V"⟩
abbrev cX1_piecesIn : ByteArray := prog_1_method_35_code
def yX1_piecesIn : MethodName := ⟨RX1, "piecesIn", "()I"⟩
abbrev cX1_loosePieces : ByteArray := prog_1_method_36_code
def yX1_loosePieces : MethodName := ⟨RX1, "loosePieces", "()I"⟩
abbrev cX1_colourAt : ByteArray := prog_1_method_37_code
def yX1_colourAt : MethodName := ⟨RX1, "colourAt", "(I)I"⟩
abbrev cX1_cellFact : ByteArray := prog_1_method_38_code
def yX1_cellFact : MethodName := ⟨RX1, "cellFact", "(II)I"⟩
abbrev cX1_pieceFact : ByteArray := prog_1_method_39_code
def yX1_pieceFact : MethodName := ⟨RX1, "pieceFact", "(LWetMosaic$Piece;I)I"⟩
abbrev cX1_countFact : ByteArray := prog_1_method_40_code
def yX1_countFact : MethodName := ⟨RX1, "countFact", "(I)I"⟩
abbrev cX1_fits : ByteArray := prog_1_method_41_code
def yX1_fits : MethodName := ⟨RX1, "fits", "(IIIII)Z"⟩
abbrev cX1_cellsOff : ByteArray := prog_1_method_42_code
def yX1_cellsOff : MethodName := ⟨RX1, "cellsOff", "(III)I"⟩
abbrev cX1_cellsOffFlipped : ByteArray := prog_1_method_43_code
def yX1_cellsOffFlipped : MethodName := ⟨RX1, "cellsOffFlipped", "(LWetMosaic$Piece;III)I"⟩
abbrev cX1_clearMarks : ByteArray := prog_1_method_44_code
def yX1_clearMarks : MethodName := ⟨RX1, "clearMarks", "()V"⟩
abbrev cX1_gaps : ByteArray := prog_1_method_45_code
def yX1_gaps : MethodName := ⟨RX1, "gaps", "()I"⟩
abbrev cX1_markGap : ByteArray := prog_1_method_46_code
def yX1_markGap : MethodName := ⟨RX1, "markGap", "(II)I"⟩
abbrev cX1_reach : ByteArray := prog_1_method_47_code
def yX1_reach : MethodName := ⟨RX1, "reach", "(III)I"⟩
abbrev cX1_piecesForMarks : ByteArray := prog_1_method_48_code
def yX1_piecesForMarks : MethodName := ⟨RX1, "piecesForMarks", "(Z)I"⟩
abbrev cX1_dryOneHour : ByteArray := prog_1_method_49_code
def yX1_dryOneHour : MethodName := ⟨RX1, "dryOneHour", "([II)V"⟩
def RX2 : String := "WetMosaicModel$State"
def TX2 : u_T := fun k => match k with
  | 0 => ("WetMosaicModel$State", "hour", "I", false)
  | 1 => ("WetMosaicModel$State", "wet", "[I", true)
  | _ => ("WetMosaicModel$State", "this$0", "LWetMosaicModel;", true)
def tyX2 : Nat → FieldType := fun k => match k with
  | 0 => .int
  | 1 => .array .int
  | _ => .object "WetMosaicModel"
abbrev wsX20 : List Cond := u_ws RX2 TX2 3
theorem nmX2 : ∀ a, a < 3 → ∀ b, b < 3 → a ≠ b → (TX2 a).2.1 ≠ (TX2 b).2.1 := by decide +kernel
theorem tyX2_ok : ∀ k, k < 3 → parseFieldDescriptor (TX2 k).2.2.1 = some (tyX2 k) := by decide +kernel
abbrev cX2_init : ByteArray := prog_5_method_1_code
def yX2_init : MethodName := ⟨RX2, "<init>", "(LWetMosaicModel;)V"⟩
abbrev cX2_become : ByteArray := prog_5_method_2_code
def yX2_become : MethodName := ⟨RX2, "become", "(LWetMosaicModel$State;)V"⟩
abbrev cX2_pass : ByteArray := prog_5_method_3_code
def yX2_pass : MethodName := ⟨RX2, "pass", "()V"⟩
abbrev cX2_wetOnes : ByteArray := prog_5_method_4_code
def yX2_wetOnes : MethodName := ⟨RX2, "wetOnes", "()I"⟩
abbrev cX2_isLoose : ByteArray := prog_5_method_5_code
def yX2_isLoose : MethodName := ⟨RX2, "isLoose", "(I)Z"⟩
def RX3 : String := "WetMosaicModel"
def TX3 : u_T := fun k => match k with
  | 0 => ("WetMosaicModel", "thrown", "I", false)
  | 1 => ("WetMosaicModel", "pieces", "I", false)
  | 2 => ("WetMosaicModel", "first", "[I", true)
  | 3 => ("WetMosaicModel", "length", "[I", true)
  | 4 => ("WetMosaicModel", "across", "[I", true)
  | 5 => ("WetMosaicModel", "seen", "[I", true)
  | 6 => ("WetMosaicModel", "hidden", "[I", true)
  | 7 => ("WetMosaicModel", "isOut", "[I", true)
  | 8 => ("WetMosaicModel", "cover", "[I", true)
  | 9 => ("WetMosaicModel", "sun", "[I", true)
  | 10 => ("WetMosaicModel", "row", "[I", true)
  | 11 => ("WetMosaicModel", "found", "[I", true)
  | 12 => ("WetMosaicModel", "s", "LWetMosaicModel$State;", true)
  | _ => ("WetMosaicModel", "ahead", "LWetMosaicModel$State;", true)
def tyX3 : Nat → FieldType := fun k => match k with
  | 0 => .int
  | 1 => .int
  | 2 => .array .int
  | 3 => .array .int
  | 4 => .array .int
  | 5 => .array .int
  | 6 => .array .int
  | 7 => .array .int
  | 8 => .array .int
  | 9 => .array .int
  | 10 => .array .int
  | 11 => .array .int
  | 12 => .object "WetMosaicModel$State"
  | _ => .object "WetMosaicModel$State"
abbrev wsX30 : List Cond := u_ws RX3 TX3 14
theorem nmX3 : ∀ a, a < 14 → ∀ b, b < 14 → a ≠ b → (TX3 a).2.1 ≠ (TX3 b).2.1 := by decide +kernel
theorem tyX3_ok : ∀ k, k < 14 → parseFieldDescriptor (TX3 k).2.2.1 = some (tyX3 k) := by decide +kernel
abbrev cX3_init : ByteArray := prog_4_method_1_code
def yX3_init : MethodName := ⟨RX3, "<init>", "()V"⟩
abbrev cX3_thrown : ByteArray := prog_4_method_2_code
def yX3_thrown : MethodName := ⟨RX3, "thrown", "()I"⟩
abbrev cX3_no : ByteArray := prog_4_method_3_code
def yX3_no : MethodName := ⟨RX3, "no", "(I)I"⟩
abbrev cX3_isIn : ByteArray := prog_4_method_4_code
def yX3_isIn : MethodName := ⟨RX3, "isIn", "(III)Z"⟩
abbrev cX3_isCell : ByteArray := prog_4_method_5_code
def yX3_isCell : MethodName := ⟨RX3, "isCell", "(II)Z"⟩
abbrev cX3_isColour : ByteArray := prog_4_method_6_code
def yX3_isColour : MethodName := ⟨RX3, "isColour", "(I)Z"⟩
abbrev cX3_isPiece : ByteArray := prog_4_method_7_code
def yX3_isPiece : MethodName := ⟨RX3, "isPiece", "(I)Z"⟩
abbrev cX3_spread : ByteArray := prog_4_method_8_code
def yX3_spread : MethodName := ⟨RX3, "spread", "(IIII)I"⟩
abbrev cX3_setSun : ByteArray := prog_4_method_9_code
def yX3_setSun : MethodName := ⟨RX3, "setSun", "(II)I"⟩
abbrev cX3_canLie : ByteArray := prog_4_method_10_code
def yX3_canLie : MethodName := ⟨RX3, "canLie", "(IIZI)Z"⟩
abbrev cX3_coverBy : ByteArray := prog_4_method_11_code
def yX3_coverBy : MethodName := ⟨RX3, "coverBy", "(II)V"⟩
abbrev cX3_change : ByteArray := prog_4_method_12_code
def yX3_change : MethodName := ⟨RX3, "change", "(IZ)V"⟩
abbrev cX3_press : ByteArray := prog_4_method_13_code
def yX3_press : MethodName := ⟨RX3, "press", "(IIIZII)I"⟩
abbrev cX3_swap : ByteArray := prog_4_method_14_code
def yX3_swap : MethodName := ⟨RX3, "swap", "(I)V"⟩
abbrev cX3_flip : ByteArray := prog_4_method_15_code
def yX3_flip : MethodName := ⟨RX3, "flip", "(I)I"⟩
abbrev cX3_turn : ByteArray := prog_4_method_16_code
def yX3_turn : MethodName := ⟨RX3, "turn", "(I)I"⟩
abbrev cX3_take : ByteArray := prog_4_method_17_code
def yX3_take : MethodName := ⟨RX3, "take", "(I)Z"⟩
abbrev cX3_shown : ByteArray := prog_4_method_18_code
def yX3_shown : MethodName := ⟨RX3, "shown", "(I)I"⟩
abbrev cX3_cellTold : ByteArray := prog_4_method_19_code
def yX3_cellTold : MethodName := ⟨RX3, "cellTold", "(II)I"⟩
abbrev cX3_cell : ByteArray := prog_4_method_20_code
def yX3_cell : MethodName := ⟨RX3, "cell", "(III)I"⟩
abbrev cX3_pieceTold : ByteArray := prog_4_method_21_code
def yX3_pieceTold : MethodName := ⟨RX3, "pieceTold", "(II)I"⟩
abbrev cX3_piece : ByteArray := prog_4_method_22_code
def yX3_piece : MethodName := ⟨RX3, "piece", "(II)I"⟩
abbrev cX3_looseOnes : ByteArray := prog_4_method_23_code
def yX3_looseOnes : MethodName := ⟨RX3, "looseOnes", "()I"⟩
abbrev cX3_covered : ByteArray := prog_4_method_24_code
def yX3_covered : MethodName := ⟨RX3, "covered", "()I"⟩
abbrev cX3_beside : ByteArray := prog_4_method_25_code
def yX3_beside : MethodName := ⟨RX3, "beside", "(II)I"⟩
abbrev cX3_clear : ByteArray := prog_4_method_26_code
def yX3_clear : MethodName := ⟨RX3, "clear", "()V"⟩
abbrev cX3_fill : ByteArray := prog_4_method_27_code
def yX3_fill : MethodName := ⟨RX3, "fill", "(I)I"⟩
abbrev cX3_gaps : ByteArray := prog_4_method_28_code
def yX3_gaps : MethodName := ⟨RX3, "gaps", "()I"⟩
abbrev cX3_counted : ByteArray := prog_4_method_29_code
def yX3_counted : MethodName := ⟨RX3, "counted", "(I)I"⟩
abbrev cX3_count : ByteArray := prog_4_method_30_code
def yX3_count : MethodName := ⟨RX3, "count", "(I)I"⟩
abbrev cX3_fits : ByteArray := prog_4_method_31_code
def yX3_fits : MethodName := ⟨RX3, "fits", "(IIII)Z"⟩
abbrev cX3_offBy : ByteArray := prog_4_method_32_code
def yX3_offBy : MethodName := ⟨RX3, "offBy", "(III)I"⟩
abbrev cX3_isPattern : ByteArray := prog_4_method_33_code
def yX3_isPattern : MethodName := ⟨RX3, "isPattern", "(III)Z"⟩
abbrev cX3_off : ByteArray := prog_4_method_34_code
def yX3_off : MethodName := ⟨RX3, "off", "(III)I"⟩
abbrev cX3_advise : ByteArray := prog_4_method_35_code
def yX3_advise : MethodName := ⟨RX3, "advise", "(III)I"⟩
abbrev cX3_mends : ByteArray := prog_4_method_36_code
def yX3_mends : MethodName := ⟨RX3, "mends", "(IIZ)I"⟩
abbrev cX3_gap : ByteArray := prog_4_method_37_code
def yX3_gap : MethodName := ⟨RX3, "gap", "(II)I"⟩
abbrev cX3_pass : ByteArray := prog_4_method_38_code
def yX3_pass : MethodName := ⟨RX3, "pass", "(I)I"⟩
abbrev cX3_loose : ByteArray := prog_4_method_39_code
def yX3_loose : MethodName := ⟨RX3, "loose", "(I)I"⟩
abbrev cX3_dry : ByteArray := prog_4_method_40_code
def yX3_dry : MethodName := ⟨RX3, "dry", "()I"⟩
abbrev cX3_share : ByteArray := prog_4_method_41_code
def yX3_share : MethodName := ⟨RX3, "share", "()D"⟩
abbrev cX3_digest : ByteArray := prog_4_method_42_code
def yX3_digest : MethodName := ⟨RX3, "digest", "()J"⟩
def RJ9 : String := "java/lang/Math"
def TJ9 : u_T := fun k => match k with
  | _ => ("", "", "", false)
def tyJ9 : Nat → FieldType := fun k => match k with
  | _ => .int
abbrev wsJ90 : List Cond := u_ws RJ9 TJ9 0
theorem nmJ9 : ∀ a, a < 0 → ∀ b, b < 0 → a ≠ b → (TJ9 a).2.1 ≠ (TJ9 b).2.1 := by decide +kernel
theorem tyJ9_ok : ∀ k, k < 0 → parseFieldDescriptor (TJ9 k).2.2.1 = some (tyJ9 k) := by decide +kernel
abbrev cJ9_floorMod_7cf53 : ByteArray := prog_10_method_50_code
def yJ9_floorMod_7cf53 : MethodName := ⟨RJ9, "floorMod", "(II)I"⟩
abbrev cJ9_max_7cf53 : ByteArray := prog_10_method_65_code
def yJ9_max_7cf53 : MethodName := ⟨RJ9, "max", "(II)I"⟩
def RJ0 : String := "java/lang/String"
def TJ0 : u_T := fun k => match k with
  | _ => ("", "", "", false)
def tyJ0 : Nat → FieldType := fun k => match k with
  | _ => .int
abbrev wsJ00 : List Cond := u_ws RJ0 TJ0 0
theorem nmJ0 : ∀ a, a < 0 → ∀ b, b < 0 → a ≠ b → (TJ0 a).2.1 ≠ (TJ0 b).2.1 := by decide +kernel
theorem tyJ0_ok : ∀ k, k < 0 → parseFieldDescriptor (TJ0 k).2.2.1 = some (tyJ0 k) := by decide +kernel
def RJ10 : String := "java/lang/System"
def TJ10 : u_T := fun k => match k with
  | _ => ("", "", "", false)
def tyJ10 : Nat → FieldType := fun k => match k with
  | _ => .int
abbrev wsJ100 : List Cond := u_ws RJ10 TJ10 0
theorem nmJ10 : ∀ a, a < 0 → ∀ b, b < 0 → a ≠ b → (TJ10 a).2.1 ≠ (TJ10 b).2.1 := by decide +kernel
theorem tyJ10_ok : ∀ k, k < 0 → parseFieldDescriptor (TJ10 k).2.2.1 = some (tyJ10 k) := by decide +kernel
def RL : String := "WetMosaicLaw"
abbrev cL_spread : ByteArray := method_3_code
def yL_spread : MethodName := ⟨RL, "spread", "(LWetMosaic;IIII[J)I"⟩
abbrev cL_setSun : ByteArray := method_4_code
def yL_setSun : MethodName := ⟨RL, "setSun", "(LWetMosaic;II[J)I"⟩
abbrev cL_press : ByteArray := method_5_code
def yL_press : MethodName := ⟨RL, "press", "(LWetMosaic;IIIZII[J)I"⟩
abbrev cL_flip : ByteArray := method_6_code
def yL_flip : MethodName := ⟨RL, "flip", "(LWetMosaic;I[J)I"⟩
abbrev cL_turn : ByteArray := method_7_code
def yL_turn : MethodName := ⟨RL, "turn", "(LWetMosaic;I[J)I"⟩
abbrev cL_take : ByteArray := method_8_code
def yL_take : MethodName := ⟨RL, "take", "(LWetMosaic;I[J)I"⟩
abbrev cL_cell : ByteArray := method_9_code
def yL_cell : MethodName := ⟨RL, "cell", "(LWetMosaic;III[J)I"⟩
abbrev cL_piece : ByteArray := method_10_code
def yL_piece : MethodName := ⟨RL, "piece", "(LWetMosaic;II[J)I"⟩
abbrev cL_count : ByteArray := method_11_code
def yL_count : MethodName := ⟨RL, "count", "(LWetMosaic;I[J)I"⟩
abbrev cL_off : ByteArray := method_12_code
def yL_off : MethodName := ⟨RL, "off", "(LWetMosaic;III[J)I"⟩
abbrev cL_advise : ByteArray := method_13_code
def yL_advise : MethodName := ⟨RL, "advise", "(LWetMosaic;III[J)I"⟩
abbrev cL_mends : ByteArray := method_14_code
def yL_mends : MethodName := ⟨RL, "mends", "(LWetMosaic;IIZ[J)I"⟩
abbrev cL_gap : ByteArray := method_15_code
def yL_gap : MethodName := ⟨RL, "gap", "(LWetMosaic;II[J)I"⟩
abbrev cL_pass : ByteArray := method_16_code
def yL_pass : MethodName := ⟨RL, "pass", "(LWetMosaic;I[J)I"⟩
abbrev cL_loose : ByteArray := method_17_code
def yL_loose : MethodName := ⟨RL, "loose", "(LWetMosaic;I[J)I"⟩
abbrev cL_law : ByteArray := code
def yL_law : MethodName := ⟨RL, "law", "([I)Z"⟩
def wsX0_init : List Cond := .code yX0_init cX0_init 7 none :: ([.methodLink RX0 1 objectInit, .instanceMethod objectInit, .code objectInit ⟨#[0xb1]⟩ 1 none, .fieldLink RX0 7 "WetMosaic$Piece" "x" "I", .fieldLink RX0 13 "WetMosaic$Piece" "y" "I", .fieldLink RX0 16 "WetMosaic$Piece" "length" "I", .fieldLink RX0 19 "WetMosaic$Piece" "across" "Z", .fieldLink RX0 23 "WetMosaic$Piece" "front" "I", .fieldLink RX0 26 "WetMosaic$Piece" "back" "I"] ++ wsX00)
def wsX0_shownColour : List Cond := .code yX0_shownColour cX0_shownColour 1 (some .int) :: ([.fieldLink RX0 29 "WetMosaic$Piece" "showsBack" "Z", .fieldLink RX0 26 "WetMosaic$Piece" "back" "I", .fieldLink RX0 23 "WetMosaic$Piece" "front" "I"] ++ wsX00)
def wsX0_otherColour : List Cond := .code yX0_otherColour cX0_otherColour 1 (some .int) :: ([.fieldLink RX0 29 "WetMosaic$Piece" "showsBack" "Z", .fieldLink RX0 23 "WetMosaic$Piece" "front" "I", .fieldLink RX0 26 "WetMosaic$Piece" "back" "I"] ++ wsX00)
def wsX1_cellOf : List Cond := .code yX1_cellOf cX1_cellOf 2 (some .int) :: ([])
def wsX0_cellAt : List Cond := .code yX0_cellAt cX0_cellAt 2 (some .int) :: ([.fieldLink RX0 19 "WetMosaic$Piece" "across" "Z", .fieldLink RX0 7 "WetMosaic$Piece" "x" "I", .fieldLink RX0 13 "WetMosaic$Piece" "y" "I", .static yX1_cellOf, .initialized RX1, .code yX1_cellOf cX1_cellOf 2 (some .int)] ++ wsX00)
def wsX1_init : List Cond := .code yX1_init cX1_init 2 none :: ([.methodLink RX1 1 objectInit, .instanceMethod objectInit, .code objectInit ⟨#[0xb1]⟩ 1 none, .arrayClass .int, .fieldLink RX1 9 "WetMosaic" "wet" "[I", .fieldLink RX1 13 "WetMosaic" "cover" "[I", .fieldLink RX1 16 "WetMosaic" "sun" "[I", .classLink RX1 19 RX0, .fieldLink RX1 21 "WetMosaic" "pieces" "[LWetMosaic$Piece;", .fieldLink RX1 25 "WetMosaic" "foreseen" "[I", .fieldLink RX1 28 "WetMosaic" "marks" "[I", .fieldLink RX1 31 "WetMosaic" "found" "[I"] ++ wsX10)
def wsX1_within : List Cond := .code yX1_within cX1_within 3 (some .boolean) :: ([])
def wsX1_isOnWall : List Cond := .code yX1_isOnWall cX1_isOnWall 2 (some .boolean) :: ([.methodLink RX1 38 yX1_within, .static yX1_within, .initialized RX1, .code yX1_within cX1_within 3 (some .boolean)])
def wsX1_refuseOutside : List Cond := .code yX1_refuseOutside cX1_refuseOutside 2 none :: ([.classLink RX1 61 "java/lang/IndexOutOfBoundsException", .initialized "java/lang/IndexOutOfBoundsException", .methodLink RX1 206 yX1_isOnWall, .static yX1_isOnWall, .initialized RX1, .code yX1_isOnWall cX1_isOnWall 2 (some .boolean), .methodLink RX1 38 yX1_within, .static yX1_within, .code yX1_within cX1_within 3 (some .boolean)] ++ (vx_atS RX1 65 "java/lang/IndexOutOfBoundsException" ["java/lang/RuntimeException", "java/lang/Exception"]).filter goodWord)
def wsX1_at : List Cond := .code yX1_at cX1_at 2 (some .int) :: ([.methodLink RX1 38 yX1_within, .static yX1_within, .initialized RX1, .code yX1_within cX1_within 3 (some .boolean)])
def wsX1_put : List Cond := .code yX1_put cX1_put 3 none :: ([.methodLink RX1 38 yX1_within, .static yX1_within, .initialized RX1, .code yX1_within cX1_within 3 (some .boolean)])
def wsX1_spread_r1 : List Cond := [Cond.classLink RX1 42 "java/lang/IllegalArgumentException", Cond.initialized "java/lang/IllegalArgumentException", Cond.fieldLink RX1 13 "WetMosaic" "cover" "[I", Cond.fieldLink RX1 9 "WetMosaic" "wet" "[I", Cond.methodLink RX1 34 yX1_refuseOutside, Cond.static yX1_refuseOutside, Cond.initialized RX1, Cond.code yX1_refuseOutside cX1_refuseOutside 2 none, Cond.classLink RX1 61 "java/lang/IndexOutOfBoundsException", Cond.initialized "java/lang/IndexOutOfBoundsException", Cond.methodLink RX1 206 yX1_isOnWall, Cond.static yX1_isOnWall, Cond.code yX1_isOnWall cX1_isOnWall 2 (some .boolean), Cond.methodLink RX1 38 yX1_within, Cond.static yX1_within, Cond.code yX1_within cX1_within 3 (some .boolean), Cond.methodLink RX1 49 yX1_cellOf, Cond.static yX1_cellOf, Cond.code yX1_cellOf cX1_cellOf 2 (some .int), Cond.methodLink RX1 53 yX1_at, Cond.static yX1_at, Cond.code yX1_at cX1_at 2 (some .int), Cond.methodLink RX1 57 yX1_put, Cond.static yX1_put]
def wsX1_spread_r2 : List Cond := [Cond.code yX1_put cX1_put 3 none]
def wsX1_spread : List Cond := .code yX1_spread cX1_spread 9 (some .int) :: ((wsX1_spread_r1 ++ wsX1_spread_r2) ++ wsX10 ++ (vx_atS RX1 46 "java/lang/IllegalArgumentException" ["java/lang/RuntimeException", "java/lang/Exception"]).filter goodWord ++ (vx_atS RX1 65 "java/lang/IndexOutOfBoundsException" ["java/lang/RuntimeException", "java/lang/Exception"]).filter goodWord)
def wsX1_setSun : List Cond := .code yX1_setSun cX1_setSun 4 (some .int) :: ([.classLink RX1 61 "java/lang/IndexOutOfBoundsException", .initialized "java/lang/IndexOutOfBoundsException", .classLink RX1 42 "java/lang/IllegalArgumentException", .initialized "java/lang/IllegalArgumentException", .fieldLink RX1 16 "WetMosaic" "sun" "[I", .methodLink RX1 38 yX1_within, .static yX1_within, .initialized RX1, .code yX1_within cX1_within 3 (some .boolean), .methodLink RX1 53 yX1_at, .static yX1_at, .code yX1_at cX1_at 2 (some .int), .methodLink RX1 57 yX1_put, .static yX1_put, .code yX1_put cX1_put 3 none] ++ wsX10 ++ (vx_atS RX1 65 "java/lang/IndexOutOfBoundsException" ["java/lang/RuntimeException", "java/lang/Exception"]).filter goodWord ++ (vx_atS RX1 46 "java/lang/IllegalArgumentException" ["java/lang/RuntimeException", "java/lang/Exception"]).filter goodWord)
def wsX1_isColour : List Cond := .code yX1_isColour cX1_isColour 1 (some .boolean) :: ([.methodLink RX1 38 yX1_within, .static yX1_within, .initialized RX1, .code yX1_within cX1_within 3 (some .boolean)])
def wsX1_isFree : List Cond := .code yX1_isFree cX1_isFree 4 (some .boolean) :: ([.fieldLink RX1 13 "WetMosaic" "cover" "[I", .fieldLink RX1 9 "WetMosaic" "wet" "[I", .methodLink RX1 53 yX1_at, .static yX1_at, .initialized RX1, .code yX1_at cX1_at 2 (some .int), .methodLink RX1 38 yX1_within, .static yX1_within, .code yX1_within cX1_within 3 (some .boolean)] ++ wsX10)
def wsX1_hasRoom : List Cond := .code yX1_hasRoom cX1_hasRoom 9 (some .boolean) :: ([.methodLink RX1 206 yX1_isOnWall, .static yX1_isOnWall, .initialized RX1, .code yX1_isOnWall cX1_isOnWall 2 (some .boolean), .methodLink RX1 38 yX1_within, .static yX1_within, .code yX1_within cX1_within 3 (some .boolean), .methodLink RX1 49 yX1_cellOf, .static yX1_cellOf, .code yX1_cellOf cX1_cellOf 2 (some .int), .methodLink RX1 214 yX1_isFree, .instanceMethod yX1_isFree, .selects RX1 yX1_isFree yX1_isFree, .code yX1_isFree cX1_isFree 4 (some .boolean), .fieldLink RX1 13 "WetMosaic" "cover" "[I", .fieldLink RX1 9 "WetMosaic" "wet" "[I", .methodLink RX1 53 yX1_at, .static yX1_at, .code yX1_at cX1_at 2 (some .int)] ++ wsX10)
def wsX1_setCover : List Cond := .code yX1_setCover cX1_setCover 4 none :: ([.fieldLink RX1 110 "WetMosaic$Piece" "length" "I", .fieldLink RX1 13 "WetMosaic" "cover" "[I", .methodLink RX1 113 yX0_cellAt, .instanceMethod yX0_cellAt, .selects RX0 yX0_cellAt yX0_cellAt, .initialized RX0, .code yX0_cellAt cX0_cellAt 2 (some .int), .fieldLink RX0 19 "WetMosaic$Piece" "across" "Z", .fieldLink RX0 7 "WetMosaic$Piece" "x" "I", .fieldLink RX0 13 "WetMosaic$Piece" "y" "I", .static yX1_cellOf, .initialized RX1, .code yX1_cellOf cX1_cellOf 2 (some .int), .methodLink RX1 57 yX1_put, .static yX1_put, .code yX1_put cX1_put 3 none, .methodLink RX1 38 yX1_within, .static yX1_within, .code yX1_within cX1_within 3 (some .boolean)] ++ wsX00 ++ wsX10)
def wsX1_press_r1 : List Cond := [Cond.classLink RX1 42 "java/lang/IllegalArgumentException", Cond.initialized "java/lang/IllegalArgumentException", Cond.classLink RX1 82 "java/lang/IllegalStateException", Cond.initialized "java/lang/IllegalStateException", Cond.fieldLink RX1 74 "WetMosaic" "pressed" "I", Cond.fieldLink RX1 21 "WetMosaic" "pieces" "[LWetMosaic$Piece;", Cond.classLink RX1 19 RX0, Cond.instantiable RX0 8, Cond.initialized RX0, Cond.methodLink RX1 34 yX1_refuseOutside, Cond.static yX1_refuseOutside, Cond.initialized RX1, Cond.code yX1_refuseOutside cX1_refuseOutside 2 none, Cond.classLink RX1 61 "java/lang/IndexOutOfBoundsException", Cond.initialized "java/lang/IndexOutOfBoundsException", Cond.methodLink RX1 206 yX1_isOnWall, Cond.static yX1_isOnWall, Cond.code yX1_isOnWall cX1_isOnWall 2 (some .boolean), Cond.methodLink RX1 38 yX1_within, Cond.static yX1_within, Cond.code yX1_within cX1_within 3 (some .boolean), Cond.methodLink RX1 68 yX1_isColour, Cond.static yX1_isColour, Cond.code yX1_isColour cX1_isColour 1 (some .boolean)]
def wsX1_press_r2 : List Cond := [Cond.methodLink RX1 78 yX1_hasRoom, Cond.instanceMethod yX1_hasRoom, Cond.selects RX1 yX1_hasRoom yX1_hasRoom, Cond.code yX1_hasRoom cX1_hasRoom 9 (some .boolean), Cond.methodLink RX1 49 yX1_cellOf, Cond.static yX1_cellOf, Cond.code yX1_cellOf cX1_cellOf 2 (some .int), Cond.methodLink RX1 214 yX1_isFree, Cond.instanceMethod yX1_isFree, Cond.selects RX1 yX1_isFree yX1_isFree, Cond.code yX1_isFree cX1_isFree 4 (some .boolean), Cond.fieldLink RX1 13 "WetMosaic" "cover" "[I", Cond.fieldLink RX1 9 "WetMosaic" "wet" "[I", Cond.methodLink RX1 53 yX1_at, Cond.static yX1_at, Cond.code yX1_at cX1_at 2 (some .int), Cond.methodLink RX1 87 yX0_init, Cond.instanceMethod yX0_init, Cond.code yX0_init cX0_init 7 none, Cond.methodLink RX0 1 objectInit, Cond.instanceMethod objectInit, Cond.code objectInit ⟨#[0xb1]⟩ 1 none, Cond.fieldLink RX0 7 "WetMosaic$Piece" "x" "I", Cond.fieldLink RX0 13 "WetMosaic$Piece" "y" "I"]
def wsX1_press_r3 : List Cond := [Cond.fieldLink RX0 16 "WetMosaic$Piece" "length" "I", Cond.fieldLink RX0 19 "WetMosaic$Piece" "across" "Z", Cond.fieldLink RX0 23 "WetMosaic$Piece" "front" "I", Cond.fieldLink RX0 26 "WetMosaic$Piece" "back" "I", Cond.methodLink RX1 90 yX1_setCover, Cond.instanceMethod yX1_setCover, Cond.selects RX1 yX1_setCover yX1_setCover, Cond.code yX1_setCover cX1_setCover 4 none, Cond.fieldLink RX1 110 "WetMosaic$Piece" "length" "I", Cond.methodLink RX1 113 yX0_cellAt, Cond.instanceMethod yX0_cellAt, Cond.selects RX0 yX0_cellAt yX0_cellAt, Cond.code yX0_cellAt cX0_cellAt 2 (some .int), Cond.methodLink RX1 57 yX1_put, Cond.static yX1_put, Cond.code yX1_put cX1_put 3 none]
def wsX1_press : List Cond := .code yX1_press cX1_press 9 (some .int) :: ((wsX1_press_r1 ++ (wsX1_press_r2 ++ wsX1_press_r3)) ++ wsX10 ++ wsX00 ++ (vx_atS RX1 46 "java/lang/IllegalArgumentException" ["java/lang/RuntimeException", "java/lang/Exception"]).filter goodWord ++ (vx_atS RX1 86 "java/lang/IllegalStateException" ["java/lang/RuntimeException", "java/lang/Exception"]).filter goodWord ++ (vx_atS RX1 65 "java/lang/IndexOutOfBoundsException" ["java/lang/RuntimeException", "java/lang/Exception"]).filter goodWord)
def wsX1_find : List Cond := .code yX1_find cX1_find 2 (some (.object "WetMosaic$Piece")) :: ([.fieldLink RX1 74 "WetMosaic" "pressed" "I", .fieldLink RX1 21 "WetMosaic" "pieces" "[LWetMosaic$Piece;", .methodLink RX1 38 yX1_within, .static yX1_within, .initialized RX1, .code yX1_within cX1_within 3 (some .boolean)] ++ wsX10)
def wsX1_isLoose : List Cond := .code yX1_isLoose cX1_isLoose 3 (some .boolean) :: ([.fieldLink RX1 132 "WetMosaic$Piece" "out" "Z", .fieldLink RX1 110 "WetMosaic$Piece" "length" "I", .methodLink RX1 113 yX0_cellAt, .instanceMethod yX0_cellAt, .selects RX0 yX0_cellAt yX0_cellAt, .initialized RX0, .code yX0_cellAt cX0_cellAt 2 (some .int), .fieldLink RX0 19 "WetMosaic$Piece" "across" "Z", .fieldLink RX0 7 "WetMosaic$Piece" "x" "I", .fieldLink RX0 13 "WetMosaic$Piece" "y" "I", .static yX1_cellOf, .initialized RX1, .code yX1_cellOf cX1_cellOf 2 (some .int), .methodLink RX1 53 yX1_at, .static yX1_at, .code yX1_at cX1_at 2 (some .int), .methodLink RX1 38 yX1_within, .static yX1_within, .code yX1_within cX1_within 3 (some .boolean)] ++ wsX00)
def wsX1_flip_r1 : List Cond := [Cond.classLink RX1 61 "java/lang/IndexOutOfBoundsException", Cond.initialized "java/lang/IndexOutOfBoundsException", Cond.classLink RX1 82 "java/lang/IllegalStateException", Cond.initialized "java/lang/IllegalStateException", Cond.fieldLink RX1 9 "WetMosaic" "wet" "[I", Cond.fieldLink RX1 106 "WetMosaic$Piece" "showsBack" "Z", Cond.fieldLink RX1 110 "WetMosaic$Piece" "length" "I", Cond.methodLink RX1 94 yX1_find, Cond.instanceMethod yX1_find, Cond.selects RX1 yX1_find yX1_find, Cond.initialized RX1, Cond.code yX1_find cX1_find 2 (some (.object "WetMosaic$Piece")), Cond.fieldLink RX1 74 "WetMosaic" "pressed" "I", Cond.fieldLink RX1 21 "WetMosaic" "pieces" "[LWetMosaic$Piece;", Cond.methodLink RX1 38 yX1_within, Cond.static yX1_within, Cond.code yX1_within cX1_within 3 (some .boolean), Cond.methodLink RX1 100 yX1_isLoose, Cond.static yX1_isLoose, Cond.code yX1_isLoose cX1_isLoose 3 (some .boolean), Cond.fieldLink RX1 132 "WetMosaic$Piece" "out" "Z", Cond.methodLink RX1 113 yX0_cellAt, Cond.instanceMethod yX0_cellAt, Cond.selects RX0 yX0_cellAt yX0_cellAt]
def wsX1_flip_r2 : List Cond := [Cond.initialized RX0, Cond.code yX0_cellAt cX0_cellAt 2 (some .int), Cond.fieldLink RX0 19 "WetMosaic$Piece" "across" "Z", Cond.fieldLink RX0 7 "WetMosaic$Piece" "x" "I", Cond.fieldLink RX0 13 "WetMosaic$Piece" "y" "I", Cond.static yX1_cellOf, Cond.code yX1_cellOf cX1_cellOf 2 (some .int), Cond.methodLink RX1 53 yX1_at, Cond.static yX1_at, Cond.code yX1_at cX1_at 2 (some .int), Cond.methodLink RX1 57 yX1_put, Cond.static yX1_put, Cond.code yX1_put cX1_put 3 none, Cond.methodLink RX1 117 yX0_shownColour, Cond.instanceMethod yX0_shownColour, Cond.selects RX0 yX0_shownColour yX0_shownColour, Cond.code yX0_shownColour cX0_shownColour 1 (some .int), Cond.fieldLink RX0 29 "WetMosaic$Piece" "showsBack" "Z", Cond.fieldLink RX0 26 "WetMosaic$Piece" "back" "I", Cond.fieldLink RX0 23 "WetMosaic$Piece" "front" "I"]
def wsX1_flip : List Cond := .code yX1_flip cX1_flip 5 (some .int) :: ((wsX1_flip_r1 ++ wsX1_flip_r2) ++ wsX10 ++ wsX00 ++ (vx_atS RX1 65 "java/lang/IndexOutOfBoundsException" ["java/lang/RuntimeException", "java/lang/Exception"]).filter goodWord ++ (vx_atS RX1 86 "java/lang/IllegalStateException" ["java/lang/RuntimeException", "java/lang/Exception"]).filter goodWord)
def wsX1_turn_r1 : List Cond := [Cond.classLink RX1 61 "java/lang/IndexOutOfBoundsException", Cond.initialized "java/lang/IndexOutOfBoundsException", Cond.classLink RX1 82 "java/lang/IllegalStateException", Cond.initialized "java/lang/IllegalStateException", Cond.fieldLink RX1 9 "WetMosaic" "wet" "[I", Cond.fieldLink RX1 121 "WetMosaic$Piece" "x" "I", Cond.fieldLink RX1 124 "WetMosaic$Piece" "y" "I", Cond.fieldLink RX1 110 "WetMosaic$Piece" "length" "I", Cond.fieldLink RX1 127 "WetMosaic$Piece" "across" "Z", Cond.methodLink RX1 94 yX1_find, Cond.instanceMethod yX1_find, Cond.selects RX1 yX1_find yX1_find, Cond.initialized RX1, Cond.code yX1_find cX1_find 2 (some (.object "WetMosaic$Piece")), Cond.fieldLink RX1 74 "WetMosaic" "pressed" "I", Cond.fieldLink RX1 21 "WetMosaic" "pieces" "[LWetMosaic$Piece;", Cond.methodLink RX1 38 yX1_within, Cond.static yX1_within, Cond.code yX1_within cX1_within 3 (some .boolean), Cond.methodLink RX1 100 yX1_isLoose, Cond.static yX1_isLoose, Cond.code yX1_isLoose cX1_isLoose 3 (some .boolean), Cond.fieldLink RX1 132 "WetMosaic$Piece" "out" "Z", Cond.methodLink RX1 113 yX0_cellAt]
def wsX1_turn_r2 : List Cond := [Cond.instanceMethod yX0_cellAt, Cond.selects RX0 yX0_cellAt yX0_cellAt, Cond.initialized RX0, Cond.code yX0_cellAt cX0_cellAt 2 (some .int), Cond.fieldLink RX0 19 "WetMosaic$Piece" "across" "Z", Cond.fieldLink RX0 7 "WetMosaic$Piece" "x" "I", Cond.fieldLink RX0 13 "WetMosaic$Piece" "y" "I", Cond.static yX1_cellOf, Cond.code yX1_cellOf cX1_cellOf 2 (some .int), Cond.methodLink RX1 53 yX1_at, Cond.static yX1_at, Cond.code yX1_at cX1_at 2 (some .int), Cond.methodLink RX1 78 yX1_hasRoom, Cond.instanceMethod yX1_hasRoom, Cond.selects RX1 yX1_hasRoom yX1_hasRoom, Cond.code yX1_hasRoom cX1_hasRoom 9 (some .boolean), Cond.methodLink RX1 206 yX1_isOnWall, Cond.static yX1_isOnWall, Cond.code yX1_isOnWall cX1_isOnWall 2 (some .boolean), Cond.methodLink RX1 49 yX1_cellOf, Cond.methodLink RX1 214 yX1_isFree, Cond.instanceMethod yX1_isFree, Cond.selects RX1 yX1_isFree yX1_isFree, Cond.code yX1_isFree cX1_isFree 4 (some .boolean)]
def wsX1_turn_r3 : List Cond := [Cond.fieldLink RX1 13 "WetMosaic" "cover" "[I", Cond.methodLink RX1 90 yX1_setCover, Cond.instanceMethod yX1_setCover, Cond.selects RX1 yX1_setCover yX1_setCover, Cond.code yX1_setCover cX1_setCover 4 none, Cond.methodLink RX1 57 yX1_put, Cond.static yX1_put, Cond.code yX1_put cX1_put 3 none]
def wsX1_turn : List Cond := .code yX1_turn cX1_turn 3 (some .int) :: ((wsX1_turn_r1 ++ (wsX1_turn_r2 ++ wsX1_turn_r3)) ++ wsX10 ++ wsX00 ++ (vx_atS RX1 65 "java/lang/IndexOutOfBoundsException" ["java/lang/RuntimeException", "java/lang/Exception"]).filter goodWord ++ (vx_atS RX1 86 "java/lang/IllegalStateException" ["java/lang/RuntimeException", "java/lang/Exception"]).filter goodWord)
def wsX1_removeMortar : List Cond := .code yX1_removeMortar cX1_removeMortar 3 none :: ([.fieldLink RX1 110 "WetMosaic$Piece" "length" "I", .fieldLink RX1 9 "WetMosaic" "wet" "[I", .methodLink RX1 113 yX0_cellAt, .instanceMethod yX0_cellAt, .selects RX0 yX0_cellAt yX0_cellAt, .initialized RX0, .code yX0_cellAt cX0_cellAt 2 (some .int), .fieldLink RX0 19 "WetMosaic$Piece" "across" "Z", .fieldLink RX0 7 "WetMosaic$Piece" "x" "I", .fieldLink RX0 13 "WetMosaic$Piece" "y" "I", .static yX1_cellOf, .initialized RX1, .code yX1_cellOf cX1_cellOf 2 (some .int), .methodLink RX1 57 yX1_put, .static yX1_put, .code yX1_put cX1_put 3 none, .methodLink RX1 38 yX1_within, .static yX1_within, .code yX1_within cX1_within 3 (some .boolean)] ++ wsX00 ++ wsX10)
def wsX1_take_r1 : List Cond := [Cond.classLink RX1 61 "java/lang/IndexOutOfBoundsException", Cond.initialized "java/lang/IndexOutOfBoundsException", Cond.classLink RX1 82 "java/lang/IllegalStateException", Cond.initialized "java/lang/IllegalStateException", Cond.fieldLink RX1 132 "WetMosaic$Piece" "out" "Z", Cond.fieldLink RX1 9 "WetMosaic" "wet" "[I", Cond.methodLink RX1 94 yX1_find, Cond.instanceMethod yX1_find, Cond.selects RX1 yX1_find yX1_find, Cond.initialized RX1, Cond.code yX1_find cX1_find 2 (some (.object "WetMosaic$Piece")), Cond.fieldLink RX1 74 "WetMosaic" "pressed" "I", Cond.fieldLink RX1 21 "WetMosaic" "pieces" "[LWetMosaic$Piece;", Cond.methodLink RX1 38 yX1_within, Cond.static yX1_within, Cond.code yX1_within cX1_within 3 (some .boolean), Cond.methodLink RX1 100 yX1_isLoose, Cond.static yX1_isLoose, Cond.code yX1_isLoose cX1_isLoose 3 (some .boolean), Cond.fieldLink RX1 110 "WetMosaic$Piece" "length" "I", Cond.methodLink RX1 113 yX0_cellAt, Cond.instanceMethod yX0_cellAt, Cond.selects RX0 yX0_cellAt yX0_cellAt, Cond.initialized RX0]
def wsX1_take_r2 : List Cond := [Cond.code yX0_cellAt cX0_cellAt 2 (some .int), Cond.fieldLink RX0 19 "WetMosaic$Piece" "across" "Z", Cond.fieldLink RX0 7 "WetMosaic$Piece" "x" "I", Cond.fieldLink RX0 13 "WetMosaic$Piece" "y" "I", Cond.static yX1_cellOf, Cond.code yX1_cellOf cX1_cellOf 2 (some .int), Cond.methodLink RX1 53 yX1_at, Cond.static yX1_at, Cond.code yX1_at cX1_at 2 (some .int), Cond.methodLink RX1 90 yX1_setCover, Cond.instanceMethod yX1_setCover, Cond.selects RX1 yX1_setCover yX1_setCover, Cond.code yX1_setCover cX1_setCover 4 none, Cond.fieldLink RX1 13 "WetMosaic" "cover" "[I", Cond.methodLink RX1 57 yX1_put, Cond.static yX1_put, Cond.code yX1_put cX1_put 3 none, Cond.methodLink RX1 137 yX1_removeMortar, Cond.instanceMethod yX1_removeMortar, Cond.selects RX1 yX1_removeMortar yX1_removeMortar, Cond.code yX1_removeMortar cX1_removeMortar 3 none]
def wsX1_take : List Cond := .code yX1_take cX1_take 4 (some .boolean) :: ((wsX1_take_r1 ++ wsX1_take_r2) ++ wsX00 ++ wsX10 ++ (vx_atS RX1 65 "java/lang/IndexOutOfBoundsException" ["java/lang/RuntimeException", "java/lang/Exception"]).filter goodWord ++ (vx_atS RX1 86 "java/lang/IllegalStateException" ["java/lang/RuntimeException", "java/lang/Exception"]).filter goodWord)
def wsX1_colourAt : List Cond := .code yX1_colourAt cX1_colourAt 3 (some .int) :: ([.fieldLink RX1 13 "WetMosaic" "cover" "[I", .methodLink RX1 53 yX1_at, .static yX1_at, .initialized RX1, .code yX1_at cX1_at 2 (some .int), .methodLink RX1 38 yX1_within, .static yX1_within, .code yX1_within cX1_within 3 (some .boolean), .methodLink RX1 94 yX1_find, .instanceMethod yX1_find, .selects RX1 yX1_find yX1_find, .code yX1_find cX1_find 2 (some (.object "WetMosaic$Piece")), .fieldLink RX1 74 "WetMosaic" "pressed" "I", .fieldLink RX1 21 "WetMosaic" "pieces" "[LWetMosaic$Piece;", .methodLink RX1 117 yX0_shownColour, .instanceMethod yX0_shownColour, .selects RX0 yX0_shownColour yX0_shownColour, .initialized RX0, .code yX0_shownColour cX0_shownColour 1 (some .int), .fieldLink RX0 29 "WetMosaic$Piece" "showsBack" "Z", .fieldLink RX0 26 "WetMosaic$Piece" "back" "I", .fieldLink RX0 23 "WetMosaic$Piece" "front" "I"] ++ wsX10 ++ wsX00)
def wsX1_cellFact_r1 : List Cond := [Cond.fieldLink RX1 9 "WetMosaic" "wet" "[I", Cond.fieldLink RX1 13 "WetMosaic" "cover" "[I", Cond.methodLink RX1 53 yX1_at, Cond.static yX1_at, Cond.initialized RX1, Cond.code yX1_at cX1_at 2 (some .int), Cond.methodLink RX1 38 yX1_within, Cond.static yX1_within, Cond.code yX1_within cX1_within 3 (some .boolean), Cond.methodLink RX1 217 yX1_colourAt, Cond.instanceMethod yX1_colourAt, Cond.selects RX1 yX1_colourAt yX1_colourAt, Cond.code yX1_colourAt cX1_colourAt 3 (some .int), Cond.methodLink RX1 94 yX1_find, Cond.instanceMethod yX1_find, Cond.selects RX1 yX1_find yX1_find, Cond.code yX1_find cX1_find 2 (some (.object "WetMosaic$Piece")), Cond.fieldLink RX1 74 "WetMosaic" "pressed" "I", Cond.fieldLink RX1 21 "WetMosaic" "pieces" "[LWetMosaic$Piece;", Cond.methodLink RX1 117 yX0_shownColour, Cond.instanceMethod yX0_shownColour, Cond.selects RX0 yX0_shownColour yX0_shownColour, Cond.initialized RX0, Cond.code yX0_shownColour cX0_shownColour 1 (some .int)]
def wsX1_cellFact_r2 : List Cond := [Cond.fieldLink RX0 29 "WetMosaic$Piece" "showsBack" "Z", Cond.fieldLink RX0 26 "WetMosaic$Piece" "back" "I", Cond.fieldLink RX0 23 "WetMosaic$Piece" "front" "I"]
def wsX1_cellFact : List Cond := .code yX1_cellFact cX1_cellFact 3 (some .int) :: ((wsX1_cellFact_r1 ++ wsX1_cellFact_r2) ++ wsX10 ++ wsX00)
def wsX1_cell_r1 : List Cond := [Cond.classLink RX1 61 "java/lang/IndexOutOfBoundsException", Cond.initialized "java/lang/IndexOutOfBoundsException", Cond.methodLink RX1 34 yX1_refuseOutside, Cond.static yX1_refuseOutside, Cond.initialized RX1, Cond.code yX1_refuseOutside cX1_refuseOutside 2 none, Cond.methodLink RX1 206 yX1_isOnWall, Cond.static yX1_isOnWall, Cond.code yX1_isOnWall cX1_isOnWall 2 (some .boolean), Cond.methodLink RX1 38 yX1_within, Cond.static yX1_within, Cond.code yX1_within cX1_within 3 (some .boolean), Cond.methodLink RX1 49 yX1_cellOf, Cond.static yX1_cellOf, Cond.code yX1_cellOf cX1_cellOf 2 (some .int), Cond.methodLink RX1 143 yX1_cellFact, Cond.instanceMethod yX1_cellFact, Cond.selects RX1 yX1_cellFact yX1_cellFact, Cond.code yX1_cellFact cX1_cellFact 3 (some .int), Cond.fieldLink RX1 9 "WetMosaic" "wet" "[I", Cond.fieldLink RX1 13 "WetMosaic" "cover" "[I", Cond.methodLink RX1 53 yX1_at, Cond.static yX1_at, Cond.code yX1_at cX1_at 2 (some .int)]
def wsX1_cell_r2 : List Cond := [Cond.methodLink RX1 217 yX1_colourAt, Cond.instanceMethod yX1_colourAt, Cond.selects RX1 yX1_colourAt yX1_colourAt, Cond.code yX1_colourAt cX1_colourAt 3 (some .int), Cond.methodLink RX1 94 yX1_find, Cond.instanceMethod yX1_find, Cond.selects RX1 yX1_find yX1_find, Cond.code yX1_find cX1_find 2 (some (.object "WetMosaic$Piece")), Cond.fieldLink RX1 74 "WetMosaic" "pressed" "I", Cond.fieldLink RX1 21 "WetMosaic" "pieces" "[LWetMosaic$Piece;", Cond.methodLink RX1 117 yX0_shownColour, Cond.instanceMethod yX0_shownColour, Cond.selects RX0 yX0_shownColour yX0_shownColour, Cond.initialized RX0, Cond.code yX0_shownColour cX0_shownColour 1 (some .int), Cond.fieldLink RX0 29 "WetMosaic$Piece" "showsBack" "Z", Cond.fieldLink RX0 26 "WetMosaic$Piece" "back" "I", Cond.fieldLink RX0 23 "WetMosaic$Piece" "front" "I"]
def wsX1_cell : List Cond := .code yX1_cell cX1_cell 4 (some .int) :: ((wsX1_cell_r1 ++ wsX1_cell_r2) ++ wsX10 ++ wsX00 ++ (vx_atS RX1 65 "java/lang/IndexOutOfBoundsException" ["java/lang/RuntimeException", "java/lang/Exception"]).filter goodWord)
def wsX1_pieceFact_r1 : List Cond := [Cond.fieldLink RX1 121 "WetMosaic$Piece" "x" "I", Cond.fieldLink RX1 124 "WetMosaic$Piece" "y" "I", Cond.fieldLink RX1 110 "WetMosaic$Piece" "length" "I", Cond.fieldLink RX1 127 "WetMosaic$Piece" "across" "Z", Cond.fieldLink RX1 9 "WetMosaic" "wet" "[I", Cond.fieldLink RX1 132 "WetMosaic$Piece" "out" "Z", Cond.methodLink RX1 117 yX0_shownColour, Cond.instanceMethod yX0_shownColour, Cond.selects RX0 yX0_shownColour yX0_shownColour, Cond.initialized RX0, Cond.code yX0_shownColour cX0_shownColour 1 (some .int), Cond.fieldLink RX0 29 "WetMosaic$Piece" "showsBack" "Z", Cond.fieldLink RX0 26 "WetMosaic$Piece" "back" "I", Cond.fieldLink RX0 23 "WetMosaic$Piece" "front" "I", Cond.methodLink RX1 220 yX0_otherColour, Cond.instanceMethod yX0_otherColour, Cond.selects RX0 yX0_otherColour yX0_otherColour, Cond.code yX0_otherColour cX0_otherColour 1 (some .int), Cond.methodLink RX1 100 yX1_isLoose, Cond.static yX1_isLoose, Cond.initialized RX1, Cond.code yX1_isLoose cX1_isLoose 3 (some .boolean), Cond.methodLink RX1 113 yX0_cellAt, Cond.instanceMethod yX0_cellAt]
def wsX1_pieceFact_r2 : List Cond := [Cond.selects RX0 yX0_cellAt yX0_cellAt, Cond.code yX0_cellAt cX0_cellAt 2 (some .int), Cond.fieldLink RX0 19 "WetMosaic$Piece" "across" "Z", Cond.fieldLink RX0 7 "WetMosaic$Piece" "x" "I", Cond.fieldLink RX0 13 "WetMosaic$Piece" "y" "I", Cond.static yX1_cellOf, Cond.code yX1_cellOf cX1_cellOf 2 (some .int), Cond.methodLink RX1 53 yX1_at, Cond.static yX1_at, Cond.code yX1_at cX1_at 2 (some .int), Cond.methodLink RX1 38 yX1_within, Cond.static yX1_within, Cond.code yX1_within cX1_within 3 (some .boolean)]
def wsX1_pieceFact : List Cond := .code yX1_pieceFact cX1_pieceFact 3 (some .int) :: ((wsX1_pieceFact_r1 ++ wsX1_pieceFact_r2) ++ wsX00 ++ wsX10)
def wsX1_piece_r1 : List Cond := [Cond.classLink RX1 61 "java/lang/IndexOutOfBoundsException", Cond.initialized "java/lang/IndexOutOfBoundsException", Cond.methodLink RX1 94 yX1_find, Cond.instanceMethod yX1_find, Cond.selects RX1 yX1_find yX1_find, Cond.initialized RX1, Cond.code yX1_find cX1_find 2 (some (.object "WetMosaic$Piece")), Cond.fieldLink RX1 74 "WetMosaic" "pressed" "I", Cond.fieldLink RX1 21 "WetMosaic" "pieces" "[LWetMosaic$Piece;", Cond.methodLink RX1 38 yX1_within, Cond.static yX1_within, Cond.code yX1_within cX1_within 3 (some .boolean), Cond.methodLink RX1 148 yX1_pieceFact, Cond.instanceMethod yX1_pieceFact, Cond.selects RX1 yX1_pieceFact yX1_pieceFact, Cond.code yX1_pieceFact cX1_pieceFact 3 (some .int), Cond.fieldLink RX1 121 "WetMosaic$Piece" "x" "I", Cond.fieldLink RX1 124 "WetMosaic$Piece" "y" "I", Cond.fieldLink RX1 110 "WetMosaic$Piece" "length" "I", Cond.fieldLink RX1 127 "WetMosaic$Piece" "across" "Z", Cond.fieldLink RX1 9 "WetMosaic" "wet" "[I", Cond.fieldLink RX1 132 "WetMosaic$Piece" "out" "Z", Cond.methodLink RX1 117 yX0_shownColour, Cond.instanceMethod yX0_shownColour]
def wsX1_piece_r2 : List Cond := [Cond.selects RX0 yX0_shownColour yX0_shownColour, Cond.initialized RX0, Cond.code yX0_shownColour cX0_shownColour 1 (some .int), Cond.fieldLink RX0 29 "WetMosaic$Piece" "showsBack" "Z", Cond.fieldLink RX0 26 "WetMosaic$Piece" "back" "I", Cond.fieldLink RX0 23 "WetMosaic$Piece" "front" "I", Cond.methodLink RX1 220 yX0_otherColour, Cond.instanceMethod yX0_otherColour, Cond.selects RX0 yX0_otherColour yX0_otherColour, Cond.code yX0_otherColour cX0_otherColour 1 (some .int), Cond.methodLink RX1 100 yX1_isLoose, Cond.static yX1_isLoose, Cond.code yX1_isLoose cX1_isLoose 3 (some .boolean), Cond.methodLink RX1 113 yX0_cellAt, Cond.instanceMethod yX0_cellAt, Cond.selects RX0 yX0_cellAt yX0_cellAt, Cond.code yX0_cellAt cX0_cellAt 2 (some .int), Cond.fieldLink RX0 19 "WetMosaic$Piece" "across" "Z", Cond.fieldLink RX0 7 "WetMosaic$Piece" "x" "I", Cond.fieldLink RX0 13 "WetMosaic$Piece" "y" "I", Cond.static yX1_cellOf, Cond.code yX1_cellOf cX1_cellOf 2 (some .int), Cond.methodLink RX1 53 yX1_at, Cond.static yX1_at]
def wsX1_piece_r3 : List Cond := [Cond.code yX1_at cX1_at 2 (some .int)]
def wsX1_piece : List Cond := .code yX1_piece cX1_piece 4 (some .int) :: ((wsX1_piece_r1 ++ (wsX1_piece_r2 ++ wsX1_piece_r3)) ++ wsX10 ++ wsX00 ++ (vx_atS RX1 65 "java/lang/IndexOutOfBoundsException" ["java/lang/RuntimeException", "java/lang/Exception"]).filter goodWord)
def wsX1_piecesIn : List Cond := .code yX1_piecesIn cX1_piecesIn 4 (some .int) :: ([.fieldLink RX1 74 "WetMosaic" "pressed" "I", .fieldLink RX1 132 "WetMosaic$Piece" "out" "Z", .methodLink RX1 94 yX1_find, .instanceMethod yX1_find, .selects RX1 yX1_find yX1_find, .initialized RX1, .code yX1_find cX1_find 2 (some (.object "WetMosaic$Piece")), .fieldLink RX1 21 "WetMosaic" "pieces" "[LWetMosaic$Piece;", .methodLink RX1 38 yX1_within, .static yX1_within, .code yX1_within cX1_within 3 (some .boolean)] ++ wsX10 ++ wsX00)
def wsX1_loosePieces_r1 : List Cond := [Cond.fieldLink RX1 74 "WetMosaic" "pressed" "I", Cond.fieldLink RX1 9 "WetMosaic" "wet" "[I", Cond.methodLink RX1 94 yX1_find, Cond.instanceMethod yX1_find, Cond.selects RX1 yX1_find yX1_find, Cond.initialized RX1, Cond.code yX1_find cX1_find 2 (some (.object "WetMosaic$Piece")), Cond.fieldLink RX1 21 "WetMosaic" "pieces" "[LWetMosaic$Piece;", Cond.methodLink RX1 38 yX1_within, Cond.static yX1_within, Cond.code yX1_within cX1_within 3 (some .boolean), Cond.methodLink RX1 100 yX1_isLoose, Cond.static yX1_isLoose, Cond.code yX1_isLoose cX1_isLoose 3 (some .boolean), Cond.fieldLink RX1 132 "WetMosaic$Piece" "out" "Z", Cond.fieldLink RX1 110 "WetMosaic$Piece" "length" "I", Cond.methodLink RX1 113 yX0_cellAt, Cond.instanceMethod yX0_cellAt, Cond.selects RX0 yX0_cellAt yX0_cellAt, Cond.initialized RX0, Cond.code yX0_cellAt cX0_cellAt 2 (some .int), Cond.fieldLink RX0 19 "WetMosaic$Piece" "across" "Z", Cond.fieldLink RX0 7 "WetMosaic$Piece" "x" "I", Cond.fieldLink RX0 13 "WetMosaic$Piece" "y" "I"]
def wsX1_loosePieces_r2 : List Cond := [Cond.static yX1_cellOf, Cond.code yX1_cellOf cX1_cellOf 2 (some .int), Cond.methodLink RX1 53 yX1_at, Cond.static yX1_at, Cond.code yX1_at cX1_at 2 (some .int)]
def wsX1_loosePieces : List Cond := .code yX1_loosePieces cX1_loosePieces 4 (some .int) :: ((wsX1_loosePieces_r1 ++ wsX1_loosePieces_r2) ++ wsX10 ++ wsX00)
def wsX1_cellsFrom : List Cond := .code yX1_cellsFrom cX1_cellsFrom 4 (some .int) :: ([])
def wsX1_clearMarks : List Cond := .code yX1_clearMarks cX1_clearMarks 2 none :: ([.fieldLink RX1 28 "WetMosaic" "marks" "[I"] ++ wsX10)
def wsX1_reach : List Cond := .code yX1_reach cX1_reach 5 (some .int) :: ([.fieldLink RX1 13 "WetMosaic" "cover" "[I", .fieldLink RX1 28 "WetMosaic" "marks" "[I", .fieldLink RX1 31 "WetMosaic" "found" "[I", .methodLink RX1 49 yX1_cellOf, .static yX1_cellOf, .initialized RX1, .code yX1_cellOf cX1_cellOf 2 (some .int), .methodLink RX1 206 yX1_isOnWall, .static yX1_isOnWall, .code yX1_isOnWall cX1_isOnWall 2 (some .boolean), .methodLink RX1 38 yX1_within, .static yX1_within, .code yX1_within cX1_within 3 (some .boolean), .methodLink RX1 53 yX1_at, .static yX1_at, .code yX1_at cX1_at 2 (some .int), .methodLink RX1 57 yX1_put, .static yX1_put, .code yX1_put cX1_put 3 none] ++ wsX10)
def wsX1_markGap : List Cond := .code yX1_markGap cX1_markGap 6 (some .int) :: ([.fieldLink RX1 31 "WetMosaic" "found" "[I", .methodLink RX1 233 yX1_reach, .instanceMethod yX1_reach, .selects RX1 yX1_reach yX1_reach, .initialized RX1, .code yX1_reach cX1_reach 5 (some .int), .fieldLink RX1 13 "WetMosaic" "cover" "[I", .fieldLink RX1 28 "WetMosaic" "marks" "[I", .methodLink RX1 49 yX1_cellOf, .static yX1_cellOf, .code yX1_cellOf cX1_cellOf 2 (some .int), .methodLink RX1 206 yX1_isOnWall, .static yX1_isOnWall, .code yX1_isOnWall cX1_isOnWall 2 (some .boolean), .methodLink RX1 38 yX1_within, .static yX1_within, .code yX1_within cX1_within 3 (some .boolean), .methodLink RX1 53 yX1_at, .static yX1_at, .code yX1_at cX1_at 2 (some .int), .methodLink RX1 57 yX1_put, .static yX1_put, .code yX1_put cX1_put 3 none] ++ wsX10)
def wsX1_gaps_r1 : List Cond := [Cond.methodLink RX1 169 yX1_clearMarks, Cond.instanceMethod yX1_clearMarks, Cond.selects RX1 yX1_clearMarks yX1_clearMarks, Cond.initialized RX1, Cond.code yX1_clearMarks cX1_clearMarks 2 none, Cond.fieldLink RX1 28 "WetMosaic" "marks" "[I", Cond.methodLink RX1 172 yX1_markGap, Cond.instanceMethod yX1_markGap, Cond.selects RX1 yX1_markGap yX1_markGap, Cond.code yX1_markGap cX1_markGap 6 (some .int), Cond.fieldLink RX1 31 "WetMosaic" "found" "[I", Cond.methodLink RX1 233 yX1_reach, Cond.instanceMethod yX1_reach, Cond.selects RX1 yX1_reach yX1_reach, Cond.code yX1_reach cX1_reach 5 (some .int), Cond.fieldLink RX1 13 "WetMosaic" "cover" "[I", Cond.methodLink RX1 49 yX1_cellOf, Cond.static yX1_cellOf, Cond.code yX1_cellOf cX1_cellOf 2 (some .int), Cond.methodLink RX1 206 yX1_isOnWall, Cond.static yX1_isOnWall, Cond.code yX1_isOnWall cX1_isOnWall 2 (some .boolean), Cond.methodLink RX1 38 yX1_within, Cond.static yX1_within]
def wsX1_gaps_r2 : List Cond := [Cond.code yX1_within cX1_within 3 (some .boolean), Cond.methodLink RX1 53 yX1_at, Cond.static yX1_at, Cond.code yX1_at cX1_at 2 (some .int), Cond.methodLink RX1 57 yX1_put, Cond.static yX1_put, Cond.code yX1_put cX1_put 3 none]
def wsX1_gaps : List Cond := .code yX1_gaps cX1_gaps 4 (some .int) :: ((wsX1_gaps_r1 ++ wsX1_gaps_r2) ++ wsX10)
def wsX1_countFact_r1 : List Cond := [Cond.fieldLink RX1 181 "WetMosaic" "hour" "I", Cond.fieldLink RX1 74 "WetMosaic" "pressed" "I", Cond.fieldLink RX1 9 "WetMosaic" "wet" "[I", Cond.fieldLink RX1 13 "WetMosaic" "cover" "[I", Cond.methodLink RX1 223 yX1_piecesIn, Cond.instanceMethod yX1_piecesIn, Cond.selects RX1 yX1_piecesIn yX1_piecesIn, Cond.initialized RX1, Cond.code yX1_piecesIn cX1_piecesIn 4 (some .int), Cond.fieldLink RX1 132 "WetMosaic$Piece" "out" "Z", Cond.methodLink RX1 94 yX1_find, Cond.instanceMethod yX1_find, Cond.selects RX1 yX1_find yX1_find, Cond.code yX1_find cX1_find 2 (some (.object "WetMosaic$Piece")), Cond.fieldLink RX1 21 "WetMosaic" "pieces" "[LWetMosaic$Piece;", Cond.methodLink RX1 38 yX1_within, Cond.static yX1_within, Cond.code yX1_within cX1_within 3 (some .boolean), Cond.methodLink RX1 188 yX1_loosePieces, Cond.instanceMethod yX1_loosePieces, Cond.selects RX1 yX1_loosePieces yX1_loosePieces, Cond.code yX1_loosePieces cX1_loosePieces 4 (some .int), Cond.methodLink RX1 100 yX1_isLoose, Cond.static yX1_isLoose]
def wsX1_countFact_r2 : List Cond := [Cond.code yX1_isLoose cX1_isLoose 3 (some .boolean), Cond.fieldLink RX1 110 "WetMosaic$Piece" "length" "I", Cond.methodLink RX1 113 yX0_cellAt, Cond.instanceMethod yX0_cellAt, Cond.selects RX0 yX0_cellAt yX0_cellAt, Cond.initialized RX0, Cond.code yX0_cellAt cX0_cellAt 2 (some .int), Cond.fieldLink RX0 19 "WetMosaic$Piece" "across" "Z", Cond.fieldLink RX0 7 "WetMosaic$Piece" "x" "I", Cond.fieldLink RX0 13 "WetMosaic$Piece" "y" "I", Cond.static yX1_cellOf, Cond.code yX1_cellOf cX1_cellOf 2 (some .int), Cond.methodLink RX1 53 yX1_at, Cond.static yX1_at, Cond.code yX1_at cX1_at 2 (some .int), Cond.methodLink RX1 197 yX1_cellsFrom, Cond.static yX1_cellsFrom, Cond.code yX1_cellsFrom cX1_cellsFrom 4 (some .int), Cond.methodLink RX1 226 yX1_gaps, Cond.instanceMethod yX1_gaps, Cond.selects RX1 yX1_gaps yX1_gaps, Cond.code yX1_gaps cX1_gaps 4 (some .int), Cond.methodLink RX1 169 yX1_clearMarks, Cond.instanceMethod yX1_clearMarks]
def wsX1_countFact_r3 : List Cond := [Cond.selects RX1 yX1_clearMarks yX1_clearMarks, Cond.code yX1_clearMarks cX1_clearMarks 2 none, Cond.fieldLink RX1 28 "WetMosaic" "marks" "[I", Cond.methodLink RX1 172 yX1_markGap, Cond.instanceMethod yX1_markGap, Cond.selects RX1 yX1_markGap yX1_markGap, Cond.code yX1_markGap cX1_markGap 6 (some .int), Cond.fieldLink RX1 31 "WetMosaic" "found" "[I", Cond.methodLink RX1 233 yX1_reach, Cond.instanceMethod yX1_reach, Cond.selects RX1 yX1_reach yX1_reach, Cond.code yX1_reach cX1_reach 5 (some .int), Cond.methodLink RX1 49 yX1_cellOf, Cond.methodLink RX1 206 yX1_isOnWall, Cond.static yX1_isOnWall, Cond.code yX1_isOnWall cX1_isOnWall 2 (some .boolean), Cond.methodLink RX1 57 yX1_put, Cond.static yX1_put, Cond.code yX1_put cX1_put 3 none]
def wsX1_countFact : List Cond := .code yX1_countFact cX1_countFact 2 (some .int) :: ((wsX1_countFact_r1 ++ (wsX1_countFact_r2 ++ wsX1_countFact_r3)) ++ wsX10 ++ wsX00)
def wsX1_count_r1 : List Cond := [Cond.classLink RX1 61 "java/lang/IndexOutOfBoundsException", Cond.initialized "java/lang/IndexOutOfBoundsException", Cond.methodLink RX1 38 yX1_within, Cond.static yX1_within, Cond.initialized RX1, Cond.code yX1_within cX1_within 3 (some .boolean), Cond.methodLink RX1 154 yX1_countFact, Cond.instanceMethod yX1_countFact, Cond.selects RX1 yX1_countFact yX1_countFact, Cond.code yX1_countFact cX1_countFact 2 (some .int), Cond.fieldLink RX1 181 "WetMosaic" "hour" "I", Cond.fieldLink RX1 74 "WetMosaic" "pressed" "I", Cond.fieldLink RX1 9 "WetMosaic" "wet" "[I", Cond.fieldLink RX1 13 "WetMosaic" "cover" "[I", Cond.methodLink RX1 223 yX1_piecesIn, Cond.instanceMethod yX1_piecesIn, Cond.selects RX1 yX1_piecesIn yX1_piecesIn, Cond.code yX1_piecesIn cX1_piecesIn 4 (some .int), Cond.fieldLink RX1 132 "WetMosaic$Piece" "out" "Z", Cond.methodLink RX1 94 yX1_find, Cond.instanceMethod yX1_find, Cond.selects RX1 yX1_find yX1_find, Cond.code yX1_find cX1_find 2 (some (.object "WetMosaic$Piece")), Cond.fieldLink RX1 21 "WetMosaic" "pieces" "[LWetMosaic$Piece;"]
def wsX1_count_r2 : List Cond := [Cond.methodLink RX1 188 yX1_loosePieces, Cond.instanceMethod yX1_loosePieces, Cond.selects RX1 yX1_loosePieces yX1_loosePieces, Cond.code yX1_loosePieces cX1_loosePieces 4 (some .int), Cond.methodLink RX1 100 yX1_isLoose, Cond.static yX1_isLoose, Cond.code yX1_isLoose cX1_isLoose 3 (some .boolean), Cond.fieldLink RX1 110 "WetMosaic$Piece" "length" "I", Cond.methodLink RX1 113 yX0_cellAt, Cond.instanceMethod yX0_cellAt, Cond.selects RX0 yX0_cellAt yX0_cellAt, Cond.initialized RX0, Cond.code yX0_cellAt cX0_cellAt 2 (some .int), Cond.fieldLink RX0 19 "WetMosaic$Piece" "across" "Z", Cond.fieldLink RX0 7 "WetMosaic$Piece" "x" "I", Cond.fieldLink RX0 13 "WetMosaic$Piece" "y" "I", Cond.static yX1_cellOf, Cond.code yX1_cellOf cX1_cellOf 2 (some .int), Cond.methodLink RX1 53 yX1_at, Cond.static yX1_at, Cond.code yX1_at cX1_at 2 (some .int), Cond.methodLink RX1 197 yX1_cellsFrom, Cond.static yX1_cellsFrom, Cond.code yX1_cellsFrom cX1_cellsFrom 4 (some .int)]
def wsX1_count_r3 : List Cond := [Cond.methodLink RX1 226 yX1_gaps, Cond.instanceMethod yX1_gaps, Cond.selects RX1 yX1_gaps yX1_gaps, Cond.code yX1_gaps cX1_gaps 4 (some .int), Cond.methodLink RX1 169 yX1_clearMarks, Cond.instanceMethod yX1_clearMarks, Cond.selects RX1 yX1_clearMarks yX1_clearMarks, Cond.code yX1_clearMarks cX1_clearMarks 2 none, Cond.fieldLink RX1 28 "WetMosaic" "marks" "[I", Cond.methodLink RX1 172 yX1_markGap, Cond.instanceMethod yX1_markGap, Cond.selects RX1 yX1_markGap yX1_markGap, Cond.code yX1_markGap cX1_markGap 6 (some .int), Cond.fieldLink RX1 31 "WetMosaic" "found" "[I", Cond.methodLink RX1 233 yX1_reach, Cond.instanceMethod yX1_reach, Cond.selects RX1 yX1_reach yX1_reach, Cond.code yX1_reach cX1_reach 5 (some .int), Cond.methodLink RX1 49 yX1_cellOf, Cond.methodLink RX1 206 yX1_isOnWall, Cond.static yX1_isOnWall, Cond.code yX1_isOnWall cX1_isOnWall 2 (some .boolean), Cond.methodLink RX1 57 yX1_put, Cond.static yX1_put]
def wsX1_count_r4 : List Cond := [Cond.code yX1_put cX1_put 3 none]
def wsX1_count : List Cond := .code yX1_count cX1_count 2 (some .int) :: ((wsX1_count_r1 ++ (wsX1_count_r2 ++ (wsX1_count_r3 ++ wsX1_count_r4))) ++ wsX10 ++ wsX00 ++ (vx_atS RX1 65 "java/lang/IndexOutOfBoundsException" ["java/lang/RuntimeException", "java/lang/Exception"]).filter goodWord)
def wsX1_refuseNoPattern : List Cond := .code yX1_refuseNoPattern cX1_refuseNoPattern 3 none :: ([.classLink RX1 42 "java/lang/IllegalArgumentException", .initialized "java/lang/IllegalArgumentException", .methodLink RX1 38 yX1_within, .static yX1_within, .initialized RX1, .code yX1_within cX1_within 3 (some .boolean), .methodLink RX1 68 yX1_isColour, .static yX1_isColour, .code yX1_isColour cX1_isColour 1 (some .boolean)] ++ (vx_atS RX1 46 "java/lang/IllegalArgumentException" ["java/lang/RuntimeException", "java/lang/Exception"]).filter goodWord)
def wsX1_fits_r1 : List Cond := [Cond.methodLink RX1 49 yX1_cellOf, Cond.static yX1_cellOf, Cond.initialized RX1, Cond.code yX1_cellOf cX1_cellOf 2 (some .int), Cond.methodLink RX1 217 yX1_colourAt, Cond.instanceMethod yX1_colourAt, Cond.selects RX1 yX1_colourAt yX1_colourAt, Cond.code yX1_colourAt cX1_colourAt 3 (some .int), Cond.fieldLink RX1 13 "WetMosaic" "cover" "[I", Cond.methodLink RX1 53 yX1_at, Cond.static yX1_at, Cond.code yX1_at cX1_at 2 (some .int), Cond.methodLink RX1 38 yX1_within, Cond.static yX1_within, Cond.code yX1_within cX1_within 3 (some .boolean), Cond.methodLink RX1 94 yX1_find, Cond.instanceMethod yX1_find, Cond.selects RX1 yX1_find yX1_find, Cond.code yX1_find cX1_find 2 (some (.object "WetMosaic$Piece")), Cond.fieldLink RX1 74 "WetMosaic" "pressed" "I", Cond.fieldLink RX1 21 "WetMosaic" "pieces" "[LWetMosaic$Piece;", Cond.methodLink RX1 117 yX0_shownColour, Cond.instanceMethod yX0_shownColour, Cond.selects RX0 yX0_shownColour yX0_shownColour]
def wsX1_fits_r2 : List Cond := [Cond.initialized RX0, Cond.code yX0_shownColour cX0_shownColour 1 (some .int), Cond.fieldLink RX0 29 "WetMosaic$Piece" "showsBack" "Z", Cond.fieldLink RX0 26 "WetMosaic$Piece" "back" "I", Cond.fieldLink RX0 23 "WetMosaic$Piece" "front" "I"]
def wsX1_fits : List Cond := .code yX1_fits cX1_fits 7 (some .boolean) :: ((wsX1_fits_r1 ++ wsX1_fits_r2) ++ wsX10 ++ wsX00)
def wsX1_cellsOff_r1 : List Cond := [Cond.methodLink RX1 229 yX1_fits, Cond.instanceMethod yX1_fits, Cond.selects RX1 yX1_fits yX1_fits, Cond.initialized RX1, Cond.code yX1_fits cX1_fits 7 (some .boolean), Cond.methodLink RX1 49 yX1_cellOf, Cond.static yX1_cellOf, Cond.code yX1_cellOf cX1_cellOf 2 (some .int), Cond.methodLink RX1 217 yX1_colourAt, Cond.instanceMethod yX1_colourAt, Cond.selects RX1 yX1_colourAt yX1_colourAt, Cond.code yX1_colourAt cX1_colourAt 3 (some .int), Cond.fieldLink RX1 13 "WetMosaic" "cover" "[I", Cond.methodLink RX1 53 yX1_at, Cond.static yX1_at, Cond.code yX1_at cX1_at 2 (some .int), Cond.methodLink RX1 38 yX1_within, Cond.static yX1_within, Cond.code yX1_within cX1_within 3 (some .boolean), Cond.methodLink RX1 94 yX1_find, Cond.instanceMethod yX1_find, Cond.selects RX1 yX1_find yX1_find, Cond.code yX1_find cX1_find 2 (some (.object "WetMosaic$Piece")), Cond.fieldLink RX1 74 "WetMosaic" "pressed" "I"]
def wsX1_cellsOff_r2 : List Cond := [Cond.fieldLink RX1 21 "WetMosaic" "pieces" "[LWetMosaic$Piece;", Cond.methodLink RX1 117 yX0_shownColour, Cond.instanceMethod yX0_shownColour, Cond.selects RX0 yX0_shownColour yX0_shownColour, Cond.initialized RX0, Cond.code yX0_shownColour cX0_shownColour 1 (some .int), Cond.fieldLink RX0 29 "WetMosaic$Piece" "showsBack" "Z", Cond.fieldLink RX0 26 "WetMosaic$Piece" "back" "I", Cond.fieldLink RX0 23 "WetMosaic$Piece" "front" "I"]
def wsX1_cellsOff : List Cond := .code yX1_cellsOff cX1_cellsOff 7 (some .int) :: ((wsX1_cellsOff_r1 ++ wsX1_cellsOff_r2) ++ wsX10 ++ wsX00)
def wsX1_off_r1 : List Cond := [Cond.methodLink RX1 157 yX1_refuseNoPattern, Cond.static yX1_refuseNoPattern, Cond.initialized RX1, Cond.code yX1_refuseNoPattern cX1_refuseNoPattern 3 none, Cond.classLink RX1 42 "java/lang/IllegalArgumentException", Cond.initialized "java/lang/IllegalArgumentException", Cond.methodLink RX1 38 yX1_within, Cond.static yX1_within, Cond.code yX1_within cX1_within 3 (some .boolean), Cond.methodLink RX1 68 yX1_isColour, Cond.static yX1_isColour, Cond.code yX1_isColour cX1_isColour 1 (some .boolean), Cond.methodLink RX1 161 yX1_cellsOff, Cond.instanceMethod yX1_cellsOff, Cond.selects RX1 yX1_cellsOff yX1_cellsOff, Cond.code yX1_cellsOff cX1_cellsOff 7 (some .int), Cond.methodLink RX1 229 yX1_fits, Cond.instanceMethod yX1_fits, Cond.selects RX1 yX1_fits yX1_fits, Cond.code yX1_fits cX1_fits 7 (some .boolean), Cond.methodLink RX1 49 yX1_cellOf, Cond.static yX1_cellOf, Cond.code yX1_cellOf cX1_cellOf 2 (some .int), Cond.methodLink RX1 217 yX1_colourAt]
def wsX1_off_r2 : List Cond := [Cond.instanceMethod yX1_colourAt, Cond.selects RX1 yX1_colourAt yX1_colourAt, Cond.code yX1_colourAt cX1_colourAt 3 (some .int), Cond.fieldLink RX1 13 "WetMosaic" "cover" "[I", Cond.methodLink RX1 53 yX1_at, Cond.static yX1_at, Cond.code yX1_at cX1_at 2 (some .int), Cond.methodLink RX1 94 yX1_find, Cond.instanceMethod yX1_find, Cond.selects RX1 yX1_find yX1_find, Cond.code yX1_find cX1_find 2 (some (.object "WetMosaic$Piece")), Cond.fieldLink RX1 74 "WetMosaic" "pressed" "I", Cond.fieldLink RX1 21 "WetMosaic" "pieces" "[LWetMosaic$Piece;", Cond.methodLink RX1 117 yX0_shownColour, Cond.instanceMethod yX0_shownColour, Cond.selects RX0 yX0_shownColour yX0_shownColour, Cond.initialized RX0, Cond.code yX0_shownColour cX0_shownColour 1 (some .int), Cond.fieldLink RX0 29 "WetMosaic$Piece" "showsBack" "Z", Cond.fieldLink RX0 26 "WetMosaic$Piece" "back" "I", Cond.fieldLink RX0 23 "WetMosaic$Piece" "front" "I"]
def wsX1_off : List Cond := .code yX1_off cX1_off 4 (some .int) :: ((wsX1_off_r1 ++ wsX1_off_r2) ++ wsX10 ++ wsX00 ++ (vx_atS RX1 46 "java/lang/IllegalArgumentException" ["java/lang/RuntimeException", "java/lang/Exception"]).filter goodWord)
def wsX1_cellsOffFlipped_r1 : List Cond := [Cond.fieldLink RX1 106 "WetMosaic$Piece" "showsBack" "Z", Cond.methodLink RX1 161 yX1_cellsOff, Cond.instanceMethod yX1_cellsOff, Cond.selects RX1 yX1_cellsOff yX1_cellsOff, Cond.initialized RX1, Cond.code yX1_cellsOff cX1_cellsOff 7 (some .int), Cond.methodLink RX1 229 yX1_fits, Cond.instanceMethod yX1_fits, Cond.selects RX1 yX1_fits yX1_fits, Cond.code yX1_fits cX1_fits 7 (some .boolean), Cond.methodLink RX1 49 yX1_cellOf, Cond.static yX1_cellOf, Cond.code yX1_cellOf cX1_cellOf 2 (some .int), Cond.methodLink RX1 217 yX1_colourAt, Cond.instanceMethod yX1_colourAt, Cond.selects RX1 yX1_colourAt yX1_colourAt, Cond.code yX1_colourAt cX1_colourAt 3 (some .int), Cond.fieldLink RX1 13 "WetMosaic" "cover" "[I", Cond.methodLink RX1 53 yX1_at, Cond.static yX1_at, Cond.code yX1_at cX1_at 2 (some .int), Cond.methodLink RX1 38 yX1_within, Cond.static yX1_within, Cond.code yX1_within cX1_within 3 (some .boolean)]
def wsX1_cellsOffFlipped_r2 : List Cond := [Cond.methodLink RX1 94 yX1_find, Cond.instanceMethod yX1_find, Cond.selects RX1 yX1_find yX1_find, Cond.code yX1_find cX1_find 2 (some (.object "WetMosaic$Piece")), Cond.fieldLink RX1 74 "WetMosaic" "pressed" "I", Cond.fieldLink RX1 21 "WetMosaic" "pieces" "[LWetMosaic$Piece;", Cond.methodLink RX1 117 yX0_shownColour, Cond.instanceMethod yX0_shownColour, Cond.selects RX0 yX0_shownColour yX0_shownColour, Cond.initialized RX0, Cond.code yX0_shownColour cX0_shownColour 1 (some .int), Cond.fieldLink RX0 29 "WetMosaic$Piece" "showsBack" "Z", Cond.fieldLink RX0 26 "WetMosaic$Piece" "back" "I", Cond.fieldLink RX0 23 "WetMosaic$Piece" "front" "I"]
def wsX1_cellsOffFlipped : List Cond := .code yX1_cellsOffFlipped cX1_cellsOffFlipped 6 (some .int) :: ((wsX1_cellsOffFlipped_r1 ++ wsX1_cellsOffFlipped_r2) ++ wsX00 ++ wsX10)
def wsX1_advise_r1 : List Cond := [Cond.fieldLink RX1 74 "WetMosaic" "pressed" "I", Cond.fieldLink RX1 9 "WetMosaic" "wet" "[I", Cond.methodLink RX1 157 yX1_refuseNoPattern, Cond.static yX1_refuseNoPattern, Cond.initialized RX1, Cond.code yX1_refuseNoPattern cX1_refuseNoPattern 3 none, Cond.classLink RX1 42 "java/lang/IllegalArgumentException", Cond.initialized "java/lang/IllegalArgumentException", Cond.methodLink RX1 38 yX1_within, Cond.static yX1_within, Cond.code yX1_within cX1_within 3 (some .boolean), Cond.methodLink RX1 68 yX1_isColour, Cond.static yX1_isColour, Cond.code yX1_isColour cX1_isColour 1 (some .boolean), Cond.methodLink RX1 161 yX1_cellsOff, Cond.instanceMethod yX1_cellsOff, Cond.selects RX1 yX1_cellsOff yX1_cellsOff, Cond.code yX1_cellsOff cX1_cellsOff 7 (some .int), Cond.methodLink RX1 229 yX1_fits, Cond.instanceMethod yX1_fits, Cond.selects RX1 yX1_fits yX1_fits, Cond.code yX1_fits cX1_fits 7 (some .boolean), Cond.methodLink RX1 49 yX1_cellOf, Cond.static yX1_cellOf]
def wsX1_advise_r2 : List Cond := [Cond.code yX1_cellOf cX1_cellOf 2 (some .int), Cond.methodLink RX1 217 yX1_colourAt, Cond.instanceMethod yX1_colourAt, Cond.selects RX1 yX1_colourAt yX1_colourAt, Cond.code yX1_colourAt cX1_colourAt 3 (some .int), Cond.fieldLink RX1 13 "WetMosaic" "cover" "[I", Cond.methodLink RX1 53 yX1_at, Cond.static yX1_at, Cond.code yX1_at cX1_at 2 (some .int), Cond.methodLink RX1 94 yX1_find, Cond.instanceMethod yX1_find, Cond.selects RX1 yX1_find yX1_find, Cond.code yX1_find cX1_find 2 (some (.object "WetMosaic$Piece")), Cond.fieldLink RX1 21 "WetMosaic" "pieces" "[LWetMosaic$Piece;", Cond.methodLink RX1 117 yX0_shownColour, Cond.instanceMethod yX0_shownColour, Cond.selects RX0 yX0_shownColour yX0_shownColour, Cond.initialized RX0, Cond.code yX0_shownColour cX0_shownColour 1 (some .int), Cond.fieldLink RX0 29 "WetMosaic$Piece" "showsBack" "Z", Cond.fieldLink RX0 26 "WetMosaic$Piece" "back" "I", Cond.fieldLink RX0 23 "WetMosaic$Piece" "front" "I", Cond.methodLink RX1 100 yX1_isLoose, Cond.static yX1_isLoose]
def wsX1_advise_r3 : List Cond := [Cond.code yX1_isLoose cX1_isLoose 3 (some .boolean), Cond.fieldLink RX1 132 "WetMosaic$Piece" "out" "Z", Cond.fieldLink RX1 110 "WetMosaic$Piece" "length" "I", Cond.methodLink RX1 113 yX0_cellAt, Cond.instanceMethod yX0_cellAt, Cond.selects RX0 yX0_cellAt yX0_cellAt, Cond.code yX0_cellAt cX0_cellAt 2 (some .int), Cond.fieldLink RX0 19 "WetMosaic$Piece" "across" "Z", Cond.fieldLink RX0 7 "WetMosaic$Piece" "x" "I", Cond.fieldLink RX0 13 "WetMosaic$Piece" "y" "I", Cond.methodLink RX1 165 yX1_cellsOffFlipped, Cond.instanceMethod yX1_cellsOffFlipped, Cond.selects RX1 yX1_cellsOffFlipped yX1_cellsOffFlipped, Cond.code yX1_cellsOffFlipped cX1_cellsOffFlipped 6 (some .int), Cond.fieldLink RX1 106 "WetMosaic$Piece" "showsBack" "Z"]
def wsX1_advise : List Cond := .code yX1_advise cX1_advise 9 (some .int) :: ((wsX1_advise_r1 ++ (wsX1_advise_r2 ++ wsX1_advise_r3)) ++ wsX10 ++ wsX00 ++ (vx_atS RX1 46 "java/lang/IllegalArgumentException" ["java/lang/RuntimeException", "java/lang/Exception"]).filter goodWord)
def wsX1_piecesForMarks : List Cond := .code yX1_piecesForMarks cX1_piecesForMarks 8 (some .int) :: ([.fieldLink RX1 28 "WetMosaic" "marks" "[I", .methodLink RX1 49 yX1_cellOf, .static yX1_cellOf, .initialized RX1, .code yX1_cellOf cX1_cellOf 2 (some .int), .methodLink RX1 53 yX1_at, .static yX1_at, .code yX1_at cX1_at 2 (some .int), .methodLink RX1 38 yX1_within, .static yX1_within, .code yX1_within cX1_within 3 (some .boolean)] ++ wsX10)
def wsX1_mends_r1 : List Cond := [Cond.methodLink RX1 34 yX1_refuseOutside, Cond.static yX1_refuseOutside, Cond.initialized RX1, Cond.code yX1_refuseOutside cX1_refuseOutside 2 none, Cond.classLink RX1 61 "java/lang/IndexOutOfBoundsException", Cond.initialized "java/lang/IndexOutOfBoundsException", Cond.methodLink RX1 206 yX1_isOnWall, Cond.static yX1_isOnWall, Cond.code yX1_isOnWall cX1_isOnWall 2 (some .boolean), Cond.methodLink RX1 38 yX1_within, Cond.static yX1_within, Cond.code yX1_within cX1_within 3 (some .boolean), Cond.methodLink RX1 169 yX1_clearMarks, Cond.instanceMethod yX1_clearMarks, Cond.selects RX1 yX1_clearMarks yX1_clearMarks, Cond.code yX1_clearMarks cX1_clearMarks 2 none, Cond.fieldLink RX1 28 "WetMosaic" "marks" "[I", Cond.methodLink RX1 172 yX1_markGap, Cond.instanceMethod yX1_markGap, Cond.selects RX1 yX1_markGap yX1_markGap, Cond.code yX1_markGap cX1_markGap 6 (some .int), Cond.fieldLink RX1 31 "WetMosaic" "found" "[I", Cond.methodLink RX1 233 yX1_reach, Cond.instanceMethod yX1_reach]
def wsX1_mends_r2 : List Cond := [Cond.selects RX1 yX1_reach yX1_reach, Cond.code yX1_reach cX1_reach 5 (some .int), Cond.fieldLink RX1 13 "WetMosaic" "cover" "[I", Cond.methodLink RX1 49 yX1_cellOf, Cond.static yX1_cellOf, Cond.code yX1_cellOf cX1_cellOf 2 (some .int), Cond.methodLink RX1 53 yX1_at, Cond.static yX1_at, Cond.code yX1_at cX1_at 2 (some .int), Cond.methodLink RX1 57 yX1_put, Cond.static yX1_put, Cond.code yX1_put cX1_put 3 none, Cond.methodLink RX1 175 yX1_piecesForMarks, Cond.instanceMethod yX1_piecesForMarks, Cond.selects RX1 yX1_piecesForMarks yX1_piecesForMarks, Cond.code yX1_piecesForMarks cX1_piecesForMarks 8 (some .int)]
def wsX1_mends : List Cond := .code yX1_mends cX1_mends 4 (some .int) :: ((wsX1_mends_r1 ++ wsX1_mends_r2) ++ wsX10 ++ (vx_atS RX1 65 "java/lang/IndexOutOfBoundsException" ["java/lang/RuntimeException", "java/lang/Exception"]).filter goodWord)
def wsX1_gap_r1 : List Cond := [Cond.methodLink RX1 34 yX1_refuseOutside, Cond.static yX1_refuseOutside, Cond.initialized RX1, Cond.code yX1_refuseOutside cX1_refuseOutside 2 none, Cond.classLink RX1 61 "java/lang/IndexOutOfBoundsException", Cond.initialized "java/lang/IndexOutOfBoundsException", Cond.methodLink RX1 206 yX1_isOnWall, Cond.static yX1_isOnWall, Cond.code yX1_isOnWall cX1_isOnWall 2 (some .boolean), Cond.methodLink RX1 38 yX1_within, Cond.static yX1_within, Cond.code yX1_within cX1_within 3 (some .boolean), Cond.methodLink RX1 169 yX1_clearMarks, Cond.instanceMethod yX1_clearMarks, Cond.selects RX1 yX1_clearMarks yX1_clearMarks, Cond.code yX1_clearMarks cX1_clearMarks 2 none, Cond.fieldLink RX1 28 "WetMosaic" "marks" "[I", Cond.methodLink RX1 172 yX1_markGap, Cond.instanceMethod yX1_markGap, Cond.selects RX1 yX1_markGap yX1_markGap, Cond.code yX1_markGap cX1_markGap 6 (some .int), Cond.fieldLink RX1 31 "WetMosaic" "found" "[I", Cond.methodLink RX1 233 yX1_reach, Cond.instanceMethod yX1_reach]
def wsX1_gap_r2 : List Cond := [Cond.selects RX1 yX1_reach yX1_reach, Cond.code yX1_reach cX1_reach 5 (some .int), Cond.fieldLink RX1 13 "WetMosaic" "cover" "[I", Cond.methodLink RX1 49 yX1_cellOf, Cond.static yX1_cellOf, Cond.code yX1_cellOf cX1_cellOf 2 (some .int), Cond.methodLink RX1 53 yX1_at, Cond.static yX1_at, Cond.code yX1_at cX1_at 2 (some .int), Cond.methodLink RX1 57 yX1_put, Cond.static yX1_put, Cond.code yX1_put cX1_put 3 none]
def wsX1_gap : List Cond := .code yX1_gap cX1_gap 3 (some .int) :: ((wsX1_gap_r1 ++ wsX1_gap_r2) ++ wsX10 ++ (vx_atS RX1 65 "java/lang/IndexOutOfBoundsException" ["java/lang/RuntimeException", "java/lang/Exception"]).filter goodWord)
def wsJ9_floorMod_7cf53 : List Cond := .code yJ9_floorMod_7cf53 cJ9_floorMod_7cf53 3 (some .int) :: ([])
def wsX1_dryOneHour : List Cond := .code yX1_dryOneHour cX1_dryOneHour 7 none :: ([.fieldLink RX1 16 "WetMosaic" "sun" "[I", .fieldLink RX1 13 "WetMosaic" "cover" "[I", .methodLink RX1 241 Lib.Math.max.name, .static Lib.Math.max.name, .initialized "java/lang/Math", .code Lib.Math.max.name Lib.Math.max.code 2 (some .int), .methodLink RX1 236 yJ9_floorMod_7cf53, .static yJ9_floorMod_7cf53, .initialized RJ9, .code yJ9_floorMod_7cf53 cJ9_floorMod_7cf53 3 (some .int), .methodLink RX1 53 yX1_at, .static yX1_at, .initialized RX1, .code yX1_at cX1_at 2 (some .int), .methodLink RX1 38 yX1_within, .static yX1_within, .code yX1_within cX1_within 3 (some .boolean), .methodLink RX1 57 yX1_put, .static yX1_put, .code yX1_put cX1_put 3 none] ++ wsX10)
def wsX1_pass_r1 : List Cond := [Cond.classLink RX1 42 "java/lang/IllegalArgumentException", Cond.initialized "java/lang/IllegalArgumentException", Cond.fieldLink RX1 9 "WetMosaic" "wet" "[I", Cond.fieldLink RX1 181 "WetMosaic" "hour" "I", Cond.methodLink RX1 38 yX1_within, Cond.static yX1_within, Cond.initialized RX1, Cond.code yX1_within cX1_within 3 (some .boolean), Cond.methodLink RX1 184 yX1_dryOneHour, Cond.instanceMethod yX1_dryOneHour, Cond.selects RX1 yX1_dryOneHour yX1_dryOneHour, Cond.code yX1_dryOneHour cX1_dryOneHour 7 none, Cond.fieldLink RX1 16 "WetMosaic" "sun" "[I", Cond.fieldLink RX1 13 "WetMosaic" "cover" "[I", Cond.methodLink RX1 241 Lib.Math.max.name, Cond.static Lib.Math.max.name, Cond.initialized "java/lang/Math", Cond.code Lib.Math.max.name Lib.Math.max.code 2 (some .int), Cond.methodLink RX1 236 yJ9_floorMod_7cf53, Cond.static yJ9_floorMod_7cf53, Cond.initialized RJ9, Cond.code yJ9_floorMod_7cf53 cJ9_floorMod_7cf53 3 (some .int), Cond.methodLink RX1 53 yX1_at, Cond.static yX1_at]
def wsX1_pass_r2 : List Cond := [Cond.code yX1_at cX1_at 2 (some .int), Cond.methodLink RX1 57 yX1_put, Cond.static yX1_put, Cond.code yX1_put cX1_put 3 none, Cond.methodLink RX1 188 yX1_loosePieces, Cond.instanceMethod yX1_loosePieces, Cond.selects RX1 yX1_loosePieces yX1_loosePieces, Cond.code yX1_loosePieces cX1_loosePieces 4 (some .int), Cond.fieldLink RX1 74 "WetMosaic" "pressed" "I", Cond.methodLink RX1 94 yX1_find, Cond.instanceMethod yX1_find, Cond.selects RX1 yX1_find yX1_find, Cond.code yX1_find cX1_find 2 (some (.object "WetMosaic$Piece")), Cond.fieldLink RX1 21 "WetMosaic" "pieces" "[LWetMosaic$Piece;", Cond.methodLink RX1 100 yX1_isLoose, Cond.static yX1_isLoose, Cond.code yX1_isLoose cX1_isLoose 3 (some .boolean), Cond.fieldLink RX1 132 "WetMosaic$Piece" "out" "Z", Cond.fieldLink RX1 110 "WetMosaic$Piece" "length" "I", Cond.methodLink RX1 113 yX0_cellAt, Cond.instanceMethod yX0_cellAt, Cond.selects RX0 yX0_cellAt yX0_cellAt, Cond.initialized RX0, Cond.code yX0_cellAt cX0_cellAt 2 (some .int)]
def wsX1_pass_r3 : List Cond := [Cond.fieldLink RX0 19 "WetMosaic$Piece" "across" "Z", Cond.fieldLink RX0 7 "WetMosaic$Piece" "x" "I", Cond.fieldLink RX0 13 "WetMosaic$Piece" "y" "I", Cond.static yX1_cellOf, Cond.code yX1_cellOf cX1_cellOf 2 (some .int)]
def wsX1_pass : List Cond := .code yX1_pass cX1_pass 3 (some .int) :: ((wsX1_pass_r1 ++ (wsX1_pass_r2 ++ wsX1_pass_r3)) ++ wsX10 ++ wsX00 ++ (vx_atS RX1 46 "java/lang/IllegalArgumentException" ["java/lang/RuntimeException", "java/lang/Exception"]).filter goodWord)
def wsX1_loose_r1 : List Cond := [Cond.classLink RX1 61 "java/lang/IndexOutOfBoundsException", Cond.initialized "java/lang/IndexOutOfBoundsException", Cond.fieldLink RX1 9 "WetMosaic" "wet" "[I", Cond.fieldLink RX1 25 "WetMosaic" "foreseen" "[I", Cond.methodLink RX1 191 arraycopyName, Cond.native arraycopyName, Cond.static arraycopyName, Cond.initialized "java/lang/System", Cond.fieldLink RX1 181 "WetMosaic" "hour" "I", Cond.methodLink RX1 94 yX1_find, Cond.instanceMethod yX1_find, Cond.selects RX1 yX1_find yX1_find, Cond.initialized RX1, Cond.code yX1_find cX1_find 2 (some (.object "WetMosaic$Piece")), Cond.fieldLink RX1 74 "WetMosaic" "pressed" "I", Cond.fieldLink RX1 21 "WetMosaic" "pieces" "[LWetMosaic$Piece;", Cond.methodLink RX1 38 yX1_within, Cond.static yX1_within, Cond.code yX1_within cX1_within 3 (some .boolean), Cond.methodLink RX1 100 yX1_isLoose, Cond.static yX1_isLoose, Cond.code yX1_isLoose cX1_isLoose 3 (some .boolean), Cond.fieldLink RX1 132 "WetMosaic$Piece" "out" "Z", Cond.fieldLink RX1 110 "WetMosaic$Piece" "length" "I"]
def wsX1_loose_r2 : List Cond := [Cond.methodLink RX1 113 yX0_cellAt, Cond.instanceMethod yX0_cellAt, Cond.selects RX0 yX0_cellAt yX0_cellAt, Cond.initialized RX0, Cond.code yX0_cellAt cX0_cellAt 2 (some .int), Cond.fieldLink RX0 19 "WetMosaic$Piece" "across" "Z", Cond.fieldLink RX0 7 "WetMosaic$Piece" "x" "I", Cond.fieldLink RX0 13 "WetMosaic$Piece" "y" "I", Cond.static yX1_cellOf, Cond.code yX1_cellOf cX1_cellOf 2 (some .int), Cond.methodLink RX1 53 yX1_at, Cond.static yX1_at, Cond.code yX1_at cX1_at 2 (some .int), Cond.methodLink RX1 184 yX1_dryOneHour, Cond.instanceMethod yX1_dryOneHour, Cond.selects RX1 yX1_dryOneHour yX1_dryOneHour, Cond.code yX1_dryOneHour cX1_dryOneHour 7 none, Cond.fieldLink RX1 16 "WetMosaic" "sun" "[I", Cond.fieldLink RX1 13 "WetMosaic" "cover" "[I", Cond.methodLink RX1 241 Lib.Math.max.name, Cond.static Lib.Math.max.name, Cond.initialized "java/lang/Math", Cond.code Lib.Math.max.name Lib.Math.max.code 2 (some .int), Cond.methodLink RX1 236 yJ9_floorMod_7cf53]
def wsX1_loose_r3 : List Cond := [Cond.static yJ9_floorMod_7cf53, Cond.initialized RJ9, Cond.code yJ9_floorMod_7cf53 cJ9_floorMod_7cf53 3 (some .int), Cond.methodLink RX1 57 yX1_put, Cond.static yX1_put, Cond.code yX1_put cX1_put 3 none]
def wsX1_loose : List Cond := .code yX1_loose cX1_loose 4 (some .int) :: ((wsX1_loose_r1 ++ (wsX1_loose_r2 ++ wsX1_loose_r3)) ++ wsX10 ++ wsX00 ++ (vx_atS RX1 65 "java/lang/IndexOutOfBoundsException" ["java/lang/RuntimeException", "java/lang/Exception"]).filter goodWord)
def wsX1_dry_r1 : List Cond := [Cond.fieldLink RX1 9 "WetMosaic" "wet" "[I", Cond.fieldLink RX1 25 "WetMosaic" "foreseen" "[I", Cond.methodLink RX1 191 arraycopyName, Cond.native arraycopyName, Cond.static arraycopyName, Cond.initialized "java/lang/System", Cond.fieldLink RX1 181 "WetMosaic" "hour" "I", Cond.methodLink RX1 197 yX1_cellsFrom, Cond.static yX1_cellsFrom, Cond.initialized RX1, Cond.code yX1_cellsFrom cX1_cellsFrom 4 (some .int), Cond.methodLink RX1 184 yX1_dryOneHour, Cond.instanceMethod yX1_dryOneHour, Cond.selects RX1 yX1_dryOneHour yX1_dryOneHour, Cond.code yX1_dryOneHour cX1_dryOneHour 7 none, Cond.fieldLink RX1 16 "WetMosaic" "sun" "[I", Cond.fieldLink RX1 13 "WetMosaic" "cover" "[I", Cond.methodLink RX1 241 Lib.Math.max.name, Cond.static Lib.Math.max.name, Cond.initialized "java/lang/Math", Cond.code Lib.Math.max.name Lib.Math.max.code 2 (some .int), Cond.methodLink RX1 236 yJ9_floorMod_7cf53, Cond.static yJ9_floorMod_7cf53, Cond.initialized RJ9]
def wsX1_dry_r2 : List Cond := [Cond.code yJ9_floorMod_7cf53 cJ9_floorMod_7cf53 3 (some .int), Cond.methodLink RX1 53 yX1_at, Cond.static yX1_at, Cond.code yX1_at cX1_at 2 (some .int), Cond.methodLink RX1 38 yX1_within, Cond.static yX1_within, Cond.code yX1_within cX1_within 3 (some .boolean), Cond.methodLink RX1 57 yX1_put, Cond.static yX1_put, Cond.code yX1_put cX1_put 3 none]
def wsX1_dry : List Cond := .code yX1_dry cX1_dry 2 (some .int) :: ((wsX1_dry_r1 ++ wsX1_dry_r2) ++ wsX10)
def wsX1_share : List Cond := .code yX1_share cX1_share 1 (some .double) :: ([.fieldLink RX1 13 "WetMosaic" "cover" "[I", .constantDouble RX1 200 (4635329916471083008), .methodLink RX1 197 yX1_cellsFrom, .static yX1_cellsFrom, .initialized RX1, .code yX1_cellsFrom cX1_cellsFrom 4 (some .int)] ++ wsX10)
def wsX1_digest_r1 : List Cond := [Cond.constantLong RX1 202 (967), Cond.constantLong RX1 204 (31), Cond.fieldLink RX1 74 "WetMosaic" "pressed" "I", Cond.fieldLink RX1 16 "WetMosaic" "sun" "[I", Cond.methodLink RX1 154 yX1_countFact, Cond.instanceMethod yX1_countFact, Cond.selects RX1 yX1_countFact yX1_countFact, Cond.initialized RX1, Cond.code yX1_countFact cX1_countFact 2 (some .int), Cond.fieldLink RX1 181 "WetMosaic" "hour" "I", Cond.fieldLink RX1 9 "WetMosaic" "wet" "[I", Cond.fieldLink RX1 13 "WetMosaic" "cover" "[I", Cond.methodLink RX1 223 yX1_piecesIn, Cond.instanceMethod yX1_piecesIn, Cond.selects RX1 yX1_piecesIn yX1_piecesIn, Cond.code yX1_piecesIn cX1_piecesIn 4 (some .int), Cond.fieldLink RX1 132 "WetMosaic$Piece" "out" "Z", Cond.methodLink RX1 94 yX1_find, Cond.instanceMethod yX1_find, Cond.selects RX1 yX1_find yX1_find, Cond.code yX1_find cX1_find 2 (some (.object "WetMosaic$Piece")), Cond.fieldLink RX1 21 "WetMosaic" "pieces" "[LWetMosaic$Piece;", Cond.methodLink RX1 38 yX1_within, Cond.static yX1_within]
def wsX1_digest_r2 : List Cond := [Cond.code yX1_within cX1_within 3 (some .boolean), Cond.methodLink RX1 188 yX1_loosePieces, Cond.instanceMethod yX1_loosePieces, Cond.selects RX1 yX1_loosePieces yX1_loosePieces, Cond.code yX1_loosePieces cX1_loosePieces 4 (some .int), Cond.methodLink RX1 100 yX1_isLoose, Cond.static yX1_isLoose, Cond.code yX1_isLoose cX1_isLoose 3 (some .boolean), Cond.fieldLink RX1 110 "WetMosaic$Piece" "length" "I", Cond.methodLink RX1 113 yX0_cellAt, Cond.instanceMethod yX0_cellAt, Cond.selects RX0 yX0_cellAt yX0_cellAt, Cond.initialized RX0, Cond.code yX0_cellAt cX0_cellAt 2 (some .int), Cond.fieldLink RX0 19 "WetMosaic$Piece" "across" "Z", Cond.fieldLink RX0 7 "WetMosaic$Piece" "x" "I", Cond.fieldLink RX0 13 "WetMosaic$Piece" "y" "I", Cond.static yX1_cellOf, Cond.code yX1_cellOf cX1_cellOf 2 (some .int), Cond.methodLink RX1 53 yX1_at, Cond.static yX1_at, Cond.code yX1_at cX1_at 2 (some .int), Cond.methodLink RX1 197 yX1_cellsFrom, Cond.static yX1_cellsFrom]
def wsX1_digest_r3 : List Cond := [Cond.code yX1_cellsFrom cX1_cellsFrom 4 (some .int), Cond.methodLink RX1 226 yX1_gaps, Cond.instanceMethod yX1_gaps, Cond.selects RX1 yX1_gaps yX1_gaps, Cond.code yX1_gaps cX1_gaps 4 (some .int), Cond.methodLink RX1 169 yX1_clearMarks, Cond.instanceMethod yX1_clearMarks, Cond.selects RX1 yX1_clearMarks yX1_clearMarks, Cond.code yX1_clearMarks cX1_clearMarks 2 none, Cond.fieldLink RX1 28 "WetMosaic" "marks" "[I", Cond.methodLink RX1 172 yX1_markGap, Cond.instanceMethod yX1_markGap, Cond.selects RX1 yX1_markGap yX1_markGap, Cond.code yX1_markGap cX1_markGap 6 (some .int), Cond.fieldLink RX1 31 "WetMosaic" "found" "[I", Cond.methodLink RX1 233 yX1_reach, Cond.instanceMethod yX1_reach, Cond.selects RX1 yX1_reach yX1_reach, Cond.code yX1_reach cX1_reach 5 (some .int), Cond.methodLink RX1 49 yX1_cellOf, Cond.methodLink RX1 206 yX1_isOnWall, Cond.static yX1_isOnWall, Cond.code yX1_isOnWall cX1_isOnWall 2 (some .boolean), Cond.methodLink RX1 57 yX1_put]
def wsX1_digest_r4 : List Cond := [Cond.static yX1_put, Cond.code yX1_put cX1_put 3 none, Cond.methodLink RX1 143 yX1_cellFact, Cond.instanceMethod yX1_cellFact, Cond.selects RX1 yX1_cellFact yX1_cellFact, Cond.code yX1_cellFact cX1_cellFact 3 (some .int), Cond.methodLink RX1 217 yX1_colourAt, Cond.instanceMethod yX1_colourAt, Cond.selects RX1 yX1_colourAt yX1_colourAt, Cond.code yX1_colourAt cX1_colourAt 3 (some .int), Cond.methodLink RX1 117 yX0_shownColour, Cond.instanceMethod yX0_shownColour, Cond.selects RX0 yX0_shownColour yX0_shownColour, Cond.code yX0_shownColour cX0_shownColour 1 (some .int), Cond.fieldLink RX0 29 "WetMosaic$Piece" "showsBack" "Z", Cond.fieldLink RX0 26 "WetMosaic$Piece" "back" "I", Cond.fieldLink RX0 23 "WetMosaic$Piece" "front" "I", Cond.methodLink RX1 148 yX1_pieceFact, Cond.instanceMethod yX1_pieceFact, Cond.selects RX1 yX1_pieceFact yX1_pieceFact, Cond.code yX1_pieceFact cX1_pieceFact 3 (some .int), Cond.fieldLink RX1 121 "WetMosaic$Piece" "x" "I", Cond.fieldLink RX1 124 "WetMosaic$Piece" "y" "I", Cond.fieldLink RX1 127 "WetMosaic$Piece" "across" "Z"]
def wsX1_digest_r5 : List Cond := [Cond.methodLink RX1 220 yX0_otherColour, Cond.instanceMethod yX0_otherColour, Cond.selects RX0 yX0_otherColour yX0_otherColour, Cond.code yX0_otherColour cX0_otherColour 1 (some .int)]
def wsX1_digest : List Cond := .code yX1_digest cX1_digest 6 (some .long) :: ((wsX1_digest_r1 ++ (wsX1_digest_r2 ++ (wsX1_digest_r3 ++ (wsX1_digest_r4 ++ wsX1_digest_r5)))) ++ wsX10 ++ wsX00)
def wsX2_init : List Cond := .code yX2_init cX2_init 2 none :: ([.fieldLink RX2 3 "WetMosaicModel$State" "this$0" "LWetMosaicModel;", .methodLink RX2 9 objectInit, .instanceMethod objectInit, .code objectInit ⟨#[0xb1]⟩ 1 none, .arrayClass .int, .fieldLink RX2 15 "WetMosaicModel$State" "wet" "[I"] ++ wsX20)
def wsX2_become : List Cond := .code yX2_become cX2_become 2 none :: ([.fieldLink RX2 19 "WetMosaicModel$State" "hour" "I", .fieldLink RX2 15 "WetMosaicModel$State" "wet" "[I", .methodLink RX2 23 arraycopyName, .native arraycopyName, .static arraycopyName, .initialized "java/lang/System"] ++ wsX20)
def wsX2_pass : List Cond := .code yX2_pass cX2_pass 3 none :: ([.fieldLink RX2 3 "WetMosaicModel$State" "this$0" "LWetMosaicModel;", .fieldLink RX2 19 "WetMosaicModel$State" "hour" "I", .fieldLink RX2 15 "WetMosaicModel$State" "wet" "[I", .methodLink RX2 35 Lib.Math.max.name, .static Lib.Math.max.name, .initialized "java/lang/Math", .code Lib.Math.max.name Lib.Math.max.code 2 (some .int)] ++ wsX20 ++ wsX30)
def wsX2_wetOnes : List Cond := .code yX2_wetOnes cX2_wetOnes 6 (some .int) :: ([.fieldLink RX2 15 "WetMosaicModel$State" "wet" "[I"] ++ wsX20)
def wsX2_isLoose : List Cond := .code yX2_isLoose cX2_isLoose 4 (some .boolean) :: ([.fieldLink RX2 3 "WetMosaicModel$State" "this$0" "LWetMosaicModel;", .fieldLink RX2 15 "WetMosaicModel$State" "wet" "[I"] ++ wsX20 ++ wsX30)
def wsX3_init : List Cond := .code yX3_init cX3_init 2 none :: ([.methodLink RX3 3 objectInit, .instanceMethod objectInit, .code objectInit ⟨#[0xb1]⟩ 1 none, .arrayClass .int, .fieldLink RX3 9 "WetMosaicModel" "first" "[I", .fieldLink RX3 13 "WetMosaicModel" "length" "[I", .fieldLink RX3 16 "WetMosaicModel" "across" "[I", .fieldLink RX3 19 "WetMosaicModel" "seen" "[I", .fieldLink RX3 22 "WetMosaicModel" "hidden" "[I", .fieldLink RX3 25 "WetMosaicModel" "isOut" "[I", .fieldLink RX3 28 "WetMosaicModel" "cover" "[I", .fieldLink RX3 31 "WetMosaicModel" "sun" "[I", .fieldLink RX3 34 "WetMosaicModel" "row" "[I", .fieldLink RX3 37 "WetMosaicModel" "found" "[I", .classLink RX3 40 RX2, .instantiable RX2 3, .initialized RX2, .fieldLink RX3 45 "WetMosaicModel" "s" "LWetMosaicModel$State;", .fieldLink RX3 49 "WetMosaicModel" "ahead" "LWetMosaicModel$State;", .instanceMethod yX2_init, .code yX2_init cX2_init 2 none, .fieldLink RX2 3 "WetMosaicModel$State" "this$0" "LWetMosaicModel;", .methodLink RX2 9 objectInit, .fieldLink RX2 15 "WetMosaicModel$State" "wet" "[I"] ++ wsX30 ++ wsX20)
def wsX3_thrown : List Cond := .code yX3_thrown cX3_thrown 1 (some .int) :: ([.fieldLink RX3 55 "WetMosaicModel" "thrown" "I"] ++ wsX30)
def wsX3_no : List Cond := .code yX3_no cX3_no 2 (some .int) :: ([.fieldLink RX3 55 "WetMosaicModel" "thrown" "I"] ++ wsX30)
def wsX3_isIn : List Cond := .code yX3_isIn cX3_isIn 3 (some .boolean) :: ([])
def wsX3_isCell : List Cond := .code yX3_isCell cX3_isCell 2 (some .boolean) :: ([.methodLink RX3 59 yX3_isIn, .static yX3_isIn, .initialized RX3, .code yX3_isIn cX3_isIn 3 (some .boolean)])
def wsX3_isColour : List Cond := .code yX3_isColour cX3_isColour 1 (some .boolean) :: ([.methodLink RX3 59 yX3_isIn, .static yX3_isIn, .initialized RX3, .code yX3_isIn cX3_isIn 3 (some .boolean)])
def wsX3_isPiece : List Cond := .code yX3_isPiece cX3_isPiece 2 (some .boolean) :: ([.fieldLink RX3 63 "WetMosaicModel" "pieces" "I", .methodLink RX3 59 yX3_isIn, .static yX3_isIn, .initialized RX3, .code yX3_isIn cX3_isIn 3 (some .boolean)] ++ wsX30)
def wsX3_spread : List Cond := .code yX3_spread cX3_spread 8 (some .int) :: ([.fieldLink RX3 55 "WetMosaicModel" "thrown" "I", .fieldLink RX3 28 "WetMosaicModel" "cover" "[I", .fieldLink RX3 45 "WetMosaicModel" "s" "LWetMosaicModel$State;", .methodLink RX3 66 yX3_isCell, .static yX3_isCell, .initialized RX3, .code yX3_isCell cX3_isCell 2 (some .boolean), .methodLink RX3 59 yX3_isIn, .static yX3_isIn, .code yX3_isIn cX3_isIn 3 (some .boolean), .methodLink RX3 70 yX3_no, .instanceMethod yX3_no, .selects RX3 yX3_no yX3_no, .code yX3_no cX3_no 2 (some .int)] ++ wsX30 ++ wsX20)
def wsX3_setSun : List Cond := .code yX3_setSun cX3_setSun 4 (some .int) :: ([.fieldLink RX3 55 "WetMosaicModel" "thrown" "I", .fieldLink RX3 31 "WetMosaicModel" "sun" "[I", .methodLink RX3 59 yX3_isIn, .static yX3_isIn, .initialized RX3, .code yX3_isIn cX3_isIn 3 (some .boolean), .methodLink RX3 70 yX3_no, .instanceMethod yX3_no, .selects RX3 yX3_no yX3_no, .code yX3_no cX3_no 2 (some .int)] ++ wsX30)
def wsX3_canLie : List Cond := .code yX3_canLie cX3_canLie 8 (some .boolean) :: ([.fieldLink RX3 45 "WetMosaicModel" "s" "LWetMosaicModel$State;", .fieldLink RX3 28 "WetMosaicModel" "cover" "[I"] ++ wsX30 ++ wsX20)
def wsX3_coverBy : List Cond := .code yX3_coverBy cX3_coverBy 5 none :: ([.fieldLink RX3 16 "WetMosaicModel" "across" "[I", .fieldLink RX3 13 "WetMosaicModel" "length" "[I", .fieldLink RX3 28 "WetMosaicModel" "cover" "[I", .fieldLink RX3 9 "WetMosaicModel" "first" "[I"] ++ wsX30)
def wsX3_change : List Cond := .code yX3_change cX3_change 6 none :: ([.fieldLink RX3 16 "WetMosaicModel" "across" "[I", .fieldLink RX3 13 "WetMosaicModel" "length" "[I", .fieldLink RX3 9 "WetMosaicModel" "first" "[I", .fieldLink RX3 45 "WetMosaicModel" "s" "LWetMosaicModel$State;"] ++ wsX30 ++ wsX20)
def wsX3_press_r1 : List Cond := [Cond.fieldLink RX3 55 "WetMosaicModel" "thrown" "I", Cond.fieldLink RX3 63 "WetMosaicModel" "pieces" "I", Cond.fieldLink RX3 9 "WetMosaicModel" "first" "[I", Cond.fieldLink RX3 13 "WetMosaicModel" "length" "[I", Cond.fieldLink RX3 16 "WetMosaicModel" "across" "[I", Cond.fieldLink RX3 19 "WetMosaicModel" "seen" "[I", Cond.fieldLink RX3 22 "WetMosaicModel" "hidden" "[I", Cond.methodLink RX3 66 yX3_isCell, Cond.static yX3_isCell, Cond.initialized RX3, Cond.code yX3_isCell cX3_isCell 2 (some .boolean), Cond.methodLink RX3 59 yX3_isIn, Cond.static yX3_isIn, Cond.code yX3_isIn cX3_isIn 3 (some .boolean), Cond.methodLink RX3 70 yX3_no, Cond.instanceMethod yX3_no, Cond.selects RX3 yX3_no yX3_no, Cond.code yX3_no cX3_no 2 (some .int), Cond.methodLink RX3 74 yX3_isColour, Cond.static yX3_isColour, Cond.code yX3_isColour cX3_isColour 1 (some .boolean), Cond.methodLink RX3 78 yX3_canLie, Cond.instanceMethod yX3_canLie, Cond.selects RX3 yX3_canLie yX3_canLie]
def wsX3_press_r2 : List Cond := [Cond.code yX3_canLie cX3_canLie 8 (some .boolean), Cond.fieldLink RX3 45 "WetMosaicModel" "s" "LWetMosaicModel$State;", Cond.fieldLink RX3 28 "WetMosaicModel" "cover" "[I", Cond.methodLink RX3 82 yX3_coverBy, Cond.instanceMethod yX3_coverBy, Cond.selects RX3 yX3_coverBy yX3_coverBy, Cond.code yX3_coverBy cX3_coverBy 5 none]
def wsX3_press : List Cond := .code yX3_press cX3_press 7 (some .int) :: ((wsX3_press_r1 ++ wsX3_press_r2) ++ wsX30 ++ wsX20)
def wsX3_swap : List Cond := .code yX3_swap cX3_swap 3 none :: ([.fieldLink RX3 19 "WetMosaicModel" "seen" "[I", .fieldLink RX3 22 "WetMosaicModel" "hidden" "[I"] ++ wsX30)
def wsX3_flip_r1 : List Cond := [Cond.fieldLink RX3 55 "WetMosaicModel" "thrown" "I", Cond.fieldLink RX3 45 "WetMosaicModel" "s" "LWetMosaicModel$State;", Cond.fieldLink RX3 19 "WetMosaicModel" "seen" "[I", Cond.methodLink RX3 86 yX3_isPiece, Cond.instanceMethod yX3_isPiece, Cond.selects RX3 yX3_isPiece yX3_isPiece, Cond.initialized RX3, Cond.code yX3_isPiece cX3_isPiece 2 (some .boolean), Cond.fieldLink RX3 63 "WetMosaicModel" "pieces" "I", Cond.methodLink RX3 59 yX3_isIn, Cond.static yX3_isIn, Cond.code yX3_isIn cX3_isIn 3 (some .boolean), Cond.methodLink RX3 70 yX3_no, Cond.instanceMethod yX3_no, Cond.selects RX3 yX3_no yX3_no, Cond.code yX3_no cX3_no 2 (some .int), Cond.methodLink RX3 89 yX2_isLoose, Cond.instanceMethod yX2_isLoose, Cond.selects RX2 yX2_isLoose yX2_isLoose, Cond.initialized RX2, Cond.code yX2_isLoose cX2_isLoose 4 (some .boolean), Cond.fieldLink RX2 3 "WetMosaicModel$State" "this$0" "LWetMosaicModel;", Cond.fieldLink RX2 15 "WetMosaicModel$State" "wet" "[I", Cond.methodLink RX3 92 yX3_swap]
def wsX3_flip_r2 : List Cond := [Cond.instanceMethod yX3_swap, Cond.selects RX3 yX3_swap yX3_swap, Cond.code yX3_swap cX3_swap 3 none, Cond.fieldLink RX3 22 "WetMosaicModel" "hidden" "[I", Cond.methodLink RX3 96 yX3_change, Cond.instanceMethod yX3_change, Cond.selects RX3 yX3_change yX3_change, Cond.code yX3_change cX3_change 6 none, Cond.fieldLink RX3 16 "WetMosaicModel" "across" "[I", Cond.fieldLink RX3 13 "WetMosaicModel" "length" "[I", Cond.fieldLink RX3 9 "WetMosaicModel" "first" "[I"]
def wsX3_flip : List Cond := .code yX3_flip cX3_flip 2 (some .int) :: ((wsX3_flip_r1 ++ wsX3_flip_r2) ++ wsX30 ++ wsX20)
def wsX3_turn_r1 : List Cond := [Cond.fieldLink RX3 55 "WetMosaicModel" "thrown" "I", Cond.fieldLink RX3 45 "WetMosaicModel" "s" "LWetMosaicModel$State;", Cond.fieldLink RX3 9 "WetMosaicModel" "first" "[I", Cond.fieldLink RX3 13 "WetMosaicModel" "length" "[I", Cond.fieldLink RX3 16 "WetMosaicModel" "across" "[I", Cond.methodLink RX3 86 yX3_isPiece, Cond.instanceMethod yX3_isPiece, Cond.selects RX3 yX3_isPiece yX3_isPiece, Cond.initialized RX3, Cond.code yX3_isPiece cX3_isPiece 2 (some .boolean), Cond.fieldLink RX3 63 "WetMosaicModel" "pieces" "I", Cond.methodLink RX3 59 yX3_isIn, Cond.static yX3_isIn, Cond.code yX3_isIn cX3_isIn 3 (some .boolean), Cond.methodLink RX3 70 yX3_no, Cond.instanceMethod yX3_no, Cond.selects RX3 yX3_no yX3_no, Cond.code yX3_no cX3_no 2 (some .int), Cond.methodLink RX3 89 yX2_isLoose, Cond.instanceMethod yX2_isLoose, Cond.selects RX2 yX2_isLoose yX2_isLoose, Cond.initialized RX2, Cond.code yX2_isLoose cX2_isLoose 4 (some .boolean), Cond.fieldLink RX2 3 "WetMosaicModel$State" "this$0" "LWetMosaicModel;"]
def wsX3_turn_r2 : List Cond := [Cond.fieldLink RX2 15 "WetMosaicModel$State" "wet" "[I", Cond.methodLink RX3 78 yX3_canLie, Cond.instanceMethod yX3_canLie, Cond.selects RX3 yX3_canLie yX3_canLie, Cond.code yX3_canLie cX3_canLie 8 (some .boolean), Cond.fieldLink RX3 28 "WetMosaicModel" "cover" "[I", Cond.methodLink RX3 82 yX3_coverBy, Cond.instanceMethod yX3_coverBy, Cond.selects RX3 yX3_coverBy yX3_coverBy, Cond.code yX3_coverBy cX3_coverBy 5 none]
def wsX3_turn : List Cond := .code yX3_turn cX3_turn 2 (some .int) :: ((wsX3_turn_r1 ++ wsX3_turn_r2) ++ wsX30 ++ wsX20)
def wsX3_take_r1 : List Cond := [Cond.fieldLink RX3 55 "WetMosaicModel" "thrown" "I", Cond.fieldLink RX3 25 "WetMosaicModel" "isOut" "[I", Cond.fieldLink RX3 45 "WetMosaicModel" "s" "LWetMosaicModel$State;", Cond.methodLink RX3 86 yX3_isPiece, Cond.instanceMethod yX3_isPiece, Cond.selects RX3 yX3_isPiece yX3_isPiece, Cond.initialized RX3, Cond.code yX3_isPiece cX3_isPiece 2 (some .boolean), Cond.fieldLink RX3 63 "WetMosaicModel" "pieces" "I", Cond.methodLink RX3 59 yX3_isIn, Cond.static yX3_isIn, Cond.code yX3_isIn cX3_isIn 3 (some .boolean), Cond.methodLink RX3 70 yX3_no, Cond.instanceMethod yX3_no, Cond.selects RX3 yX3_no yX3_no, Cond.code yX3_no cX3_no 2 (some .int), Cond.methodLink RX3 89 yX2_isLoose, Cond.instanceMethod yX2_isLoose, Cond.selects RX2 yX2_isLoose yX2_isLoose, Cond.initialized RX2, Cond.code yX2_isLoose cX2_isLoose 4 (some .boolean), Cond.fieldLink RX2 3 "WetMosaicModel$State" "this$0" "LWetMosaicModel;", Cond.fieldLink RX2 15 "WetMosaicModel$State" "wet" "[I", Cond.methodLink RX3 96 yX3_change]
def wsX3_take_r2 : List Cond := [Cond.instanceMethod yX3_change, Cond.selects RX3 yX3_change yX3_change, Cond.code yX3_change cX3_change 6 none, Cond.fieldLink RX3 16 "WetMosaicModel" "across" "[I", Cond.fieldLink RX3 13 "WetMosaicModel" "length" "[I", Cond.fieldLink RX3 9 "WetMosaicModel" "first" "[I", Cond.methodLink RX3 82 yX3_coverBy, Cond.instanceMethod yX3_coverBy, Cond.selects RX3 yX3_coverBy yX3_coverBy, Cond.code yX3_coverBy cX3_coverBy 5 none, Cond.fieldLink RX3 28 "WetMosaicModel" "cover" "[I"]
def wsX3_take : List Cond := .code yX3_take cX3_take 3 (some .boolean) :: ((wsX3_take_r1 ++ wsX3_take_r2) ++ wsX30 ++ wsX20)
def wsX3_shown : List Cond := .code yX3_shown cX3_shown 2 (some .int) :: ([.fieldLink RX3 28 "WetMosaicModel" "cover" "[I", .fieldLink RX3 19 "WetMosaicModel" "seen" "[I"] ++ wsX30)
def wsX3_cellTold : List Cond := .code yX3_cellTold cX3_cellTold 3 (some .int) :: ([.fieldLink RX3 45 "WetMosaicModel" "s" "LWetMosaicModel$State;", .fieldLink RX3 28 "WetMosaicModel" "cover" "[I", .methodLink RX3 100 yX3_shown, .instanceMethod yX3_shown, .selects RX3 yX3_shown yX3_shown, .initialized RX3, .code yX3_shown cX3_shown 2 (some .int), .fieldLink RX3 19 "WetMosaicModel" "seen" "[I"] ++ wsX30 ++ wsX20)
def wsX3_cell : List Cond := .code yX3_cell cX3_cell 4 (some .int) :: ([.fieldLink RX3 55 "WetMosaicModel" "thrown" "I", .methodLink RX3 66 yX3_isCell, .static yX3_isCell, .initialized RX3, .code yX3_isCell cX3_isCell 2 (some .boolean), .methodLink RX3 59 yX3_isIn, .static yX3_isIn, .code yX3_isIn cX3_isIn 3 (some .boolean), .methodLink RX3 103 yX3_cellTold, .instanceMethod yX3_cellTold, .selects RX3 yX3_cellTold yX3_cellTold, .code yX3_cellTold cX3_cellTold 3 (some .int), .fieldLink RX3 45 "WetMosaicModel" "s" "LWetMosaicModel$State;", .fieldLink RX3 28 "WetMosaicModel" "cover" "[I", .methodLink RX3 100 yX3_shown, .instanceMethod yX3_shown, .selects RX3 yX3_shown yX3_shown, .code yX3_shown cX3_shown 2 (some .int), .fieldLink RX3 19 "WetMosaicModel" "seen" "[I", .methodLink RX3 70 yX3_no, .instanceMethod yX3_no, .selects RX3 yX3_no yX3_no, .code yX3_no cX3_no 2 (some .int)] ++ wsX30 ++ wsX20)
def wsX3_pieceTold : List Cond := .code yX3_pieceTold cX3_pieceTold 3 (some .int) :: ([.fieldLink RX3 9 "WetMosaicModel" "first" "[I", .fieldLink RX3 13 "WetMosaicModel" "length" "[I", .fieldLink RX3 16 "WetMosaicModel" "across" "[I", .fieldLink RX3 19 "WetMosaicModel" "seen" "[I", .fieldLink RX3 22 "WetMosaicModel" "hidden" "[I", .fieldLink RX3 45 "WetMosaicModel" "s" "LWetMosaicModel$State;", .fieldLink RX3 25 "WetMosaicModel" "isOut" "[I", .methodLink RX3 89 yX2_isLoose, .instanceMethod yX2_isLoose, .selects RX2 yX2_isLoose yX2_isLoose, .initialized RX2, .code yX2_isLoose cX2_isLoose 4 (some .boolean), .fieldLink RX2 3 "WetMosaicModel$State" "this$0" "LWetMosaicModel;", .fieldLink RX2 15 "WetMosaicModel$State" "wet" "[I"] ++ wsX30 ++ wsX20)
def wsX3_piece_r1 : List Cond := [Cond.fieldLink RX3 55 "WetMosaicModel" "thrown" "I", Cond.methodLink RX3 86 yX3_isPiece, Cond.instanceMethod yX3_isPiece, Cond.selects RX3 yX3_isPiece yX3_isPiece, Cond.initialized RX3, Cond.code yX3_isPiece cX3_isPiece 2 (some .boolean), Cond.fieldLink RX3 63 "WetMosaicModel" "pieces" "I", Cond.methodLink RX3 59 yX3_isIn, Cond.static yX3_isIn, Cond.code yX3_isIn cX3_isIn 3 (some .boolean), Cond.methodLink RX3 107 yX3_pieceTold, Cond.instanceMethod yX3_pieceTold, Cond.selects RX3 yX3_pieceTold yX3_pieceTold, Cond.code yX3_pieceTold cX3_pieceTold 3 (some .int), Cond.fieldLink RX3 9 "WetMosaicModel" "first" "[I", Cond.fieldLink RX3 13 "WetMosaicModel" "length" "[I", Cond.fieldLink RX3 16 "WetMosaicModel" "across" "[I", Cond.fieldLink RX3 19 "WetMosaicModel" "seen" "[I", Cond.fieldLink RX3 22 "WetMosaicModel" "hidden" "[I", Cond.fieldLink RX3 45 "WetMosaicModel" "s" "LWetMosaicModel$State;", Cond.fieldLink RX3 25 "WetMosaicModel" "isOut" "[I", Cond.methodLink RX3 89 yX2_isLoose, Cond.instanceMethod yX2_isLoose, Cond.selects RX2 yX2_isLoose yX2_isLoose]
def wsX3_piece_r2 : List Cond := [Cond.initialized RX2, Cond.code yX2_isLoose cX2_isLoose 4 (some .boolean), Cond.fieldLink RX2 3 "WetMosaicModel$State" "this$0" "LWetMosaicModel;", Cond.fieldLink RX2 15 "WetMosaicModel$State" "wet" "[I", Cond.methodLink RX3 70 yX3_no, Cond.instanceMethod yX3_no, Cond.selects RX3 yX3_no yX3_no, Cond.code yX3_no cX3_no 2 (some .int)]
def wsX3_piece : List Cond := .code yX3_piece cX3_piece 3 (some .int) :: ((wsX3_piece_r1 ++ wsX3_piece_r2) ++ wsX30 ++ wsX20)
def wsX3_looseOnes : List Cond := .code yX3_looseOnes cX3_looseOnes 3 (some .int) :: ([.fieldLink RX3 63 "WetMosaicModel" "pieces" "I", .fieldLink RX3 45 "WetMosaicModel" "s" "LWetMosaicModel$State;", .methodLink RX3 89 yX2_isLoose, .instanceMethod yX2_isLoose, .selects RX2 yX2_isLoose yX2_isLoose, .initialized RX2, .code yX2_isLoose cX2_isLoose 4 (some .boolean), .fieldLink RX2 3 "WetMosaicModel$State" "this$0" "LWetMosaicModel;", .fieldLink RX2 15 "WetMosaicModel$State" "wet" "[I"] ++ wsX30 ++ wsX20)
def wsX3_covered : List Cond := .code yX3_covered cX3_covered 6 (some .int) :: ([.fieldLink RX3 28 "WetMosaicModel" "cover" "[I"] ++ wsX30)
def wsX3_beside : List Cond := .code yX3_beside cX3_beside 4 (some .int) :: ([.methodLink RX3 66 yX3_isCell, .static yX3_isCell, .initialized RX3, .code yX3_isCell cX3_isCell 2 (some .boolean), .methodLink RX3 59 yX3_isIn, .static yX3_isIn, .code yX3_isIn cX3_isIn 3 (some .boolean)])
def wsX3_clear : List Cond := .code yX3_clear cX3_clear 2 none :: ([.fieldLink RX3 37 "WetMosaicModel" "found" "[I"] ++ wsX30)
def wsX3_fill : List Cond := .code yX3_fill cX3_fill 5 (some .int) :: ([.fieldLink RX3 37 "WetMosaicModel" "found" "[I", .fieldLink RX3 34 "WetMosaicModel" "row" "[I", .fieldLink RX3 28 "WetMosaicModel" "cover" "[I", .methodLink RX3 110 yX3_beside, .static yX3_beside, .initialized RX3, .code yX3_beside cX3_beside 4 (some .int), .methodLink RX3 66 yX3_isCell, .static yX3_isCell, .code yX3_isCell cX3_isCell 2 (some .boolean), .methodLink RX3 59 yX3_isIn, .static yX3_isIn, .code yX3_isIn cX3_isIn 3 (some .boolean)] ++ wsX30)
def wsX3_gaps : List Cond := .code yX3_gaps cX3_gaps 3 (some .int) :: ([.fieldLink RX3 28 "WetMosaicModel" "cover" "[I", .fieldLink RX3 37 "WetMosaicModel" "found" "[I", .methodLink RX3 113 yX3_clear, .instanceMethod yX3_clear, .selects RX3 yX3_clear yX3_clear, .initialized RX3, .code yX3_clear cX3_clear 2 none, .methodLink RX3 116 yX3_fill, .instanceMethod yX3_fill, .selects RX3 yX3_fill yX3_fill, .code yX3_fill cX3_fill 5 (some .int), .fieldLink RX3 34 "WetMosaicModel" "row" "[I", .methodLink RX3 110 yX3_beside, .static yX3_beside, .code yX3_beside cX3_beside 4 (some .int), .methodLink RX3 66 yX3_isCell, .static yX3_isCell, .code yX3_isCell cX3_isCell 2 (some .boolean), .methodLink RX3 59 yX3_isIn, .static yX3_isIn, .code yX3_isIn cX3_isIn 3 (some .boolean)] ++ wsX30)
def wsX3_counted_r1 : List Cond := [Cond.fieldLink RX3 45 "WetMosaicModel" "s" "LWetMosaicModel$State;", Cond.fieldLink RX3 63 "WetMosaicModel" "pieces" "I", Cond.fieldLink RX3 25 "WetMosaicModel" "isOut" "[I", Cond.methodLink RX3 122 yX3_looseOnes, Cond.instanceMethod yX3_looseOnes, Cond.selects RX3 yX3_looseOnes yX3_looseOnes, Cond.initialized RX3, Cond.code yX3_looseOnes cX3_looseOnes 3 (some .int), Cond.methodLink RX3 89 yX2_isLoose, Cond.instanceMethod yX2_isLoose, Cond.selects RX2 yX2_isLoose yX2_isLoose, Cond.initialized RX2, Cond.code yX2_isLoose cX2_isLoose 4 (some .boolean), Cond.fieldLink RX2 3 "WetMosaicModel$State" "this$0" "LWetMosaicModel;", Cond.fieldLink RX2 15 "WetMosaicModel$State" "wet" "[I", Cond.methodLink RX3 126 yX2_wetOnes, Cond.instanceMethod yX2_wetOnes, Cond.selects RX2 yX2_wetOnes yX2_wetOnes, Cond.code yX2_wetOnes cX2_wetOnes 6 (some .int), Cond.methodLink RX3 129 yX3_covered, Cond.instanceMethod yX3_covered, Cond.selects RX3 yX3_covered yX3_covered, Cond.code yX3_covered cX3_covered 6 (some .int), Cond.fieldLink RX3 28 "WetMosaicModel" "cover" "[I"]
def wsX3_counted_r2 : List Cond := [Cond.methodLink RX3 132 yX3_gaps, Cond.instanceMethod yX3_gaps, Cond.selects RX3 yX3_gaps yX3_gaps, Cond.code yX3_gaps cX3_gaps 3 (some .int), Cond.fieldLink RX3 37 "WetMosaicModel" "found" "[I", Cond.methodLink RX3 113 yX3_clear, Cond.instanceMethod yX3_clear, Cond.selects RX3 yX3_clear yX3_clear, Cond.code yX3_clear cX3_clear 2 none, Cond.methodLink RX3 116 yX3_fill, Cond.instanceMethod yX3_fill, Cond.selects RX3 yX3_fill yX3_fill, Cond.code yX3_fill cX3_fill 5 (some .int), Cond.fieldLink RX3 34 "WetMosaicModel" "row" "[I", Cond.methodLink RX3 110 yX3_beside, Cond.static yX3_beside, Cond.code yX3_beside cX3_beside 4 (some .int), Cond.methodLink RX3 66 yX3_isCell, Cond.static yX3_isCell, Cond.code yX3_isCell cX3_isCell 2 (some .boolean), Cond.methodLink RX3 59 yX3_isIn, Cond.static yX3_isIn, Cond.code yX3_isIn cX3_isIn 3 (some .boolean)]
def wsX3_counted : List Cond := .code yX3_counted cX3_counted 7 (some .int) :: ((wsX3_counted_r1 ++ wsX3_counted_r2) ++ wsX30 ++ wsX20)
def wsX3_count_r1 : List Cond := [Cond.fieldLink RX3 55 "WetMosaicModel" "thrown" "I", Cond.methodLink RX3 59 yX3_isIn, Cond.static yX3_isIn, Cond.initialized RX3, Cond.code yX3_isIn cX3_isIn 3 (some .boolean), Cond.methodLink RX3 135 yX3_counted, Cond.instanceMethod yX3_counted, Cond.selects RX3 yX3_counted yX3_counted, Cond.code yX3_counted cX3_counted 7 (some .int), Cond.fieldLink RX3 45 "WetMosaicModel" "s" "LWetMosaicModel$State;", Cond.fieldLink RX3 63 "WetMosaicModel" "pieces" "I", Cond.fieldLink RX3 25 "WetMosaicModel" "isOut" "[I", Cond.methodLink RX3 122 yX3_looseOnes, Cond.instanceMethod yX3_looseOnes, Cond.selects RX3 yX3_looseOnes yX3_looseOnes, Cond.code yX3_looseOnes cX3_looseOnes 3 (some .int), Cond.methodLink RX3 89 yX2_isLoose, Cond.instanceMethod yX2_isLoose, Cond.selects RX2 yX2_isLoose yX2_isLoose, Cond.initialized RX2, Cond.code yX2_isLoose cX2_isLoose 4 (some .boolean), Cond.fieldLink RX2 3 "WetMosaicModel$State" "this$0" "LWetMosaicModel;", Cond.fieldLink RX2 15 "WetMosaicModel$State" "wet" "[I", Cond.methodLink RX3 126 yX2_wetOnes]
def wsX3_count_r2 : List Cond := [Cond.instanceMethod yX2_wetOnes, Cond.selects RX2 yX2_wetOnes yX2_wetOnes, Cond.code yX2_wetOnes cX2_wetOnes 6 (some .int), Cond.methodLink RX3 129 yX3_covered, Cond.instanceMethod yX3_covered, Cond.selects RX3 yX3_covered yX3_covered, Cond.code yX3_covered cX3_covered 6 (some .int), Cond.fieldLink RX3 28 "WetMosaicModel" "cover" "[I", Cond.methodLink RX3 132 yX3_gaps, Cond.instanceMethod yX3_gaps, Cond.selects RX3 yX3_gaps yX3_gaps, Cond.code yX3_gaps cX3_gaps 3 (some .int), Cond.fieldLink RX3 37 "WetMosaicModel" "found" "[I", Cond.methodLink RX3 113 yX3_clear, Cond.instanceMethod yX3_clear, Cond.selects RX3 yX3_clear yX3_clear, Cond.code yX3_clear cX3_clear 2 none, Cond.methodLink RX3 116 yX3_fill, Cond.instanceMethod yX3_fill, Cond.selects RX3 yX3_fill yX3_fill, Cond.code yX3_fill cX3_fill 5 (some .int), Cond.fieldLink RX3 34 "WetMosaicModel" "row" "[I", Cond.methodLink RX3 110 yX3_beside, Cond.static yX3_beside]
def wsX3_count_r3 : List Cond := [Cond.code yX3_beside cX3_beside 4 (some .int), Cond.methodLink RX3 66 yX3_isCell, Cond.static yX3_isCell, Cond.code yX3_isCell cX3_isCell 2 (some .boolean), Cond.methodLink RX3 70 yX3_no, Cond.instanceMethod yX3_no, Cond.selects RX3 yX3_no yX3_no, Cond.code yX3_no cX3_no 2 (some .int)]
def wsX3_count : List Cond := .code yX3_count cX3_count 2 (some .int) :: ((wsX3_count_r1 ++ (wsX3_count_r2 ++ wsX3_count_r3)) ++ wsX30 ++ wsX20)
def wsX3_fits : List Cond := .code yX3_fits cX3_fits 8 (some .boolean) :: ([.methodLink RX3 100 yX3_shown, .instanceMethod yX3_shown, .selects RX3 yX3_shown yX3_shown, .initialized RX3, .code yX3_shown cX3_shown 2 (some .int), .fieldLink RX3 28 "WetMosaicModel" "cover" "[I", .fieldLink RX3 19 "WetMosaicModel" "seen" "[I"] ++ wsX30)
def wsX3_offBy : List Cond := .code yX3_offBy cX3_offBy 6 (some .int) :: ([.methodLink RX3 138 yX3_fits, .instanceMethod yX3_fits, .selects RX3 yX3_fits yX3_fits, .initialized RX3, .code yX3_fits cX3_fits 8 (some .boolean), .methodLink RX3 100 yX3_shown, .instanceMethod yX3_shown, .selects RX3 yX3_shown yX3_shown, .code yX3_shown cX3_shown 2 (some .int), .fieldLink RX3 28 "WetMosaicModel" "cover" "[I", .fieldLink RX3 19 "WetMosaicModel" "seen" "[I"] ++ wsX30)
def wsX3_isPattern : List Cond := .code yX3_isPattern cX3_isPattern 3 (some .boolean) :: ([.methodLink RX3 59 yX3_isIn, .static yX3_isIn, .initialized RX3, .code yX3_isIn cX3_isIn 3 (some .boolean), .methodLink RX3 74 yX3_isColour, .static yX3_isColour, .code yX3_isColour cX3_isColour 1 (some .boolean)])
def wsX3_off_r1 : List Cond := [Cond.fieldLink RX3 55 "WetMosaicModel" "thrown" "I", Cond.methodLink RX3 142 yX3_isPattern, Cond.static yX3_isPattern, Cond.initialized RX3, Cond.code yX3_isPattern cX3_isPattern 3 (some .boolean), Cond.methodLink RX3 59 yX3_isIn, Cond.static yX3_isIn, Cond.code yX3_isIn cX3_isIn 3 (some .boolean), Cond.methodLink RX3 74 yX3_isColour, Cond.static yX3_isColour, Cond.code yX3_isColour cX3_isColour 1 (some .boolean), Cond.methodLink RX3 145 yX3_offBy, Cond.instanceMethod yX3_offBy, Cond.selects RX3 yX3_offBy yX3_offBy, Cond.code yX3_offBy cX3_offBy 6 (some .int), Cond.methodLink RX3 138 yX3_fits, Cond.instanceMethod yX3_fits, Cond.selects RX3 yX3_fits yX3_fits, Cond.code yX3_fits cX3_fits 8 (some .boolean), Cond.methodLink RX3 100 yX3_shown, Cond.instanceMethod yX3_shown, Cond.selects RX3 yX3_shown yX3_shown, Cond.code yX3_shown cX3_shown 2 (some .int), Cond.fieldLink RX3 28 "WetMosaicModel" "cover" "[I"]
def wsX3_off_r2 : List Cond := [Cond.fieldLink RX3 19 "WetMosaicModel" "seen" "[I", Cond.methodLink RX3 70 yX3_no, Cond.instanceMethod yX3_no, Cond.selects RX3 yX3_no yX3_no, Cond.code yX3_no cX3_no 2 (some .int)]
def wsX3_off : List Cond := .code yX3_off cX3_off 4 (some .int) :: ((wsX3_off_r1 ++ wsX3_off_r2) ++ wsX30)
def wsX3_advise_r1 : List Cond := [Cond.fieldLink RX3 55 "WetMosaicModel" "thrown" "I", Cond.fieldLink RX3 63 "WetMosaicModel" "pieces" "I", Cond.fieldLink RX3 45 "WetMosaicModel" "s" "LWetMosaicModel$State;", Cond.methodLink RX3 142 yX3_isPattern, Cond.static yX3_isPattern, Cond.initialized RX3, Cond.code yX3_isPattern cX3_isPattern 3 (some .boolean), Cond.methodLink RX3 59 yX3_isIn, Cond.static yX3_isIn, Cond.code yX3_isIn cX3_isIn 3 (some .boolean), Cond.methodLink RX3 74 yX3_isColour, Cond.static yX3_isColour, Cond.code yX3_isColour cX3_isColour 1 (some .boolean), Cond.methodLink RX3 70 yX3_no, Cond.instanceMethod yX3_no, Cond.selects RX3 yX3_no yX3_no, Cond.code yX3_no cX3_no 2 (some .int), Cond.methodLink RX3 145 yX3_offBy, Cond.instanceMethod yX3_offBy, Cond.selects RX3 yX3_offBy yX3_offBy, Cond.code yX3_offBy cX3_offBy 6 (some .int), Cond.methodLink RX3 138 yX3_fits, Cond.instanceMethod yX3_fits, Cond.selects RX3 yX3_fits yX3_fits]
def wsX3_advise_r2 : List Cond := [Cond.code yX3_fits cX3_fits 8 (some .boolean), Cond.methodLink RX3 100 yX3_shown, Cond.instanceMethod yX3_shown, Cond.selects RX3 yX3_shown yX3_shown, Cond.code yX3_shown cX3_shown 2 (some .int), Cond.fieldLink RX3 28 "WetMosaicModel" "cover" "[I", Cond.fieldLink RX3 19 "WetMosaicModel" "seen" "[I", Cond.methodLink RX3 89 yX2_isLoose, Cond.instanceMethod yX2_isLoose, Cond.selects RX2 yX2_isLoose yX2_isLoose, Cond.initialized RX2, Cond.code yX2_isLoose cX2_isLoose 4 (some .boolean), Cond.fieldLink RX2 3 "WetMosaicModel$State" "this$0" "LWetMosaicModel;", Cond.fieldLink RX2 15 "WetMosaicModel$State" "wet" "[I", Cond.methodLink RX3 92 yX3_swap, Cond.instanceMethod yX3_swap, Cond.selects RX3 yX3_swap yX3_swap, Cond.code yX3_swap cX3_swap 3 none, Cond.fieldLink RX3 22 "WetMosaicModel" "hidden" "[I"]
def wsX3_advise : List Cond := .code yX3_advise cX3_advise 8 (some .int) :: ((wsX3_advise_r1 ++ wsX3_advise_r2) ++ wsX30 ++ wsX20)
def wsX3_mends_r1 : List Cond := [Cond.fieldLink RX3 55 "WetMosaicModel" "thrown" "I", Cond.fieldLink RX3 28 "WetMosaicModel" "cover" "[I", Cond.fieldLink RX3 37 "WetMosaicModel" "found" "[I", Cond.methodLink RX3 66 yX3_isCell, Cond.static yX3_isCell, Cond.initialized RX3, Cond.code yX3_isCell cX3_isCell 2 (some .boolean), Cond.methodLink RX3 59 yX3_isIn, Cond.static yX3_isIn, Cond.code yX3_isIn cX3_isIn 3 (some .boolean), Cond.methodLink RX3 70 yX3_no, Cond.instanceMethod yX3_no, Cond.selects RX3 yX3_no yX3_no, Cond.code yX3_no cX3_no 2 (some .int), Cond.methodLink RX3 113 yX3_clear, Cond.instanceMethod yX3_clear, Cond.selects RX3 yX3_clear yX3_clear, Cond.code yX3_clear cX3_clear 2 none, Cond.methodLink RX3 116 yX3_fill, Cond.instanceMethod yX3_fill, Cond.selects RX3 yX3_fill yX3_fill, Cond.code yX3_fill cX3_fill 5 (some .int), Cond.fieldLink RX3 34 "WetMosaicModel" "row" "[I", Cond.methodLink RX3 110 yX3_beside]
def wsX3_mends_r2 : List Cond := [Cond.static yX3_beside, Cond.code yX3_beside cX3_beside 4 (some .int)]
def wsX3_mends : List Cond := .code yX3_mends cX3_mends 11 (some .int) :: ((wsX3_mends_r1 ++ wsX3_mends_r2) ++ wsX30)
def wsX3_gap_r1 : List Cond := [Cond.fieldLink RX3 55 "WetMosaicModel" "thrown" "I", Cond.fieldLink RX3 28 "WetMosaicModel" "cover" "[I", Cond.methodLink RX3 66 yX3_isCell, Cond.static yX3_isCell, Cond.initialized RX3, Cond.code yX3_isCell cX3_isCell 2 (some .boolean), Cond.methodLink RX3 59 yX3_isIn, Cond.static yX3_isIn, Cond.code yX3_isIn cX3_isIn 3 (some .boolean), Cond.methodLink RX3 70 yX3_no, Cond.instanceMethod yX3_no, Cond.selects RX3 yX3_no yX3_no, Cond.code yX3_no cX3_no 2 (some .int), Cond.methodLink RX3 113 yX3_clear, Cond.instanceMethod yX3_clear, Cond.selects RX3 yX3_clear yX3_clear, Cond.code yX3_clear cX3_clear 2 none, Cond.fieldLink RX3 37 "WetMosaicModel" "found" "[I", Cond.methodLink RX3 116 yX3_fill, Cond.instanceMethod yX3_fill, Cond.selects RX3 yX3_fill yX3_fill, Cond.code yX3_fill cX3_fill 5 (some .int), Cond.fieldLink RX3 34 "WetMosaicModel" "row" "[I", Cond.methodLink RX3 110 yX3_beside]
def wsX3_gap_r2 : List Cond := [Cond.static yX3_beside, Cond.code yX3_beside cX3_beside 4 (some .int)]
def wsX3_gap : List Cond := .code yX3_gap cX3_gap 3 (some .int) :: ((wsX3_gap_r1 ++ wsX3_gap_r2) ++ wsX30)
def wsX3_pass_r1 : List Cond := [Cond.fieldLink RX3 55 "WetMosaicModel" "thrown" "I", Cond.fieldLink RX3 45 "WetMosaicModel" "s" "LWetMosaicModel$State;", Cond.methodLink RX3 59 yX3_isIn, Cond.static yX3_isIn, Cond.initialized RX3, Cond.code yX3_isIn cX3_isIn 3 (some .boolean), Cond.methodLink RX3 70 yX3_no, Cond.instanceMethod yX3_no, Cond.selects RX3 yX3_no yX3_no, Cond.code yX3_no cX3_no 2 (some .int), Cond.methodLink RX3 149 yX2_pass, Cond.instanceMethod yX2_pass, Cond.selects RX2 yX2_pass yX2_pass, Cond.initialized RX2, Cond.code yX2_pass cX2_pass 3 none, Cond.fieldLink RX2 3 "WetMosaicModel$State" "this$0" "LWetMosaicModel;", Cond.fieldLink RX2 19 "WetMosaicModel$State" "hour" "I", Cond.fieldLink RX2 15 "WetMosaicModel$State" "wet" "[I", Cond.methodLink RX2 35 Lib.Math.max.name, Cond.static Lib.Math.max.name, Cond.initialized "java/lang/Math", Cond.code Lib.Math.max.name Lib.Math.max.code 2 (some .int), Cond.methodLink RX3 122 yX3_looseOnes, Cond.instanceMethod yX3_looseOnes]
def wsX3_pass_r2 : List Cond := [Cond.selects RX3 yX3_looseOnes yX3_looseOnes, Cond.code yX3_looseOnes cX3_looseOnes 3 (some .int), Cond.fieldLink RX3 63 "WetMosaicModel" "pieces" "I", Cond.methodLink RX3 89 yX2_isLoose, Cond.instanceMethod yX2_isLoose, Cond.selects RX2 yX2_isLoose yX2_isLoose, Cond.code yX2_isLoose cX2_isLoose 4 (some .boolean)]
def wsX3_pass : List Cond := .code yX3_pass cX3_pass 3 (some .int) :: ((wsX3_pass_r1 ++ wsX3_pass_r2) ++ wsX30 ++ wsX20)
def wsX3_loose_r1 : List Cond := [Cond.fieldLink RX3 55 "WetMosaicModel" "thrown" "I", Cond.fieldLink RX3 49 "WetMosaicModel" "ahead" "LWetMosaicModel$State;", Cond.fieldLink RX3 45 "WetMosaicModel" "s" "LWetMosaicModel$State;", Cond.methodLink RX3 86 yX3_isPiece, Cond.instanceMethod yX3_isPiece, Cond.selects RX3 yX3_isPiece yX3_isPiece, Cond.initialized RX3, Cond.code yX3_isPiece cX3_isPiece 2 (some .boolean), Cond.fieldLink RX3 63 "WetMosaicModel" "pieces" "I", Cond.methodLink RX3 59 yX3_isIn, Cond.static yX3_isIn, Cond.code yX3_isIn cX3_isIn 3 (some .boolean), Cond.methodLink RX3 70 yX3_no, Cond.instanceMethod yX3_no, Cond.selects RX3 yX3_no yX3_no, Cond.code yX3_no cX3_no 2 (some .int), Cond.methodLink RX3 152 yX2_become, Cond.instanceMethod yX2_become, Cond.selects RX2 yX2_become yX2_become, Cond.initialized RX2, Cond.code yX2_become cX2_become 2 none, Cond.fieldLink RX2 19 "WetMosaicModel$State" "hour" "I", Cond.fieldLink RX2 15 "WetMosaicModel$State" "wet" "[I", Cond.methodLink RX2 23 arraycopyName]
def wsX3_loose_r2 : List Cond := [Cond.native arraycopyName, Cond.static arraycopyName, Cond.initialized "java/lang/System", Cond.methodLink RX3 89 yX2_isLoose, Cond.instanceMethod yX2_isLoose, Cond.selects RX2 yX2_isLoose yX2_isLoose, Cond.code yX2_isLoose cX2_isLoose 4 (some .boolean), Cond.fieldLink RX2 3 "WetMosaicModel$State" "this$0" "LWetMosaicModel;", Cond.methodLink RX3 149 yX2_pass, Cond.instanceMethod yX2_pass, Cond.selects RX2 yX2_pass yX2_pass, Cond.code yX2_pass cX2_pass 3 none, Cond.methodLink RX2 35 Lib.Math.max.name, Cond.static Lib.Math.max.name, Cond.initialized "java/lang/Math", Cond.code Lib.Math.max.name Lib.Math.max.code 2 (some .int)]
def wsX3_loose : List Cond := .code yX3_loose cX3_loose 3 (some .int) :: ((wsX3_loose_r1 ++ wsX3_loose_r2) ++ wsX30 ++ wsX20)
def wsX3_dry_r1 : List Cond := [Cond.fieldLink RX3 55 "WetMosaicModel" "thrown" "I", Cond.fieldLink RX3 49 "WetMosaicModel" "ahead" "LWetMosaicModel$State;", Cond.fieldLink RX3 45 "WetMosaicModel" "s" "LWetMosaicModel$State;", Cond.methodLink RX3 152 yX2_become, Cond.instanceMethod yX2_become, Cond.selects RX2 yX2_become yX2_become, Cond.initialized RX2, Cond.code yX2_become cX2_become 2 none, Cond.fieldLink RX2 19 "WetMosaicModel$State" "hour" "I", Cond.fieldLink RX2 15 "WetMosaicModel$State" "wet" "[I", Cond.methodLink RX2 23 arraycopyName, Cond.native arraycopyName, Cond.static arraycopyName, Cond.initialized "java/lang/System", Cond.methodLink RX3 126 yX2_wetOnes, Cond.instanceMethod yX2_wetOnes, Cond.selects RX2 yX2_wetOnes yX2_wetOnes, Cond.code yX2_wetOnes cX2_wetOnes 6 (some .int), Cond.methodLink RX3 149 yX2_pass, Cond.instanceMethod yX2_pass, Cond.selects RX2 yX2_pass yX2_pass, Cond.code yX2_pass cX2_pass 3 none, Cond.fieldLink RX2 3 "WetMosaicModel$State" "this$0" "LWetMosaicModel;", Cond.methodLink RX2 35 Lib.Math.max.name]
def wsX3_dry_r2 : List Cond := [Cond.static Lib.Math.max.name, Cond.initialized "java/lang/Math", Cond.code Lib.Math.max.name Lib.Math.max.code 2 (some .int)]
def wsX3_dry : List Cond := .code yX3_dry cX3_dry 2 (some .int) :: ((wsX3_dry_r1 ++ wsX3_dry_r2) ++ wsX30 ++ wsX20)
def wsX3_share : List Cond := .code yX3_share cX3_share 1 (some .double) :: ([.fieldLink RX3 55 "WetMosaicModel" "thrown" "I", .constantDouble RX3 156 (4635329916471083008), .methodLink RX3 129 yX3_covered, .instanceMethod yX3_covered, .selects RX3 yX3_covered yX3_covered, .initialized RX3, .code yX3_covered cX3_covered 6 (some .int), .fieldLink RX3 28 "WetMosaicModel" "cover" "[I"] ++ wsX30)
def wsX3_digest_r1 : List Cond := [Cond.fieldLink RX3 55 "WetMosaicModel" "thrown" "I", Cond.constantLong RX3 158 (967), Cond.constantLong RX3 160 (31), Cond.fieldLink RX3 63 "WetMosaicModel" "pieces" "I", Cond.fieldLink RX3 31 "WetMosaicModel" "sun" "[I", Cond.methodLink RX3 135 yX3_counted, Cond.instanceMethod yX3_counted, Cond.selects RX3 yX3_counted yX3_counted, Cond.initialized RX3, Cond.code yX3_counted cX3_counted 7 (some .int), Cond.fieldLink RX3 45 "WetMosaicModel" "s" "LWetMosaicModel$State;", Cond.fieldLink RX3 25 "WetMosaicModel" "isOut" "[I", Cond.methodLink RX3 122 yX3_looseOnes, Cond.instanceMethod yX3_looseOnes, Cond.selects RX3 yX3_looseOnes yX3_looseOnes, Cond.code yX3_looseOnes cX3_looseOnes 3 (some .int), Cond.methodLink RX3 89 yX2_isLoose, Cond.instanceMethod yX2_isLoose, Cond.selects RX2 yX2_isLoose yX2_isLoose, Cond.initialized RX2, Cond.code yX2_isLoose cX2_isLoose 4 (some .boolean), Cond.fieldLink RX2 3 "WetMosaicModel$State" "this$0" "LWetMosaicModel;", Cond.fieldLink RX2 15 "WetMosaicModel$State" "wet" "[I", Cond.methodLink RX3 126 yX2_wetOnes]
def wsX3_digest_r2 : List Cond := [Cond.instanceMethod yX2_wetOnes, Cond.selects RX2 yX2_wetOnes yX2_wetOnes, Cond.code yX2_wetOnes cX2_wetOnes 6 (some .int), Cond.methodLink RX3 129 yX3_covered, Cond.instanceMethod yX3_covered, Cond.selects RX3 yX3_covered yX3_covered, Cond.code yX3_covered cX3_covered 6 (some .int), Cond.fieldLink RX3 28 "WetMosaicModel" "cover" "[I", Cond.methodLink RX3 132 yX3_gaps, Cond.instanceMethod yX3_gaps, Cond.selects RX3 yX3_gaps yX3_gaps, Cond.code yX3_gaps cX3_gaps 3 (some .int), Cond.fieldLink RX3 37 "WetMosaicModel" "found" "[I", Cond.methodLink RX3 113 yX3_clear, Cond.instanceMethod yX3_clear, Cond.selects RX3 yX3_clear yX3_clear, Cond.code yX3_clear cX3_clear 2 none, Cond.methodLink RX3 116 yX3_fill, Cond.instanceMethod yX3_fill, Cond.selects RX3 yX3_fill yX3_fill, Cond.code yX3_fill cX3_fill 5 (some .int), Cond.fieldLink RX3 34 "WetMosaicModel" "row" "[I", Cond.methodLink RX3 110 yX3_beside, Cond.static yX3_beside]
def wsX3_digest_r3 : List Cond := [Cond.code yX3_beside cX3_beside 4 (some .int), Cond.methodLink RX3 66 yX3_isCell, Cond.static yX3_isCell, Cond.code yX3_isCell cX3_isCell 2 (some .boolean), Cond.methodLink RX3 59 yX3_isIn, Cond.static yX3_isIn, Cond.code yX3_isIn cX3_isIn 3 (some .boolean), Cond.methodLink RX3 103 yX3_cellTold, Cond.instanceMethod yX3_cellTold, Cond.selects RX3 yX3_cellTold yX3_cellTold, Cond.code yX3_cellTold cX3_cellTold 3 (some .int), Cond.methodLink RX3 100 yX3_shown, Cond.instanceMethod yX3_shown, Cond.selects RX3 yX3_shown yX3_shown, Cond.code yX3_shown cX3_shown 2 (some .int), Cond.fieldLink RX3 19 "WetMosaicModel" "seen" "[I", Cond.methodLink RX3 107 yX3_pieceTold, Cond.instanceMethod yX3_pieceTold, Cond.selects RX3 yX3_pieceTold yX3_pieceTold, Cond.code yX3_pieceTold cX3_pieceTold 3 (some .int), Cond.fieldLink RX3 9 "WetMosaicModel" "first" "[I", Cond.fieldLink RX3 13 "WetMosaicModel" "length" "[I", Cond.fieldLink RX3 16 "WetMosaicModel" "across" "[I", Cond.fieldLink RX3 22 "WetMosaicModel" "hidden" "[I"]
def wsX3_digest : List Cond := .code yX3_digest cX3_digest 5 (some .long) :: ((wsX3_digest_r1 ++ (wsX3_digest_r2 ++ wsX3_digest_r3)) ++ wsX30 ++ wsX20)
def wsJ9_max_7cf53 : List Cond := .code yJ9_max_7cf53 cJ9_max_7cf53 2 (some .int) :: ([])
def wsL_spread_r1 : List Cond := [Cond.classLink RL 13 "java/lang/IndexOutOfBoundsException", Cond.classLink RL 15 "java/lang/IllegalArgumentException", Cond.methodLink RL 7 yX1_spread, Cond.instanceMethod yX1_spread, Cond.selects RX1 yX1_spread yX1_spread, Cond.initialized RX1, Cond.code yX1_spread cX1_spread 9 (some .int), Cond.classLink RX1 42 "java/lang/IllegalArgumentException", Cond.initialized "java/lang/IllegalArgumentException", Cond.fieldLink RX1 13 "WetMosaic" "cover" "[I", Cond.fieldLink RX1 9 "WetMosaic" "wet" "[I", Cond.methodLink RX1 34 yX1_refuseOutside, Cond.static yX1_refuseOutside, Cond.code yX1_refuseOutside cX1_refuseOutside 2 none, Cond.classLink RX1 61 "java/lang/IndexOutOfBoundsException", Cond.initialized "java/lang/IndexOutOfBoundsException", Cond.methodLink RX1 206 yX1_isOnWall, Cond.static yX1_isOnWall, Cond.code yX1_isOnWall cX1_isOnWall 2 (some .boolean), Cond.methodLink RX1 38 yX1_within, Cond.static yX1_within, Cond.code yX1_within cX1_within 3 (some .boolean), Cond.methodLink RX1 49 yX1_cellOf, Cond.static yX1_cellOf]
def wsL_spread_r2 : List Cond := [Cond.code yX1_cellOf cX1_cellOf 2 (some .int), Cond.methodLink RX1 53 yX1_at, Cond.static yX1_at, Cond.code yX1_at cX1_at 2 (some .int), Cond.methodLink RX1 57 yX1_put, Cond.static yX1_put, Cond.code yX1_put cX1_put 3 none]
def wsL_spread : List Cond := .codeWith yL_spread cL_spread 7 (some .int) [(0, 14, 17, 13), (0, 14, 21, 15)] :: ((wsL_spread_r1 ++ wsL_spread_r2) ++ wsX10 ++ (vx_atS RX1 46 "java/lang/IllegalArgumentException" ["java/lang/RuntimeException", "java/lang/Exception"]).filter goodWord ++ (vx_atS RX1 65 "java/lang/IndexOutOfBoundsException" ["java/lang/RuntimeException", "java/lang/Exception"]).filter goodWord)
def wsL_setSun : List Cond := .codeWith yL_setSun cL_setSun 5 (some .int) [(0, 10, 13, 13), (0, 10, 17, 15)] :: ([.classLink RL 13 "java/lang/IndexOutOfBoundsException", .classLink RL 15 "java/lang/IllegalArgumentException", .methodLink RL 17 yX1_setSun, .instanceMethod yX1_setSun, .selects RX1 yX1_setSun yX1_setSun, .initialized RX1, .code yX1_setSun cX1_setSun 4 (some .int), .classLink RX1 61 "java/lang/IndexOutOfBoundsException", .initialized "java/lang/IndexOutOfBoundsException", .classLink RX1 42 "java/lang/IllegalArgumentException", .initialized "java/lang/IllegalArgumentException", .fieldLink RX1 16 "WetMosaic" "sun" "[I", .methodLink RX1 38 yX1_within, .static yX1_within, .code yX1_within cX1_within 3 (some .boolean), .methodLink RX1 53 yX1_at, .static yX1_at, .code yX1_at cX1_at 2 (some .int), .methodLink RX1 57 yX1_put, .static yX1_put, .code yX1_put cX1_put 3 none] ++ wsX10 ++ (vx_atS RX1 65 "java/lang/IndexOutOfBoundsException" ["java/lang/RuntimeException", "java/lang/Exception"]).filter goodWord ++ (vx_atS RX1 46 "java/lang/IllegalArgumentException" ["java/lang/RuntimeException", "java/lang/Exception"]).filter goodWord)
def wsL_press_r1 : List Cond := [Cond.classLink RL 13 "java/lang/IndexOutOfBoundsException", Cond.classLink RL 15 "java/lang/IllegalArgumentException", Cond.classLink RL 25 "java/lang/IllegalStateException", Cond.methodLink RL 21 yX1_press, Cond.instanceMethod yX1_press, Cond.selects RX1 yX1_press yX1_press, Cond.initialized RX1, Cond.code yX1_press cX1_press 9 (some .int), Cond.classLink RX1 42 "java/lang/IllegalArgumentException", Cond.initialized "java/lang/IllegalArgumentException", Cond.classLink RX1 82 "java/lang/IllegalStateException", Cond.initialized "java/lang/IllegalStateException", Cond.fieldLink RX1 74 "WetMosaic" "pressed" "I", Cond.fieldLink RX1 21 "WetMosaic" "pieces" "[LWetMosaic$Piece;", Cond.classLink RX1 19 RX0, Cond.instantiable RX0 8, Cond.initialized RX0, Cond.methodLink RX1 34 yX1_refuseOutside, Cond.static yX1_refuseOutside, Cond.code yX1_refuseOutside cX1_refuseOutside 2 none, Cond.classLink RX1 61 "java/lang/IndexOutOfBoundsException", Cond.initialized "java/lang/IndexOutOfBoundsException", Cond.methodLink RX1 206 yX1_isOnWall, Cond.static yX1_isOnWall]
def wsL_press_r2 : List Cond := [Cond.code yX1_isOnWall cX1_isOnWall 2 (some .boolean), Cond.methodLink RX1 38 yX1_within, Cond.static yX1_within, Cond.code yX1_within cX1_within 3 (some .boolean), Cond.methodLink RX1 68 yX1_isColour, Cond.static yX1_isColour, Cond.code yX1_isColour cX1_isColour 1 (some .boolean), Cond.methodLink RX1 78 yX1_hasRoom, Cond.instanceMethod yX1_hasRoom, Cond.selects RX1 yX1_hasRoom yX1_hasRoom, Cond.code yX1_hasRoom cX1_hasRoom 9 (some .boolean), Cond.methodLink RX1 49 yX1_cellOf, Cond.static yX1_cellOf, Cond.code yX1_cellOf cX1_cellOf 2 (some .int), Cond.methodLink RX1 214 yX1_isFree, Cond.instanceMethod yX1_isFree, Cond.selects RX1 yX1_isFree yX1_isFree, Cond.code yX1_isFree cX1_isFree 4 (some .boolean), Cond.fieldLink RX1 13 "WetMosaic" "cover" "[I", Cond.fieldLink RX1 9 "WetMosaic" "wet" "[I", Cond.methodLink RX1 53 yX1_at, Cond.static yX1_at, Cond.code yX1_at cX1_at 2 (some .int), Cond.methodLink RX1 87 yX0_init]
def wsL_press_r3 : List Cond := [Cond.instanceMethod yX0_init, Cond.code yX0_init cX0_init 7 none, Cond.methodLink RX0 1 objectInit, Cond.instanceMethod objectInit, Cond.code objectInit ⟨#[0xb1]⟩ 1 none, Cond.fieldLink RX0 7 "WetMosaic$Piece" "x" "I", Cond.fieldLink RX0 13 "WetMosaic$Piece" "y" "I", Cond.fieldLink RX0 16 "WetMosaic$Piece" "length" "I", Cond.fieldLink RX0 19 "WetMosaic$Piece" "across" "Z", Cond.fieldLink RX0 23 "WetMosaic$Piece" "front" "I", Cond.fieldLink RX0 26 "WetMosaic$Piece" "back" "I", Cond.methodLink RX1 90 yX1_setCover, Cond.instanceMethod yX1_setCover, Cond.selects RX1 yX1_setCover yX1_setCover, Cond.code yX1_setCover cX1_setCover 4 none, Cond.fieldLink RX1 110 "WetMosaic$Piece" "length" "I", Cond.methodLink RX1 113 yX0_cellAt, Cond.instanceMethod yX0_cellAt, Cond.selects RX0 yX0_cellAt yX0_cellAt, Cond.code yX0_cellAt cX0_cellAt 2 (some .int), Cond.methodLink RX1 57 yX1_put, Cond.static yX1_put, Cond.code yX1_put cX1_put 3 none]
def wsL_press : List Cond := .codeWith yL_press cL_press 9 (some .int) [(0, 18, 21, 13), (0, 18, 25, 15), (0, 18, 29, 25)] :: ((wsL_press_r1 ++ (wsL_press_r2 ++ wsL_press_r3)) ++ wsX10 ++ wsX00 ++ (vx_atS RX1 46 "java/lang/IllegalArgumentException" ["java/lang/RuntimeException", "java/lang/Exception"]).filter goodWord ++ (vx_atS RX1 86 "java/lang/IllegalStateException" ["java/lang/RuntimeException", "java/lang/Exception"]).filter goodWord ++ (vx_atS RX1 65 "java/lang/IndexOutOfBoundsException" ["java/lang/RuntimeException", "java/lang/Exception"]).filter goodWord)
def wsL_flip_r1 : List Cond := [Cond.classLink RL 13 "java/lang/IndexOutOfBoundsException", Cond.classLink RL 25 "java/lang/IllegalStateException", Cond.methodLink RL 27 yX1_flip, Cond.instanceMethod yX1_flip, Cond.selects RX1 yX1_flip yX1_flip, Cond.initialized RX1, Cond.code yX1_flip cX1_flip 5 (some .int), Cond.classLink RX1 61 "java/lang/IndexOutOfBoundsException", Cond.initialized "java/lang/IndexOutOfBoundsException", Cond.classLink RX1 82 "java/lang/IllegalStateException", Cond.initialized "java/lang/IllegalStateException", Cond.fieldLink RX1 9 "WetMosaic" "wet" "[I", Cond.fieldLink RX1 106 "WetMosaic$Piece" "showsBack" "Z", Cond.fieldLink RX1 110 "WetMosaic$Piece" "length" "I", Cond.methodLink RX1 94 yX1_find, Cond.instanceMethod yX1_find, Cond.selects RX1 yX1_find yX1_find, Cond.code yX1_find cX1_find 2 (some (.object "WetMosaic$Piece")), Cond.fieldLink RX1 74 "WetMosaic" "pressed" "I", Cond.fieldLink RX1 21 "WetMosaic" "pieces" "[LWetMosaic$Piece;", Cond.methodLink RX1 38 yX1_within, Cond.static yX1_within, Cond.code yX1_within cX1_within 3 (some .boolean), Cond.methodLink RX1 100 yX1_isLoose]
def wsL_flip_r2 : List Cond := [Cond.static yX1_isLoose, Cond.code yX1_isLoose cX1_isLoose 3 (some .boolean), Cond.fieldLink RX1 132 "WetMosaic$Piece" "out" "Z", Cond.methodLink RX1 113 yX0_cellAt, Cond.instanceMethod yX0_cellAt, Cond.selects RX0 yX0_cellAt yX0_cellAt, Cond.initialized RX0, Cond.code yX0_cellAt cX0_cellAt 2 (some .int), Cond.fieldLink RX0 19 "WetMosaic$Piece" "across" "Z", Cond.fieldLink RX0 7 "WetMosaic$Piece" "x" "I", Cond.fieldLink RX0 13 "WetMosaic$Piece" "y" "I", Cond.static yX1_cellOf, Cond.code yX1_cellOf cX1_cellOf 2 (some .int), Cond.methodLink RX1 53 yX1_at, Cond.static yX1_at, Cond.code yX1_at cX1_at 2 (some .int), Cond.methodLink RX1 57 yX1_put, Cond.static yX1_put, Cond.code yX1_put cX1_put 3 none, Cond.methodLink RX1 117 yX0_shownColour, Cond.instanceMethod yX0_shownColour, Cond.selects RX0 yX0_shownColour yX0_shownColour, Cond.code yX0_shownColour cX0_shownColour 1 (some .int), Cond.fieldLink RX0 29 "WetMosaic$Piece" "showsBack" "Z"]
def wsL_flip_r3 : List Cond := [Cond.fieldLink RX0 26 "WetMosaic$Piece" "back" "I", Cond.fieldLink RX0 23 "WetMosaic$Piece" "front" "I"]
def wsL_flip : List Cond := .codeWith yL_flip cL_flip 4 (some .int) [(0, 9, 12, 13), (0, 9, 15, 25)] :: ((wsL_flip_r1 ++ (wsL_flip_r2 ++ wsL_flip_r3)) ++ wsX10 ++ wsX00 ++ (vx_atS RX1 65 "java/lang/IndexOutOfBoundsException" ["java/lang/RuntimeException", "java/lang/Exception"]).filter goodWord ++ (vx_atS RX1 86 "java/lang/IllegalStateException" ["java/lang/RuntimeException", "java/lang/Exception"]).filter goodWord)
def wsL_turn_r1 : List Cond := [Cond.classLink RL 13 "java/lang/IndexOutOfBoundsException", Cond.classLink RL 25 "java/lang/IllegalStateException", Cond.methodLink RL 31 yX1_turn, Cond.instanceMethod yX1_turn, Cond.selects RX1 yX1_turn yX1_turn, Cond.initialized RX1, Cond.code yX1_turn cX1_turn 3 (some .int), Cond.classLink RX1 61 "java/lang/IndexOutOfBoundsException", Cond.initialized "java/lang/IndexOutOfBoundsException", Cond.classLink RX1 82 "java/lang/IllegalStateException", Cond.initialized "java/lang/IllegalStateException", Cond.fieldLink RX1 9 "WetMosaic" "wet" "[I", Cond.fieldLink RX1 121 "WetMosaic$Piece" "x" "I", Cond.fieldLink RX1 124 "WetMosaic$Piece" "y" "I", Cond.fieldLink RX1 110 "WetMosaic$Piece" "length" "I", Cond.fieldLink RX1 127 "WetMosaic$Piece" "across" "Z", Cond.methodLink RX1 94 yX1_find, Cond.instanceMethod yX1_find, Cond.selects RX1 yX1_find yX1_find, Cond.code yX1_find cX1_find 2 (some (.object "WetMosaic$Piece")), Cond.fieldLink RX1 74 "WetMosaic" "pressed" "I", Cond.fieldLink RX1 21 "WetMosaic" "pieces" "[LWetMosaic$Piece;", Cond.methodLink RX1 38 yX1_within, Cond.static yX1_within]
def wsL_turn_r2 : List Cond := [Cond.code yX1_within cX1_within 3 (some .boolean), Cond.methodLink RX1 100 yX1_isLoose, Cond.static yX1_isLoose, Cond.code yX1_isLoose cX1_isLoose 3 (some .boolean), Cond.fieldLink RX1 132 "WetMosaic$Piece" "out" "Z", Cond.methodLink RX1 113 yX0_cellAt, Cond.instanceMethod yX0_cellAt, Cond.selects RX0 yX0_cellAt yX0_cellAt, Cond.initialized RX0, Cond.code yX0_cellAt cX0_cellAt 2 (some .int), Cond.fieldLink RX0 19 "WetMosaic$Piece" "across" "Z", Cond.fieldLink RX0 7 "WetMosaic$Piece" "x" "I", Cond.fieldLink RX0 13 "WetMosaic$Piece" "y" "I", Cond.static yX1_cellOf, Cond.code yX1_cellOf cX1_cellOf 2 (some .int), Cond.methodLink RX1 53 yX1_at, Cond.static yX1_at, Cond.code yX1_at cX1_at 2 (some .int), Cond.methodLink RX1 78 yX1_hasRoom, Cond.instanceMethod yX1_hasRoom, Cond.selects RX1 yX1_hasRoom yX1_hasRoom, Cond.code yX1_hasRoom cX1_hasRoom 9 (some .boolean), Cond.methodLink RX1 206 yX1_isOnWall, Cond.static yX1_isOnWall]
def wsL_turn_r3 : List Cond := [Cond.code yX1_isOnWall cX1_isOnWall 2 (some .boolean), Cond.methodLink RX1 49 yX1_cellOf, Cond.methodLink RX1 214 yX1_isFree, Cond.instanceMethod yX1_isFree, Cond.selects RX1 yX1_isFree yX1_isFree, Cond.code yX1_isFree cX1_isFree 4 (some .boolean), Cond.fieldLink RX1 13 "WetMosaic" "cover" "[I", Cond.methodLink RX1 90 yX1_setCover, Cond.instanceMethod yX1_setCover, Cond.selects RX1 yX1_setCover yX1_setCover, Cond.code yX1_setCover cX1_setCover 4 none, Cond.methodLink RX1 57 yX1_put, Cond.static yX1_put, Cond.code yX1_put cX1_put 3 none]
def wsL_turn : List Cond := .codeWith yL_turn cL_turn 4 (some .int) [(0, 9, 12, 13), (0, 9, 15, 25)] :: ((wsL_turn_r1 ++ (wsL_turn_r2 ++ wsL_turn_r3)) ++ wsX10 ++ wsX00 ++ (vx_atS RX1 65 "java/lang/IndexOutOfBoundsException" ["java/lang/RuntimeException", "java/lang/Exception"]).filter goodWord ++ (vx_atS RX1 86 "java/lang/IllegalStateException" ["java/lang/RuntimeException", "java/lang/Exception"]).filter goodWord)
def wsL_take_r1 : List Cond := [Cond.classLink RL 13 "java/lang/IndexOutOfBoundsException", Cond.classLink RL 25 "java/lang/IllegalStateException", Cond.methodLink RL 34 yX1_take, Cond.instanceMethod yX1_take, Cond.selects RX1 yX1_take yX1_take, Cond.initialized RX1, Cond.code yX1_take cX1_take 4 (some .boolean), Cond.classLink RX1 61 "java/lang/IndexOutOfBoundsException", Cond.initialized "java/lang/IndexOutOfBoundsException", Cond.classLink RX1 82 "java/lang/IllegalStateException", Cond.initialized "java/lang/IllegalStateException", Cond.fieldLink RX1 132 "WetMosaic$Piece" "out" "Z", Cond.fieldLink RX1 9 "WetMosaic" "wet" "[I", Cond.methodLink RX1 94 yX1_find, Cond.instanceMethod yX1_find, Cond.selects RX1 yX1_find yX1_find, Cond.code yX1_find cX1_find 2 (some (.object "WetMosaic$Piece")), Cond.fieldLink RX1 74 "WetMosaic" "pressed" "I", Cond.fieldLink RX1 21 "WetMosaic" "pieces" "[LWetMosaic$Piece;", Cond.methodLink RX1 38 yX1_within, Cond.static yX1_within, Cond.code yX1_within cX1_within 3 (some .boolean), Cond.methodLink RX1 100 yX1_isLoose, Cond.static yX1_isLoose]
def wsL_take_r2 : List Cond := [Cond.code yX1_isLoose cX1_isLoose 3 (some .boolean), Cond.fieldLink RX1 110 "WetMosaic$Piece" "length" "I", Cond.methodLink RX1 113 yX0_cellAt, Cond.instanceMethod yX0_cellAt, Cond.selects RX0 yX0_cellAt yX0_cellAt, Cond.initialized RX0, Cond.code yX0_cellAt cX0_cellAt 2 (some .int), Cond.fieldLink RX0 19 "WetMosaic$Piece" "across" "Z", Cond.fieldLink RX0 7 "WetMosaic$Piece" "x" "I", Cond.fieldLink RX0 13 "WetMosaic$Piece" "y" "I", Cond.static yX1_cellOf, Cond.code yX1_cellOf cX1_cellOf 2 (some .int), Cond.methodLink RX1 53 yX1_at, Cond.static yX1_at, Cond.code yX1_at cX1_at 2 (some .int), Cond.methodLink RX1 90 yX1_setCover, Cond.instanceMethod yX1_setCover, Cond.selects RX1 yX1_setCover yX1_setCover, Cond.code yX1_setCover cX1_setCover 4 none, Cond.fieldLink RX1 13 "WetMosaic" "cover" "[I", Cond.methodLink RX1 57 yX1_put, Cond.static yX1_put, Cond.code yX1_put cX1_put 3 none, Cond.methodLink RX1 137 yX1_removeMortar]
def wsL_take_r3 : List Cond := [Cond.instanceMethod yX1_removeMortar, Cond.selects RX1 yX1_removeMortar yX1_removeMortar, Cond.code yX1_removeMortar cX1_removeMortar 3 none]
def wsL_take : List Cond := .codeWith yL_take cL_take 4 (some .int) [(0, 16, 19, 13), (0, 16, 22, 25)] :: ((wsL_take_r1 ++ (wsL_take_r2 ++ wsL_take_r3)) ++ wsX00 ++ wsX10 ++ (vx_atS RX1 65 "java/lang/IndexOutOfBoundsException" ["java/lang/RuntimeException", "java/lang/Exception"]).filter goodWord ++ (vx_atS RX1 86 "java/lang/IllegalStateException" ["java/lang/RuntimeException", "java/lang/Exception"]).filter goodWord)
def wsL_cell_r1 : List Cond := [Cond.classLink RL 13 "java/lang/IndexOutOfBoundsException", Cond.methodLink RL 38 yX1_cell, Cond.instanceMethod yX1_cell, Cond.selects RX1 yX1_cell yX1_cell, Cond.initialized RX1, Cond.code yX1_cell cX1_cell 4 (some .int), Cond.classLink RX1 61 "java/lang/IndexOutOfBoundsException", Cond.initialized "java/lang/IndexOutOfBoundsException", Cond.methodLink RX1 34 yX1_refuseOutside, Cond.static yX1_refuseOutside, Cond.code yX1_refuseOutside cX1_refuseOutside 2 none, Cond.methodLink RX1 206 yX1_isOnWall, Cond.static yX1_isOnWall, Cond.code yX1_isOnWall cX1_isOnWall 2 (some .boolean), Cond.methodLink RX1 38 yX1_within, Cond.static yX1_within, Cond.code yX1_within cX1_within 3 (some .boolean), Cond.methodLink RX1 49 yX1_cellOf, Cond.static yX1_cellOf, Cond.code yX1_cellOf cX1_cellOf 2 (some .int), Cond.methodLink RX1 143 yX1_cellFact, Cond.instanceMethod yX1_cellFact, Cond.selects RX1 yX1_cellFact yX1_cellFact, Cond.code yX1_cellFact cX1_cellFact 3 (some .int)]
def wsL_cell_r2 : List Cond := [Cond.fieldLink RX1 9 "WetMosaic" "wet" "[I", Cond.fieldLink RX1 13 "WetMosaic" "cover" "[I", Cond.methodLink RX1 53 yX1_at, Cond.static yX1_at, Cond.code yX1_at cX1_at 2 (some .int), Cond.methodLink RX1 217 yX1_colourAt, Cond.instanceMethod yX1_colourAt, Cond.selects RX1 yX1_colourAt yX1_colourAt, Cond.code yX1_colourAt cX1_colourAt 3 (some .int), Cond.methodLink RX1 94 yX1_find, Cond.instanceMethod yX1_find, Cond.selects RX1 yX1_find yX1_find, Cond.code yX1_find cX1_find 2 (some (.object "WetMosaic$Piece")), Cond.fieldLink RX1 74 "WetMosaic" "pressed" "I", Cond.fieldLink RX1 21 "WetMosaic" "pieces" "[LWetMosaic$Piece;", Cond.methodLink RX1 117 yX0_shownColour, Cond.instanceMethod yX0_shownColour, Cond.selects RX0 yX0_shownColour yX0_shownColour, Cond.initialized RX0, Cond.code yX0_shownColour cX0_shownColour 1 (some .int), Cond.fieldLink RX0 29 "WetMosaic$Piece" "showsBack" "Z", Cond.fieldLink RX0 26 "WetMosaic$Piece" "back" "I", Cond.fieldLink RX0 23 "WetMosaic$Piece" "front" "I"]
def wsL_cell : List Cond := .codeWith yL_cell cL_cell 6 (some .int) [(0, 12, 15, 13)] :: ((wsL_cell_r1 ++ wsL_cell_r2) ++ wsX10 ++ wsX00 ++ (vx_atS RX1 65 "java/lang/IndexOutOfBoundsException" ["java/lang/RuntimeException", "java/lang/Exception"]).filter goodWord)
def wsL_piece_r1 : List Cond := [Cond.classLink RL 13 "java/lang/IndexOutOfBoundsException", Cond.methodLink RL 42 yX1_piece, Cond.instanceMethod yX1_piece, Cond.selects RX1 yX1_piece yX1_piece, Cond.initialized RX1, Cond.code yX1_piece cX1_piece 4 (some .int), Cond.classLink RX1 61 "java/lang/IndexOutOfBoundsException", Cond.initialized "java/lang/IndexOutOfBoundsException", Cond.methodLink RX1 94 yX1_find, Cond.instanceMethod yX1_find, Cond.selects RX1 yX1_find yX1_find, Cond.code yX1_find cX1_find 2 (some (.object "WetMosaic$Piece")), Cond.fieldLink RX1 74 "WetMosaic" "pressed" "I", Cond.fieldLink RX1 21 "WetMosaic" "pieces" "[LWetMosaic$Piece;", Cond.methodLink RX1 38 yX1_within, Cond.static yX1_within, Cond.code yX1_within cX1_within 3 (some .boolean), Cond.methodLink RX1 148 yX1_pieceFact, Cond.instanceMethod yX1_pieceFact, Cond.selects RX1 yX1_pieceFact yX1_pieceFact, Cond.code yX1_pieceFact cX1_pieceFact 3 (some .int), Cond.fieldLink RX1 121 "WetMosaic$Piece" "x" "I", Cond.fieldLink RX1 124 "WetMosaic$Piece" "y" "I", Cond.fieldLink RX1 110 "WetMosaic$Piece" "length" "I"]
def wsL_piece_r2 : List Cond := [Cond.fieldLink RX1 127 "WetMosaic$Piece" "across" "Z", Cond.fieldLink RX1 9 "WetMosaic" "wet" "[I", Cond.fieldLink RX1 132 "WetMosaic$Piece" "out" "Z", Cond.methodLink RX1 117 yX0_shownColour, Cond.instanceMethod yX0_shownColour, Cond.selects RX0 yX0_shownColour yX0_shownColour, Cond.initialized RX0, Cond.code yX0_shownColour cX0_shownColour 1 (some .int), Cond.fieldLink RX0 29 "WetMosaic$Piece" "showsBack" "Z", Cond.fieldLink RX0 26 "WetMosaic$Piece" "back" "I", Cond.fieldLink RX0 23 "WetMosaic$Piece" "front" "I", Cond.methodLink RX1 220 yX0_otherColour, Cond.instanceMethod yX0_otherColour, Cond.selects RX0 yX0_otherColour yX0_otherColour, Cond.code yX0_otherColour cX0_otherColour 1 (some .int), Cond.methodLink RX1 100 yX1_isLoose, Cond.static yX1_isLoose, Cond.code yX1_isLoose cX1_isLoose 3 (some .boolean), Cond.methodLink RX1 113 yX0_cellAt, Cond.instanceMethod yX0_cellAt, Cond.selects RX0 yX0_cellAt yX0_cellAt, Cond.code yX0_cellAt cX0_cellAt 2 (some .int), Cond.fieldLink RX0 19 "WetMosaic$Piece" "across" "Z", Cond.fieldLink RX0 7 "WetMosaic$Piece" "x" "I"]
def wsL_piece_r3 : List Cond := [Cond.fieldLink RX0 13 "WetMosaic$Piece" "y" "I", Cond.static yX1_cellOf, Cond.code yX1_cellOf cX1_cellOf 2 (some .int), Cond.methodLink RX1 53 yX1_at, Cond.static yX1_at, Cond.code yX1_at cX1_at 2 (some .int)]
def wsL_piece : List Cond := .codeWith yL_piece cL_piece 5 (some .int) [(0, 10, 13, 13)] :: ((wsL_piece_r1 ++ (wsL_piece_r2 ++ wsL_piece_r3)) ++ wsX10 ++ wsX00 ++ (vx_atS RX1 65 "java/lang/IndexOutOfBoundsException" ["java/lang/RuntimeException", "java/lang/Exception"]).filter goodWord)
def wsL_count_r1 : List Cond := [Cond.classLink RL 13 "java/lang/IndexOutOfBoundsException", Cond.methodLink RL 45 yX1_count, Cond.instanceMethod yX1_count, Cond.selects RX1 yX1_count yX1_count, Cond.initialized RX1, Cond.code yX1_count cX1_count 2 (some .int), Cond.classLink RX1 61 "java/lang/IndexOutOfBoundsException", Cond.initialized "java/lang/IndexOutOfBoundsException", Cond.methodLink RX1 38 yX1_within, Cond.static yX1_within, Cond.code yX1_within cX1_within 3 (some .boolean), Cond.methodLink RX1 154 yX1_countFact, Cond.instanceMethod yX1_countFact, Cond.selects RX1 yX1_countFact yX1_countFact, Cond.code yX1_countFact cX1_countFact 2 (some .int), Cond.fieldLink RX1 181 "WetMosaic" "hour" "I", Cond.fieldLink RX1 74 "WetMosaic" "pressed" "I", Cond.fieldLink RX1 9 "WetMosaic" "wet" "[I", Cond.fieldLink RX1 13 "WetMosaic" "cover" "[I", Cond.methodLink RX1 223 yX1_piecesIn, Cond.instanceMethod yX1_piecesIn, Cond.selects RX1 yX1_piecesIn yX1_piecesIn, Cond.code yX1_piecesIn cX1_piecesIn 4 (some .int), Cond.fieldLink RX1 132 "WetMosaic$Piece" "out" "Z"]
def wsL_count_r2 : List Cond := [Cond.methodLink RX1 94 yX1_find, Cond.instanceMethod yX1_find, Cond.selects RX1 yX1_find yX1_find, Cond.code yX1_find cX1_find 2 (some (.object "WetMosaic$Piece")), Cond.fieldLink RX1 21 "WetMosaic" "pieces" "[LWetMosaic$Piece;", Cond.methodLink RX1 188 yX1_loosePieces, Cond.instanceMethod yX1_loosePieces, Cond.selects RX1 yX1_loosePieces yX1_loosePieces, Cond.code yX1_loosePieces cX1_loosePieces 4 (some .int), Cond.methodLink RX1 100 yX1_isLoose, Cond.static yX1_isLoose, Cond.code yX1_isLoose cX1_isLoose 3 (some .boolean), Cond.fieldLink RX1 110 "WetMosaic$Piece" "length" "I", Cond.methodLink RX1 113 yX0_cellAt, Cond.instanceMethod yX0_cellAt, Cond.selects RX0 yX0_cellAt yX0_cellAt, Cond.initialized RX0, Cond.code yX0_cellAt cX0_cellAt 2 (some .int), Cond.fieldLink RX0 19 "WetMosaic$Piece" "across" "Z", Cond.fieldLink RX0 7 "WetMosaic$Piece" "x" "I", Cond.fieldLink RX0 13 "WetMosaic$Piece" "y" "I", Cond.static yX1_cellOf, Cond.code yX1_cellOf cX1_cellOf 2 (some .int), Cond.methodLink RX1 53 yX1_at]
def wsL_count_r3 : List Cond := [Cond.static yX1_at, Cond.code yX1_at cX1_at 2 (some .int), Cond.methodLink RX1 197 yX1_cellsFrom, Cond.static yX1_cellsFrom, Cond.code yX1_cellsFrom cX1_cellsFrom 4 (some .int), Cond.methodLink RX1 226 yX1_gaps, Cond.instanceMethod yX1_gaps, Cond.selects RX1 yX1_gaps yX1_gaps, Cond.code yX1_gaps cX1_gaps 4 (some .int), Cond.methodLink RX1 169 yX1_clearMarks, Cond.instanceMethod yX1_clearMarks, Cond.selects RX1 yX1_clearMarks yX1_clearMarks, Cond.code yX1_clearMarks cX1_clearMarks 2 none, Cond.fieldLink RX1 28 "WetMosaic" "marks" "[I", Cond.methodLink RX1 172 yX1_markGap, Cond.instanceMethod yX1_markGap, Cond.selects RX1 yX1_markGap yX1_markGap, Cond.code yX1_markGap cX1_markGap 6 (some .int), Cond.fieldLink RX1 31 "WetMosaic" "found" "[I", Cond.methodLink RX1 233 yX1_reach, Cond.instanceMethod yX1_reach, Cond.selects RX1 yX1_reach yX1_reach, Cond.code yX1_reach cX1_reach 5 (some .int), Cond.methodLink RX1 49 yX1_cellOf]
def wsL_count_r4 : List Cond := [Cond.methodLink RX1 206 yX1_isOnWall, Cond.static yX1_isOnWall, Cond.code yX1_isOnWall cX1_isOnWall 2 (some .boolean), Cond.methodLink RX1 57 yX1_put, Cond.static yX1_put, Cond.code yX1_put cX1_put 3 none]
def wsL_count : List Cond := .codeWith yL_count cL_count 4 (some .int) [(0, 9, 12, 13)] :: ((wsL_count_r1 ++ (wsL_count_r2 ++ (wsL_count_r3 ++ wsL_count_r4))) ++ wsX10 ++ wsX00 ++ (vx_atS RX1 65 "java/lang/IndexOutOfBoundsException" ["java/lang/RuntimeException", "java/lang/Exception"]).filter goodWord)
def wsL_off_r1 : List Cond := [Cond.classLink RL 15 "java/lang/IllegalArgumentException", Cond.methodLink RL 48 yX1_off, Cond.instanceMethod yX1_off, Cond.selects RX1 yX1_off yX1_off, Cond.initialized RX1, Cond.code yX1_off cX1_off 4 (some .int), Cond.methodLink RX1 157 yX1_refuseNoPattern, Cond.static yX1_refuseNoPattern, Cond.code yX1_refuseNoPattern cX1_refuseNoPattern 3 none, Cond.classLink RX1 42 "java/lang/IllegalArgumentException", Cond.initialized "java/lang/IllegalArgumentException", Cond.methodLink RX1 38 yX1_within, Cond.static yX1_within, Cond.code yX1_within cX1_within 3 (some .boolean), Cond.methodLink RX1 68 yX1_isColour, Cond.static yX1_isColour, Cond.code yX1_isColour cX1_isColour 1 (some .boolean), Cond.methodLink RX1 161 yX1_cellsOff, Cond.instanceMethod yX1_cellsOff, Cond.selects RX1 yX1_cellsOff yX1_cellsOff, Cond.code yX1_cellsOff cX1_cellsOff 7 (some .int), Cond.methodLink RX1 229 yX1_fits, Cond.instanceMethod yX1_fits, Cond.selects RX1 yX1_fits yX1_fits]
def wsL_off_r2 : List Cond := [Cond.code yX1_fits cX1_fits 7 (some .boolean), Cond.methodLink RX1 49 yX1_cellOf, Cond.static yX1_cellOf, Cond.code yX1_cellOf cX1_cellOf 2 (some .int), Cond.methodLink RX1 217 yX1_colourAt, Cond.instanceMethod yX1_colourAt, Cond.selects RX1 yX1_colourAt yX1_colourAt, Cond.code yX1_colourAt cX1_colourAt 3 (some .int), Cond.fieldLink RX1 13 "WetMosaic" "cover" "[I", Cond.methodLink RX1 53 yX1_at, Cond.static yX1_at, Cond.code yX1_at cX1_at 2 (some .int), Cond.methodLink RX1 94 yX1_find, Cond.instanceMethod yX1_find, Cond.selects RX1 yX1_find yX1_find, Cond.code yX1_find cX1_find 2 (some (.object "WetMosaic$Piece")), Cond.fieldLink RX1 74 "WetMosaic" "pressed" "I", Cond.fieldLink RX1 21 "WetMosaic" "pieces" "[LWetMosaic$Piece;", Cond.methodLink RX1 117 yX0_shownColour, Cond.instanceMethod yX0_shownColour, Cond.selects RX0 yX0_shownColour yX0_shownColour, Cond.initialized RX0, Cond.code yX0_shownColour cX0_shownColour 1 (some .int), Cond.fieldLink RX0 29 "WetMosaic$Piece" "showsBack" "Z"]
def wsL_off_r3 : List Cond := [Cond.fieldLink RX0 26 "WetMosaic$Piece" "back" "I", Cond.fieldLink RX0 23 "WetMosaic$Piece" "front" "I"]
def wsL_off : List Cond := .codeWith yL_off cL_off 6 (some .int) [(0, 12, 15, 15)] :: ((wsL_off_r1 ++ (wsL_off_r2 ++ wsL_off_r3)) ++ wsX10 ++ wsX00 ++ (vx_atS RX1 46 "java/lang/IllegalArgumentException" ["java/lang/RuntimeException", "java/lang/Exception"]).filter goodWord)
def wsL_advise_r1 : List Cond := [Cond.classLink RL 15 "java/lang/IllegalArgumentException", Cond.methodLink RL 51 yX1_advise, Cond.instanceMethod yX1_advise, Cond.selects RX1 yX1_advise yX1_advise, Cond.initialized RX1, Cond.code yX1_advise cX1_advise 9 (some .int), Cond.fieldLink RX1 74 "WetMosaic" "pressed" "I", Cond.fieldLink RX1 9 "WetMosaic" "wet" "[I", Cond.methodLink RX1 157 yX1_refuseNoPattern, Cond.static yX1_refuseNoPattern, Cond.code yX1_refuseNoPattern cX1_refuseNoPattern 3 none, Cond.classLink RX1 42 "java/lang/IllegalArgumentException", Cond.initialized "java/lang/IllegalArgumentException", Cond.methodLink RX1 38 yX1_within, Cond.static yX1_within, Cond.code yX1_within cX1_within 3 (some .boolean), Cond.methodLink RX1 68 yX1_isColour, Cond.static yX1_isColour, Cond.code yX1_isColour cX1_isColour 1 (some .boolean), Cond.methodLink RX1 161 yX1_cellsOff, Cond.instanceMethod yX1_cellsOff, Cond.selects RX1 yX1_cellsOff yX1_cellsOff, Cond.code yX1_cellsOff cX1_cellsOff 7 (some .int), Cond.methodLink RX1 229 yX1_fits]
def wsL_advise_r2 : List Cond := [Cond.instanceMethod yX1_fits, Cond.selects RX1 yX1_fits yX1_fits, Cond.code yX1_fits cX1_fits 7 (some .boolean), Cond.methodLink RX1 49 yX1_cellOf, Cond.static yX1_cellOf, Cond.code yX1_cellOf cX1_cellOf 2 (some .int), Cond.methodLink RX1 217 yX1_colourAt, Cond.instanceMethod yX1_colourAt, Cond.selects RX1 yX1_colourAt yX1_colourAt, Cond.code yX1_colourAt cX1_colourAt 3 (some .int), Cond.fieldLink RX1 13 "WetMosaic" "cover" "[I", Cond.methodLink RX1 53 yX1_at, Cond.static yX1_at, Cond.code yX1_at cX1_at 2 (some .int), Cond.methodLink RX1 94 yX1_find, Cond.instanceMethod yX1_find, Cond.selects RX1 yX1_find yX1_find, Cond.code yX1_find cX1_find 2 (some (.object "WetMosaic$Piece")), Cond.fieldLink RX1 21 "WetMosaic" "pieces" "[LWetMosaic$Piece;", Cond.methodLink RX1 117 yX0_shownColour, Cond.instanceMethod yX0_shownColour, Cond.selects RX0 yX0_shownColour yX0_shownColour, Cond.initialized RX0, Cond.code yX0_shownColour cX0_shownColour 1 (some .int)]
def wsL_advise_r3 : List Cond := [Cond.fieldLink RX0 29 "WetMosaic$Piece" "showsBack" "Z", Cond.fieldLink RX0 26 "WetMosaic$Piece" "back" "I", Cond.fieldLink RX0 23 "WetMosaic$Piece" "front" "I", Cond.methodLink RX1 100 yX1_isLoose, Cond.static yX1_isLoose, Cond.code yX1_isLoose cX1_isLoose 3 (some .boolean), Cond.fieldLink RX1 132 "WetMosaic$Piece" "out" "Z", Cond.fieldLink RX1 110 "WetMosaic$Piece" "length" "I", Cond.methodLink RX1 113 yX0_cellAt, Cond.instanceMethod yX0_cellAt, Cond.selects RX0 yX0_cellAt yX0_cellAt, Cond.code yX0_cellAt cX0_cellAt 2 (some .int), Cond.fieldLink RX0 19 "WetMosaic$Piece" "across" "Z", Cond.fieldLink RX0 7 "WetMosaic$Piece" "x" "I", Cond.fieldLink RX0 13 "WetMosaic$Piece" "y" "I", Cond.methodLink RX1 165 yX1_cellsOffFlipped, Cond.instanceMethod yX1_cellsOffFlipped, Cond.selects RX1 yX1_cellsOffFlipped yX1_cellsOffFlipped, Cond.code yX1_cellsOffFlipped cX1_cellsOffFlipped 6 (some .int), Cond.fieldLink RX1 106 "WetMosaic$Piece" "showsBack" "Z"]
def wsL_advise : List Cond := .codeWith yL_advise cL_advise 6 (some .int) [(0, 12, 15, 15)] :: ((wsL_advise_r1 ++ (wsL_advise_r2 ++ wsL_advise_r3)) ++ wsX10 ++ wsX00 ++ (vx_atS RX1 46 "java/lang/IllegalArgumentException" ["java/lang/RuntimeException", "java/lang/Exception"]).filter goodWord)
def wsL_mends_r1 : List Cond := [Cond.classLink RL 13 "java/lang/IndexOutOfBoundsException", Cond.methodLink RL 54 yX1_mends, Cond.instanceMethod yX1_mends, Cond.selects RX1 yX1_mends yX1_mends, Cond.initialized RX1, Cond.code yX1_mends cX1_mends 4 (some .int), Cond.methodLink RX1 34 yX1_refuseOutside, Cond.static yX1_refuseOutside, Cond.code yX1_refuseOutside cX1_refuseOutside 2 none, Cond.classLink RX1 61 "java/lang/IndexOutOfBoundsException", Cond.initialized "java/lang/IndexOutOfBoundsException", Cond.methodLink RX1 206 yX1_isOnWall, Cond.static yX1_isOnWall, Cond.code yX1_isOnWall cX1_isOnWall 2 (some .boolean), Cond.methodLink RX1 38 yX1_within, Cond.static yX1_within, Cond.code yX1_within cX1_within 3 (some .boolean), Cond.methodLink RX1 169 yX1_clearMarks, Cond.instanceMethod yX1_clearMarks, Cond.selects RX1 yX1_clearMarks yX1_clearMarks, Cond.code yX1_clearMarks cX1_clearMarks 2 none, Cond.fieldLink RX1 28 "WetMosaic" "marks" "[I", Cond.methodLink RX1 172 yX1_markGap, Cond.instanceMethod yX1_markGap]
def wsL_mends_r2 : List Cond := [Cond.selects RX1 yX1_markGap yX1_markGap, Cond.code yX1_markGap cX1_markGap 6 (some .int), Cond.fieldLink RX1 31 "WetMosaic" "found" "[I", Cond.methodLink RX1 233 yX1_reach, Cond.instanceMethod yX1_reach, Cond.selects RX1 yX1_reach yX1_reach, Cond.code yX1_reach cX1_reach 5 (some .int), Cond.fieldLink RX1 13 "WetMosaic" "cover" "[I", Cond.methodLink RX1 49 yX1_cellOf, Cond.static yX1_cellOf, Cond.code yX1_cellOf cX1_cellOf 2 (some .int), Cond.methodLink RX1 53 yX1_at, Cond.static yX1_at, Cond.code yX1_at cX1_at 2 (some .int), Cond.methodLink RX1 57 yX1_put, Cond.static yX1_put, Cond.code yX1_put cX1_put 3 none, Cond.methodLink RX1 175 yX1_piecesForMarks, Cond.instanceMethod yX1_piecesForMarks, Cond.selects RX1 yX1_piecesForMarks yX1_piecesForMarks, Cond.code yX1_piecesForMarks cX1_piecesForMarks 8 (some .int)]
def wsL_mends : List Cond := .codeWith yL_mends cL_mends 6 (some .int) [(0, 12, 15, 13)] :: ((wsL_mends_r1 ++ wsL_mends_r2) ++ wsX10 ++ (vx_atS RX1 65 "java/lang/IndexOutOfBoundsException" ["java/lang/RuntimeException", "java/lang/Exception"]).filter goodWord)
def wsL_gap_r1 : List Cond := [Cond.classLink RL 13 "java/lang/IndexOutOfBoundsException", Cond.methodLink RL 58 yX1_gap, Cond.instanceMethod yX1_gap, Cond.selects RX1 yX1_gap yX1_gap, Cond.initialized RX1, Cond.code yX1_gap cX1_gap 3 (some .int), Cond.methodLink RX1 34 yX1_refuseOutside, Cond.static yX1_refuseOutside, Cond.code yX1_refuseOutside cX1_refuseOutside 2 none, Cond.classLink RX1 61 "java/lang/IndexOutOfBoundsException", Cond.initialized "java/lang/IndexOutOfBoundsException", Cond.methodLink RX1 206 yX1_isOnWall, Cond.static yX1_isOnWall, Cond.code yX1_isOnWall cX1_isOnWall 2 (some .boolean), Cond.methodLink RX1 38 yX1_within, Cond.static yX1_within, Cond.code yX1_within cX1_within 3 (some .boolean), Cond.methodLink RX1 169 yX1_clearMarks, Cond.instanceMethod yX1_clearMarks, Cond.selects RX1 yX1_clearMarks yX1_clearMarks, Cond.code yX1_clearMarks cX1_clearMarks 2 none, Cond.fieldLink RX1 28 "WetMosaic" "marks" "[I", Cond.methodLink RX1 172 yX1_markGap, Cond.instanceMethod yX1_markGap]
def wsL_gap_r2 : List Cond := [Cond.selects RX1 yX1_markGap yX1_markGap, Cond.code yX1_markGap cX1_markGap 6 (some .int), Cond.fieldLink RX1 31 "WetMosaic" "found" "[I", Cond.methodLink RX1 233 yX1_reach, Cond.instanceMethod yX1_reach, Cond.selects RX1 yX1_reach yX1_reach, Cond.code yX1_reach cX1_reach 5 (some .int), Cond.fieldLink RX1 13 "WetMosaic" "cover" "[I", Cond.methodLink RX1 49 yX1_cellOf, Cond.static yX1_cellOf, Cond.code yX1_cellOf cX1_cellOf 2 (some .int), Cond.methodLink RX1 53 yX1_at, Cond.static yX1_at, Cond.code yX1_at cX1_at 2 (some .int), Cond.methodLink RX1 57 yX1_put, Cond.static yX1_put, Cond.code yX1_put cX1_put 3 none]
def wsL_gap : List Cond := .codeWith yL_gap cL_gap 5 (some .int) [(0, 10, 13, 13)] :: ((wsL_gap_r1 ++ wsL_gap_r2) ++ wsX10 ++ (vx_atS RX1 65 "java/lang/IndexOutOfBoundsException" ["java/lang/RuntimeException", "java/lang/Exception"]).filter goodWord)
def wsL_pass_r1 : List Cond := [Cond.classLink RL 15 "java/lang/IllegalArgumentException", Cond.methodLink RL 61 yX1_pass, Cond.instanceMethod yX1_pass, Cond.selects RX1 yX1_pass yX1_pass, Cond.initialized RX1, Cond.code yX1_pass cX1_pass 3 (some .int), Cond.classLink RX1 42 "java/lang/IllegalArgumentException", Cond.initialized "java/lang/IllegalArgumentException", Cond.fieldLink RX1 9 "WetMosaic" "wet" "[I", Cond.fieldLink RX1 181 "WetMosaic" "hour" "I", Cond.methodLink RX1 38 yX1_within, Cond.static yX1_within, Cond.code yX1_within cX1_within 3 (some .boolean), Cond.methodLink RX1 184 yX1_dryOneHour, Cond.instanceMethod yX1_dryOneHour, Cond.selects RX1 yX1_dryOneHour yX1_dryOneHour, Cond.code yX1_dryOneHour cX1_dryOneHour 7 none, Cond.fieldLink RX1 16 "WetMosaic" "sun" "[I", Cond.fieldLink RX1 13 "WetMosaic" "cover" "[I", Cond.methodLink RX1 241 Lib.Math.max.name, Cond.static Lib.Math.max.name, Cond.initialized "java/lang/Math", Cond.code Lib.Math.max.name Lib.Math.max.code 2 (some .int), Cond.methodLink RX1 236 yJ9_floorMod_7cf53]
def wsL_pass_r2 : List Cond := [Cond.static yJ9_floorMod_7cf53, Cond.initialized RJ9, Cond.code yJ9_floorMod_7cf53 cJ9_floorMod_7cf53 3 (some .int), Cond.methodLink RX1 53 yX1_at, Cond.static yX1_at, Cond.code yX1_at cX1_at 2 (some .int), Cond.methodLink RX1 57 yX1_put, Cond.static yX1_put, Cond.code yX1_put cX1_put 3 none, Cond.methodLink RX1 188 yX1_loosePieces, Cond.instanceMethod yX1_loosePieces, Cond.selects RX1 yX1_loosePieces yX1_loosePieces, Cond.code yX1_loosePieces cX1_loosePieces 4 (some .int), Cond.fieldLink RX1 74 "WetMosaic" "pressed" "I", Cond.methodLink RX1 94 yX1_find, Cond.instanceMethod yX1_find, Cond.selects RX1 yX1_find yX1_find, Cond.code yX1_find cX1_find 2 (some (.object "WetMosaic$Piece")), Cond.fieldLink RX1 21 "WetMosaic" "pieces" "[LWetMosaic$Piece;", Cond.methodLink RX1 100 yX1_isLoose, Cond.static yX1_isLoose, Cond.code yX1_isLoose cX1_isLoose 3 (some .boolean), Cond.fieldLink RX1 132 "WetMosaic$Piece" "out" "Z", Cond.fieldLink RX1 110 "WetMosaic$Piece" "length" "I"]
def wsL_pass_r3 : List Cond := [Cond.methodLink RX1 113 yX0_cellAt, Cond.instanceMethod yX0_cellAt, Cond.selects RX0 yX0_cellAt yX0_cellAt, Cond.initialized RX0, Cond.code yX0_cellAt cX0_cellAt 2 (some .int), Cond.fieldLink RX0 19 "WetMosaic$Piece" "across" "Z", Cond.fieldLink RX0 7 "WetMosaic$Piece" "x" "I", Cond.fieldLink RX0 13 "WetMosaic$Piece" "y" "I", Cond.static yX1_cellOf, Cond.code yX1_cellOf cX1_cellOf 2 (some .int)]
def wsL_pass : List Cond := .codeWith yL_pass cL_pass 4 (some .int) [(0, 9, 12, 15)] :: ((wsL_pass_r1 ++ (wsL_pass_r2 ++ wsL_pass_r3)) ++ wsX10 ++ wsX00 ++ (vx_atS RX1 46 "java/lang/IllegalArgumentException" ["java/lang/RuntimeException", "java/lang/Exception"]).filter goodWord)
def wsL_loose_r1 : List Cond := [Cond.classLink RL 13 "java/lang/IndexOutOfBoundsException", Cond.methodLink RL 64 yX1_loose, Cond.instanceMethod yX1_loose, Cond.selects RX1 yX1_loose yX1_loose, Cond.initialized RX1, Cond.code yX1_loose cX1_loose 4 (some .int), Cond.classLink RX1 61 "java/lang/IndexOutOfBoundsException", Cond.initialized "java/lang/IndexOutOfBoundsException", Cond.fieldLink RX1 9 "WetMosaic" "wet" "[I", Cond.fieldLink RX1 25 "WetMosaic" "foreseen" "[I", Cond.methodLink RX1 191 arraycopyName, Cond.native arraycopyName, Cond.static arraycopyName, Cond.initialized "java/lang/System", Cond.fieldLink RX1 181 "WetMosaic" "hour" "I", Cond.methodLink RX1 94 yX1_find, Cond.instanceMethod yX1_find, Cond.selects RX1 yX1_find yX1_find, Cond.code yX1_find cX1_find 2 (some (.object "WetMosaic$Piece")), Cond.fieldLink RX1 74 "WetMosaic" "pressed" "I", Cond.fieldLink RX1 21 "WetMosaic" "pieces" "[LWetMosaic$Piece;", Cond.methodLink RX1 38 yX1_within, Cond.static yX1_within, Cond.code yX1_within cX1_within 3 (some .boolean)]
def wsL_loose_r2 : List Cond := [Cond.methodLink RX1 100 yX1_isLoose, Cond.static yX1_isLoose, Cond.code yX1_isLoose cX1_isLoose 3 (some .boolean), Cond.fieldLink RX1 132 "WetMosaic$Piece" "out" "Z", Cond.fieldLink RX1 110 "WetMosaic$Piece" "length" "I", Cond.methodLink RX1 113 yX0_cellAt, Cond.instanceMethod yX0_cellAt, Cond.selects RX0 yX0_cellAt yX0_cellAt, Cond.initialized RX0, Cond.code yX0_cellAt cX0_cellAt 2 (some .int), Cond.fieldLink RX0 19 "WetMosaic$Piece" "across" "Z", Cond.fieldLink RX0 7 "WetMosaic$Piece" "x" "I", Cond.fieldLink RX0 13 "WetMosaic$Piece" "y" "I", Cond.static yX1_cellOf, Cond.code yX1_cellOf cX1_cellOf 2 (some .int), Cond.methodLink RX1 53 yX1_at, Cond.static yX1_at, Cond.code yX1_at cX1_at 2 (some .int), Cond.methodLink RX1 184 yX1_dryOneHour, Cond.instanceMethod yX1_dryOneHour, Cond.selects RX1 yX1_dryOneHour yX1_dryOneHour, Cond.code yX1_dryOneHour cX1_dryOneHour 7 none, Cond.fieldLink RX1 16 "WetMosaic" "sun" "[I", Cond.fieldLink RX1 13 "WetMosaic" "cover" "[I"]
def wsL_loose_r3 : List Cond := [Cond.methodLink RX1 241 Lib.Math.max.name, Cond.static Lib.Math.max.name, Cond.initialized "java/lang/Math", Cond.code Lib.Math.max.name Lib.Math.max.code 2 (some .int), Cond.methodLink RX1 236 yJ9_floorMod_7cf53, Cond.static yJ9_floorMod_7cf53, Cond.initialized RJ9, Cond.code yJ9_floorMod_7cf53 cJ9_floorMod_7cf53 3 (some .int), Cond.methodLink RX1 57 yX1_put, Cond.static yX1_put, Cond.code yX1_put cX1_put 3 none]
def wsL_loose : List Cond := .codeWith yL_loose cL_loose 4 (some .int) [(0, 9, 12, 13)] :: ((wsL_loose_r1 ++ (wsL_loose_r2 ++ wsL_loose_r3)) ++ wsX10 ++ wsX00 ++ (vx_atS RX1 65 "java/lang/IndexOutOfBoundsException" ["java/lang/RuntimeException", "java/lang/Exception"]).filter goodWord)
def wsL_law0_r1 : List Cond := [Cond.classLink RL 8 RX1, Cond.instantiable RX1 9, Cond.initialized RX1, Cond.classLink RL 68 RX3, Cond.instantiable RX3 14, Cond.initialized RX3, Cond.arrayClass .long, Cond.methodLink RL 67 yX1_init, Cond.instanceMethod yX1_init, Cond.code yX1_init cX1_init 2 none, Cond.methodLink RX1 1 objectInit, Cond.instanceMethod objectInit, Cond.code objectInit ⟨#[0xb1]⟩ 1 none, Cond.arrayClass .int, Cond.fieldLink RX1 9 "WetMosaic" "wet" "[I", Cond.fieldLink RX1 13 "WetMosaic" "cover" "[I", Cond.fieldLink RX1 16 "WetMosaic" "sun" "[I", Cond.classLink RX1 19 RX0, Cond.fieldLink RX1 21 "WetMosaic" "pieces" "[LWetMosaic$Piece;", Cond.fieldLink RX1 25 "WetMosaic" "foreseen" "[I", Cond.fieldLink RX1 28 "WetMosaic" "marks" "[I", Cond.fieldLink RX1 31 "WetMosaic" "found" "[I", Cond.methodLink RL 70 yX3_init, Cond.instanceMethod yX3_init]
def wsL_law0_r2 : List Cond := [Cond.code yX3_init cX3_init 2 none, Cond.methodLink RX3 3 objectInit, Cond.fieldLink RX3 9 "WetMosaicModel" "first" "[I", Cond.fieldLink RX3 13 "WetMosaicModel" "length" "[I", Cond.fieldLink RX3 16 "WetMosaicModel" "across" "[I", Cond.fieldLink RX3 19 "WetMosaicModel" "seen" "[I", Cond.fieldLink RX3 22 "WetMosaicModel" "hidden" "[I", Cond.fieldLink RX3 25 "WetMosaicModel" "isOut" "[I", Cond.fieldLink RX3 28 "WetMosaicModel" "cover" "[I", Cond.fieldLink RX3 31 "WetMosaicModel" "sun" "[I", Cond.fieldLink RX3 34 "WetMosaicModel" "row" "[I", Cond.fieldLink RX3 37 "WetMosaicModel" "found" "[I", Cond.classLink RX3 40 RX2, Cond.instantiable RX2 3, Cond.initialized RX2, Cond.fieldLink RX3 45 "WetMosaicModel" "s" "LWetMosaicModel$State;", Cond.fieldLink RX3 49 "WetMosaicModel" "ahead" "LWetMosaicModel$State;", Cond.instanceMethod yX2_init, Cond.code yX2_init cX2_init 2 none, Cond.fieldLink RX2 3 "WetMosaicModel$State" "this$0" "LWetMosaicModel;", Cond.methodLink RX2 9 objectInit, Cond.fieldLink RX2 15 "WetMosaicModel$State" "wet" "[I", Cond.methodLink RL 71 yL_spread, Cond.static yL_spread]
def wsL_law0_r3 : List Cond := [Cond.initialized RL, Cond.codeWith yL_spread cL_spread 7 (some .int) [(0, 14, 17, 13), (0, 14, 21, 15)], Cond.classLink RL 13 "java/lang/IndexOutOfBoundsException", Cond.classLink RL 15 "java/lang/IllegalArgumentException", Cond.methodLink RL 7 yX1_spread, Cond.instanceMethod yX1_spread, Cond.selects RX1 yX1_spread yX1_spread, Cond.code yX1_spread cX1_spread 9 (some .int), Cond.classLink RX1 42 "java/lang/IllegalArgumentException", Cond.initialized "java/lang/IllegalArgumentException", Cond.methodLink RX1 34 yX1_refuseOutside, Cond.static yX1_refuseOutside, Cond.code yX1_refuseOutside cX1_refuseOutside 2 none, Cond.classLink RX1 61 "java/lang/IndexOutOfBoundsException", Cond.initialized "java/lang/IndexOutOfBoundsException", Cond.methodLink RX1 206 yX1_isOnWall, Cond.static yX1_isOnWall, Cond.code yX1_isOnWall cX1_isOnWall 2 (some .boolean), Cond.methodLink RX1 38 yX1_within, Cond.static yX1_within, Cond.code yX1_within cX1_within 3 (some .boolean), Cond.methodLink RX1 49 yX1_cellOf, Cond.static yX1_cellOf, Cond.code yX1_cellOf cX1_cellOf 2 (some .int)]
def wsL_law0_r4 : List Cond := [Cond.methodLink RX1 53 yX1_at, Cond.static yX1_at, Cond.code yX1_at cX1_at 2 (some .int), Cond.methodLink RX1 57 yX1_put, Cond.static yX1_put, Cond.code yX1_put cX1_put 3 none, Cond.methodLink RL 76 yX3_spread, Cond.instanceMethod yX3_spread, Cond.selects RX3 yX3_spread yX3_spread, Cond.code yX3_spread cX3_spread 8 (some .int), Cond.fieldLink RX3 55 "WetMosaicModel" "thrown" "I", Cond.methodLink RX3 66 yX3_isCell, Cond.static yX3_isCell, Cond.code yX3_isCell cX3_isCell 2 (some .boolean), Cond.methodLink RX3 59 yX3_isIn, Cond.static yX3_isIn, Cond.code yX3_isIn cX3_isIn 3 (some .boolean), Cond.methodLink RX3 70 yX3_no, Cond.instanceMethod yX3_no, Cond.selects RX3 yX3_no yX3_no, Cond.code yX3_no cX3_no 2 (some .int), Cond.methodLink RL 77 yX3_thrown, Cond.instanceMethod yX3_thrown, Cond.selects RX3 yX3_thrown yX3_thrown]
def wsL_law0_r5 : List Cond := [Cond.code yX3_thrown cX3_thrown 1 (some .int), Cond.methodLink RL 81 yL_setSun, Cond.static yL_setSun, Cond.codeWith yL_setSun cL_setSun 5 (some .int) [(0, 10, 13, 13), (0, 10, 17, 15)], Cond.methodLink RL 17 yX1_setSun, Cond.instanceMethod yX1_setSun, Cond.selects RX1 yX1_setSun yX1_setSun, Cond.code yX1_setSun cX1_setSun 4 (some .int), Cond.methodLink RL 84 yX3_setSun, Cond.instanceMethod yX3_setSun, Cond.selects RX3 yX3_setSun yX3_setSun, Cond.code yX3_setSun cX3_setSun 4 (some .int), Cond.methodLink RL 85 yL_press, Cond.static yL_press, Cond.codeWith yL_press cL_press 9 (some .int) [(0, 18, 21, 13), (0, 18, 25, 15), (0, 18, 29, 25)], Cond.classLink RL 25 "java/lang/IllegalStateException", Cond.methodLink RL 21 yX1_press, Cond.instanceMethod yX1_press, Cond.selects RX1 yX1_press yX1_press, Cond.code yX1_press cX1_press 9 (some .int), Cond.classLink RX1 82 "java/lang/IllegalStateException", Cond.initialized "java/lang/IllegalStateException", Cond.fieldLink RX1 74 "WetMosaic" "pressed" "I", Cond.instantiable RX0 8]
def wsL_law0_r6 : List Cond := [Cond.initialized RX0, Cond.methodLink RX1 68 yX1_isColour, Cond.static yX1_isColour, Cond.code yX1_isColour cX1_isColour 1 (some .boolean), Cond.methodLink RX1 78 yX1_hasRoom, Cond.instanceMethod yX1_hasRoom, Cond.selects RX1 yX1_hasRoom yX1_hasRoom, Cond.code yX1_hasRoom cX1_hasRoom 9 (some .boolean), Cond.methodLink RX1 214 yX1_isFree, Cond.instanceMethod yX1_isFree, Cond.selects RX1 yX1_isFree yX1_isFree, Cond.code yX1_isFree cX1_isFree 4 (some .boolean), Cond.methodLink RX1 87 yX0_init, Cond.instanceMethod yX0_init, Cond.code yX0_init cX0_init 7 none, Cond.methodLink RX0 1 objectInit, Cond.fieldLink RX0 7 "WetMosaic$Piece" "x" "I", Cond.fieldLink RX0 13 "WetMosaic$Piece" "y" "I", Cond.fieldLink RX0 16 "WetMosaic$Piece" "length" "I", Cond.fieldLink RX0 19 "WetMosaic$Piece" "across" "Z", Cond.fieldLink RX0 23 "WetMosaic$Piece" "front" "I", Cond.fieldLink RX0 26 "WetMosaic$Piece" "back" "I", Cond.methodLink RX1 90 yX1_setCover, Cond.instanceMethod yX1_setCover]
def wsL_law0_r7 : List Cond := [Cond.selects RX1 yX1_setCover yX1_setCover, Cond.code yX1_setCover cX1_setCover 4 none, Cond.fieldLink RX1 110 "WetMosaic$Piece" "length" "I", Cond.methodLink RX1 113 yX0_cellAt, Cond.instanceMethod yX0_cellAt, Cond.selects RX0 yX0_cellAt yX0_cellAt, Cond.code yX0_cellAt cX0_cellAt 2 (some .int), Cond.methodLink RL 88 yX3_press, Cond.instanceMethod yX3_press, Cond.selects RX3 yX3_press yX3_press, Cond.code yX3_press cX3_press 7 (some .int), Cond.fieldLink RX3 63 "WetMosaicModel" "pieces" "I", Cond.methodLink RX3 74 yX3_isColour, Cond.static yX3_isColour, Cond.code yX3_isColour cX3_isColour 1 (some .boolean), Cond.methodLink RX3 78 yX3_canLie, Cond.instanceMethod yX3_canLie, Cond.selects RX3 yX3_canLie yX3_canLie, Cond.code yX3_canLie cX3_canLie 8 (some .boolean), Cond.methodLink RX3 82 yX3_coverBy, Cond.instanceMethod yX3_coverBy, Cond.selects RX3 yX3_coverBy yX3_coverBy, Cond.code yX3_coverBy cX3_coverBy 5 none, Cond.methodLink RL 89 yL_flip]
def wsL_law0_r8 : List Cond := [Cond.static yL_flip, Cond.codeWith yL_flip cL_flip 4 (some .int) [(0, 9, 12, 13), (0, 9, 15, 25)], Cond.methodLink RL 27 yX1_flip, Cond.instanceMethod yX1_flip, Cond.selects RX1 yX1_flip yX1_flip, Cond.code yX1_flip cX1_flip 5 (some .int), Cond.fieldLink RX1 106 "WetMosaic$Piece" "showsBack" "Z", Cond.methodLink RX1 94 yX1_find, Cond.instanceMethod yX1_find, Cond.selects RX1 yX1_find yX1_find, Cond.code yX1_find cX1_find 2 (some (.object "WetMosaic$Piece")), Cond.methodLink RX1 100 yX1_isLoose, Cond.static yX1_isLoose, Cond.code yX1_isLoose cX1_isLoose 3 (some .boolean), Cond.fieldLink RX1 132 "WetMosaic$Piece" "out" "Z", Cond.methodLink RX1 117 yX0_shownColour, Cond.instanceMethod yX0_shownColour, Cond.selects RX0 yX0_shownColour yX0_shownColour, Cond.code yX0_shownColour cX0_shownColour 1 (some .int), Cond.fieldLink RX0 29 "WetMosaic$Piece" "showsBack" "Z", Cond.methodLink RL 92 yX3_flip, Cond.instanceMethod yX3_flip, Cond.selects RX3 yX3_flip yX3_flip, Cond.code yX3_flip cX3_flip 2 (some .int)]
def wsL_law0_r9 : List Cond := [Cond.methodLink RX3 86 yX3_isPiece, Cond.instanceMethod yX3_isPiece, Cond.selects RX3 yX3_isPiece yX3_isPiece, Cond.code yX3_isPiece cX3_isPiece 2 (some .boolean), Cond.methodLink RX3 89 yX2_isLoose, Cond.instanceMethod yX2_isLoose, Cond.selects RX2 yX2_isLoose yX2_isLoose, Cond.code yX2_isLoose cX2_isLoose 4 (some .boolean), Cond.methodLink RX3 92 yX3_swap, Cond.instanceMethod yX3_swap, Cond.selects RX3 yX3_swap yX3_swap, Cond.code yX3_swap cX3_swap 3 none, Cond.methodLink RX3 96 yX3_change, Cond.instanceMethod yX3_change, Cond.selects RX3 yX3_change yX3_change, Cond.code yX3_change cX3_change 6 none, Cond.methodLink RL 93 yL_turn, Cond.static yL_turn, Cond.codeWith yL_turn cL_turn 4 (some .int) [(0, 9, 12, 13), (0, 9, 15, 25)], Cond.methodLink RL 31 yX1_turn, Cond.instanceMethod yX1_turn, Cond.selects RX1 yX1_turn yX1_turn, Cond.code yX1_turn cX1_turn 3 (some .int), Cond.fieldLink RX1 121 "WetMosaic$Piece" "x" "I"]
def wsL_law0_r10 : List Cond := [Cond.fieldLink RX1 124 "WetMosaic$Piece" "y" "I", Cond.fieldLink RX1 127 "WetMosaic$Piece" "across" "Z", Cond.methodLink RL 95 yX3_turn, Cond.instanceMethod yX3_turn, Cond.selects RX3 yX3_turn yX3_turn, Cond.code yX3_turn cX3_turn 2 (some .int), Cond.methodLink RL 96 yL_take, Cond.static yL_take, Cond.codeWith yL_take cL_take 4 (some .int) [(0, 16, 19, 13), (0, 16, 22, 25)], Cond.methodLink RL 34 yX1_take, Cond.instanceMethod yX1_take, Cond.selects RX1 yX1_take yX1_take, Cond.code yX1_take cX1_take 4 (some .boolean), Cond.methodLink RX1 137 yX1_removeMortar, Cond.instanceMethod yX1_removeMortar, Cond.selects RX1 yX1_removeMortar yX1_removeMortar, Cond.code yX1_removeMortar cX1_removeMortar 3 none, Cond.methodLink RL 98 yX3_take, Cond.instanceMethod yX3_take, Cond.selects RX3 yX3_take yX3_take, Cond.code yX3_take cX3_take 3 (some .boolean), Cond.methodLink RL 99 yL_cell, Cond.static yL_cell, Cond.codeWith yL_cell cL_cell 6 (some .int) [(0, 12, 15, 13)]]
def wsL_law0_r11 : List Cond := [Cond.methodLink RL 38 yX1_cell, Cond.instanceMethod yX1_cell, Cond.selects RX1 yX1_cell yX1_cell, Cond.code yX1_cell cX1_cell 4 (some .int), Cond.methodLink RX1 143 yX1_cellFact, Cond.instanceMethod yX1_cellFact, Cond.selects RX1 yX1_cellFact yX1_cellFact, Cond.code yX1_cellFact cX1_cellFact 3 (some .int), Cond.methodLink RX1 217 yX1_colourAt, Cond.instanceMethod yX1_colourAt, Cond.selects RX1 yX1_colourAt yX1_colourAt, Cond.code yX1_colourAt cX1_colourAt 3 (some .int), Cond.methodLink RL 102 yX3_cell, Cond.instanceMethod yX3_cell, Cond.selects RX3 yX3_cell yX3_cell, Cond.code yX3_cell cX3_cell 4 (some .int), Cond.methodLink RX3 103 yX3_cellTold, Cond.instanceMethod yX3_cellTold, Cond.selects RX3 yX3_cellTold yX3_cellTold, Cond.code yX3_cellTold cX3_cellTold 3 (some .int), Cond.methodLink RX3 100 yX3_shown, Cond.instanceMethod yX3_shown, Cond.selects RX3 yX3_shown yX3_shown, Cond.code yX3_shown cX3_shown 2 (some .int)]
def wsL_law0_r12 : List Cond := [Cond.methodLink RL 103 yL_piece, Cond.static yL_piece, Cond.codeWith yL_piece cL_piece 5 (some .int) [(0, 10, 13, 13)], Cond.methodLink RL 42 yX1_piece, Cond.instanceMethod yX1_piece, Cond.selects RX1 yX1_piece yX1_piece, Cond.code yX1_piece cX1_piece 4 (some .int), Cond.methodLink RX1 148 yX1_pieceFact, Cond.instanceMethod yX1_pieceFact, Cond.selects RX1 yX1_pieceFact yX1_pieceFact, Cond.code yX1_pieceFact cX1_pieceFact 3 (some .int), Cond.methodLink RX1 220 yX0_otherColour, Cond.instanceMethod yX0_otherColour, Cond.selects RX0 yX0_otherColour yX0_otherColour, Cond.code yX0_otherColour cX0_otherColour 1 (some .int), Cond.methodLink RL 105 yX3_piece, Cond.instanceMethod yX3_piece, Cond.selects RX3 yX3_piece yX3_piece, Cond.code yX3_piece cX3_piece 3 (some .int), Cond.methodLink RX3 107 yX3_pieceTold, Cond.instanceMethod yX3_pieceTold, Cond.selects RX3 yX3_pieceTold yX3_pieceTold, Cond.code yX3_pieceTold cX3_pieceTold 3 (some .int), Cond.methodLink RL 106 yL_count]
def wsL_law0_r13 : List Cond := [Cond.static yL_count, Cond.codeWith yL_count cL_count 4 (some .int) [(0, 9, 12, 13)], Cond.methodLink RL 45 yX1_count, Cond.instanceMethod yX1_count, Cond.selects RX1 yX1_count yX1_count, Cond.code yX1_count cX1_count 2 (some .int), Cond.methodLink RX1 154 yX1_countFact, Cond.instanceMethod yX1_countFact, Cond.selects RX1 yX1_countFact yX1_countFact, Cond.code yX1_countFact cX1_countFact 2 (some .int), Cond.fieldLink RX1 181 "WetMosaic" "hour" "I", Cond.methodLink RX1 223 yX1_piecesIn, Cond.instanceMethod yX1_piecesIn, Cond.selects RX1 yX1_piecesIn yX1_piecesIn, Cond.code yX1_piecesIn cX1_piecesIn 4 (some .int), Cond.methodLink RX1 188 yX1_loosePieces, Cond.instanceMethod yX1_loosePieces, Cond.selects RX1 yX1_loosePieces yX1_loosePieces, Cond.code yX1_loosePieces cX1_loosePieces 4 (some .int), Cond.methodLink RX1 197 yX1_cellsFrom, Cond.static yX1_cellsFrom, Cond.code yX1_cellsFrom cX1_cellsFrom 4 (some .int), Cond.methodLink RX1 226 yX1_gaps, Cond.instanceMethod yX1_gaps]
def wsL_law0_r14 : List Cond := [Cond.selects RX1 yX1_gaps yX1_gaps, Cond.code yX1_gaps cX1_gaps 4 (some .int), Cond.methodLink RX1 169 yX1_clearMarks, Cond.instanceMethod yX1_clearMarks, Cond.selects RX1 yX1_clearMarks yX1_clearMarks, Cond.code yX1_clearMarks cX1_clearMarks 2 none, Cond.methodLink RX1 172 yX1_markGap, Cond.instanceMethod yX1_markGap, Cond.selects RX1 yX1_markGap yX1_markGap, Cond.code yX1_markGap cX1_markGap 6 (some .int), Cond.methodLink RX1 233 yX1_reach, Cond.instanceMethod yX1_reach, Cond.selects RX1 yX1_reach yX1_reach, Cond.code yX1_reach cX1_reach 5 (some .int), Cond.methodLink RL 108 yX3_count, Cond.instanceMethod yX3_count, Cond.selects RX3 yX3_count yX3_count, Cond.code yX3_count cX3_count 2 (some .int), Cond.methodLink RX3 135 yX3_counted, Cond.instanceMethod yX3_counted, Cond.selects RX3 yX3_counted yX3_counted, Cond.code yX3_counted cX3_counted 7 (some .int), Cond.methodLink RX3 122 yX3_looseOnes, Cond.instanceMethod yX3_looseOnes]
def wsL_law0_r15 : List Cond := [Cond.selects RX3 yX3_looseOnes yX3_looseOnes, Cond.code yX3_looseOnes cX3_looseOnes 3 (some .int), Cond.methodLink RX3 126 yX2_wetOnes, Cond.instanceMethod yX2_wetOnes, Cond.selects RX2 yX2_wetOnes yX2_wetOnes, Cond.code yX2_wetOnes cX2_wetOnes 6 (some .int), Cond.methodLink RX3 129 yX3_covered, Cond.instanceMethod yX3_covered, Cond.selects RX3 yX3_covered yX3_covered, Cond.code yX3_covered cX3_covered 6 (some .int), Cond.methodLink RX3 132 yX3_gaps, Cond.instanceMethod yX3_gaps, Cond.selects RX3 yX3_gaps yX3_gaps, Cond.code yX3_gaps cX3_gaps 3 (some .int), Cond.methodLink RX3 113 yX3_clear, Cond.instanceMethod yX3_clear, Cond.selects RX3 yX3_clear yX3_clear, Cond.code yX3_clear cX3_clear 2 none, Cond.methodLink RX3 116 yX3_fill, Cond.instanceMethod yX3_fill, Cond.selects RX3 yX3_fill yX3_fill, Cond.code yX3_fill cX3_fill 5 (some .int), Cond.methodLink RX3 110 yX3_beside, Cond.static yX3_beside]
def wsL_law0_r16 : List Cond := [Cond.code yX3_beside cX3_beside 4 (some .int), Cond.methodLink RL 109 yL_off, Cond.static yL_off, Cond.codeWith yL_off cL_off 6 (some .int) [(0, 12, 15, 15)], Cond.methodLink RL 48 yX1_off, Cond.instanceMethod yX1_off, Cond.selects RX1 yX1_off yX1_off, Cond.code yX1_off cX1_off 4 (some .int), Cond.methodLink RX1 157 yX1_refuseNoPattern, Cond.static yX1_refuseNoPattern, Cond.code yX1_refuseNoPattern cX1_refuseNoPattern 3 none, Cond.methodLink RX1 161 yX1_cellsOff, Cond.instanceMethod yX1_cellsOff, Cond.selects RX1 yX1_cellsOff yX1_cellsOff, Cond.code yX1_cellsOff cX1_cellsOff 7 (some .int), Cond.methodLink RX1 229 yX1_fits, Cond.instanceMethod yX1_fits, Cond.selects RX1 yX1_fits yX1_fits, Cond.code yX1_fits cX1_fits 7 (some .boolean), Cond.methodLink RL 111 yX3_off, Cond.instanceMethod yX3_off, Cond.selects RX3 yX3_off yX3_off, Cond.code yX3_off cX3_off 4 (some .int), Cond.methodLink RX3 142 yX3_isPattern]
def wsL_law0_r17 : List Cond := [Cond.static yX3_isPattern, Cond.code yX3_isPattern cX3_isPattern 3 (some .boolean), Cond.methodLink RX3 145 yX3_offBy, Cond.instanceMethod yX3_offBy, Cond.selects RX3 yX3_offBy yX3_offBy, Cond.code yX3_offBy cX3_offBy 6 (some .int), Cond.methodLink RX3 138 yX3_fits, Cond.instanceMethod yX3_fits, Cond.selects RX3 yX3_fits yX3_fits, Cond.code yX3_fits cX3_fits 8 (some .boolean), Cond.methodLink RL 112 yL_advise, Cond.static yL_advise, Cond.codeWith yL_advise cL_advise 6 (some .int) [(0, 12, 15, 15)], Cond.methodLink RL 51 yX1_advise, Cond.instanceMethod yX1_advise, Cond.selects RX1 yX1_advise yX1_advise, Cond.code yX1_advise cX1_advise 9 (some .int), Cond.methodLink RX1 165 yX1_cellsOffFlipped, Cond.instanceMethod yX1_cellsOffFlipped, Cond.selects RX1 yX1_cellsOffFlipped yX1_cellsOffFlipped, Cond.code yX1_cellsOffFlipped cX1_cellsOffFlipped 6 (some .int), Cond.methodLink RL 114 yX3_advise, Cond.instanceMethod yX3_advise, Cond.selects RX3 yX3_advise yX3_advise]
def wsL_law0_r18 : List Cond := [Cond.code yX3_advise cX3_advise 8 (some .int), Cond.methodLink RL 115 yL_mends, Cond.static yL_mends, Cond.codeWith yL_mends cL_mends 6 (some .int) [(0, 12, 15, 13)], Cond.methodLink RL 54 yX1_mends, Cond.instanceMethod yX1_mends, Cond.selects RX1 yX1_mends yX1_mends, Cond.code yX1_mends cX1_mends 4 (some .int), Cond.methodLink RX1 175 yX1_piecesForMarks, Cond.instanceMethod yX1_piecesForMarks, Cond.selects RX1 yX1_piecesForMarks yX1_piecesForMarks, Cond.code yX1_piecesForMarks cX1_piecesForMarks 8 (some .int), Cond.methodLink RL 118 yX3_mends, Cond.instanceMethod yX3_mends, Cond.selects RX3 yX3_mends yX3_mends, Cond.code yX3_mends cX3_mends 11 (some .int), Cond.methodLink RL 119 yL_gap, Cond.static yL_gap, Cond.codeWith yL_gap cL_gap 5 (some .int) [(0, 10, 13, 13)], Cond.methodLink RL 58 yX1_gap, Cond.instanceMethod yX1_gap, Cond.selects RX1 yX1_gap yX1_gap, Cond.code yX1_gap cX1_gap 3 (some .int), Cond.methodLink RL 121 yX3_gap]
def wsL_law0_r19 : List Cond := [Cond.instanceMethod yX3_gap, Cond.selects RX3 yX3_gap yX3_gap, Cond.code yX3_gap cX3_gap 3 (some .int), Cond.methodLink RL 122 yL_pass, Cond.static yL_pass, Cond.codeWith yL_pass cL_pass 4 (some .int) [(0, 9, 12, 15)], Cond.methodLink RL 61 yX1_pass, Cond.instanceMethod yX1_pass, Cond.selects RX1 yX1_pass yX1_pass, Cond.code yX1_pass cX1_pass 3 (some .int), Cond.methodLink RX1 184 yX1_dryOneHour, Cond.instanceMethod yX1_dryOneHour, Cond.selects RX1 yX1_dryOneHour yX1_dryOneHour, Cond.code yX1_dryOneHour cX1_dryOneHour 7 none, Cond.methodLink RX1 241 Lib.Math.max.name, Cond.static Lib.Math.max.name, Cond.initialized "java/lang/Math", Cond.code Lib.Math.max.name Lib.Math.max.code 2 (some .int), Cond.methodLink RX1 236 yJ9_floorMod_7cf53, Cond.static yJ9_floorMod_7cf53, Cond.initialized RJ9, Cond.code yJ9_floorMod_7cf53 cJ9_floorMod_7cf53 3 (some .int), Cond.methodLink RL 124 yX3_pass, Cond.instanceMethod yX3_pass]
def wsL_law0_r20 : List Cond := [Cond.selects RX3 yX3_pass yX3_pass, Cond.code yX3_pass cX3_pass 3 (some .int), Cond.methodLink RX3 149 yX2_pass, Cond.instanceMethod yX2_pass, Cond.selects RX2 yX2_pass yX2_pass, Cond.code yX2_pass cX2_pass 3 none, Cond.fieldLink RX2 19 "WetMosaicModel$State" "hour" "I", Cond.methodLink RX2 35 Lib.Math.max.name, Cond.methodLink RL 125 yL_loose, Cond.static yL_loose, Cond.codeWith yL_loose cL_loose 4 (some .int) [(0, 9, 12, 13)], Cond.methodLink RL 64 yX1_loose, Cond.instanceMethod yX1_loose, Cond.selects RX1 yX1_loose yX1_loose, Cond.code yX1_loose cX1_loose 4 (some .int), Cond.methodLink RX1 191 arraycopyName, Cond.native arraycopyName, Cond.static arraycopyName, Cond.initialized "java/lang/System", Cond.methodLink RL 127 yX3_loose, Cond.instanceMethod yX3_loose, Cond.selects RX3 yX3_loose yX3_loose, Cond.code yX3_loose cX3_loose 3 (some .int), Cond.methodLink RX3 152 yX2_become]
def wsL_law0_r21 : List Cond := [Cond.instanceMethod yX2_become, Cond.selects RX2 yX2_become yX2_become, Cond.code yX2_become cX2_become 2 none, Cond.methodLink RX2 23 arraycopyName, Cond.methodLink RL 128 yX1_dry, Cond.instanceMethod yX1_dry, Cond.selects RX1 yX1_dry yX1_dry, Cond.code yX1_dry cX1_dry 2 (some .int), Cond.methodLink RL 131 yX3_dry, Cond.instanceMethod yX3_dry, Cond.selects RX3 yX3_dry yX3_dry, Cond.code yX3_dry cX3_dry 2 (some .int), Cond.methodLink RL 132 yX1_share, Cond.instanceMethod yX1_share, Cond.selects RX1 yX1_share yX1_share, Cond.code yX1_share cX1_share 1 (some .double), Cond.constantDouble RX1 200 (4635329916471083008), Cond.methodLink RL 136 yX3_share, Cond.instanceMethod yX3_share, Cond.selects RX3 yX3_share yX3_share, Cond.code yX3_share cX3_share 1 (some .double), Cond.constantDouble RX3 156 (4635329916471083008), Cond.methodLink RL 137 yX1_digest, Cond.instanceMethod yX1_digest]
def wsL_law0_r22 : List Cond := [Cond.selects RX1 yX1_digest yX1_digest, Cond.code yX1_digest cX1_digest 6 (some .long), Cond.constantLong RX1 202 (967), Cond.constantLong RX1 204 (31), Cond.methodLink RL 141 yX3_digest, Cond.instanceMethod yX3_digest, Cond.selects RX3 yX3_digest yX3_digest, Cond.code yX3_digest cX3_digest 5 (some .long), Cond.constantLong RX3 158 (967), Cond.constantLong RX3 160 (31)]
def wsL_law0 : List Cond := (wsL_law0_r1 ++ (wsL_law0_r2 ++ (wsL_law0_r3 ++ (wsL_law0_r4 ++ (wsL_law0_r5 ++ (wsL_law0_r6 ++ (wsL_law0_r7 ++ (wsL_law0_r8 ++ (wsL_law0_r9 ++ (wsL_law0_r10 ++ (wsL_law0_r11 ++ (wsL_law0_r12 ++ (wsL_law0_r13 ++ (wsL_law0_r14 ++ (wsL_law0_r15 ++ (wsL_law0_r16 ++ (wsL_law0_r17 ++ (wsL_law0_r18 ++ (wsL_law0_r19 ++ (wsL_law0_r20 ++ (wsL_law0_r21 ++ wsL_law0_r22))))))))))))))))))))) ++ wsX10 ++ wsX30 ++ wsX20 ++ wsX00 ++ ([] : List Cond)
def wsL_law : List Cond := wsL_law0 ++ (vx_atS RX1 46 "java/lang/IllegalArgumentException" ["java/lang/RuntimeException", "java/lang/Exception"]).filter goodWord ++ (vx_atS RX1 65 "java/lang/IndexOutOfBoundsException" ["java/lang/RuntimeException", "java/lang/Exception"]).filter goodWord ++ (vx_atS RX1 86 "java/lang/IllegalStateException" ["java/lang/RuntimeException", "java/lang/Exception"]).filter goodWord
end
section
set_option maxRecDepth 20000 in
theorem in_wsL_law0_r1 : ∀ w ∈ wsL_law0_r1, w ∈ lw_tbl := fun w h => (goodIn_p wsL_law0_r1 [55, 58] (by decide +kernel) (by decide +kernel) w h).1
set_option maxRecDepth 20000 in
theorem in_wsL_law0_r2 : ∀ w ∈ wsL_law0_r2, w ∈ lw_tbl := fun w h => (goodIn_p wsL_law0_r2 [496, 502] (by decide +kernel) (by decide +kernel) w h).1
set_option maxRecDepth 20000 in
theorem in_wsL_law0_r3 : ∀ w ∈ wsL_law0_r3, w ∈ lw_tbl := fun w h => (goodIn_p wsL_law0_r3 [204, 207, 175, 112, 155] (by decide +kernel) (by decide +kernel) w h).1
set_option maxRecDepth 20000 in
theorem in_wsL_law0_r4 : ∀ w ∈ wsL_law0_r4, w ∈ lw_tbl := fun w h => (goodIn_p wsL_law0_r4 [109, 118, 572, 575, 578, 582] (by decide +kernel) (by decide +kernel) w h).1
set_option maxRecDepth 20000 in
theorem in_wsL_law0_r5 : ∀ w ∈ wsL_law0_r5, w ∈ lw_tbl := fun w h => (goodIn_p wsL_law0_r5 [568, 298, 586, 308] (by decide +kernel) (by decide +kernel) w h).1
set_option maxRecDepth 20000 in
theorem in_wsL_law0_r6 : ∀ w ∈ wsL_law0_r6, w ∈ lw_tbl := fun w h => (goodIn_p wsL_law0_r6 [311, 316, 320, 340] (by decide +kernel) (by decide +kernel) w h).1
end
section
set_option maxRecDepth 20000 in
theorem in_wsL_law0_r7 : ∀ w ∈ wsL_law0_r7, w ∈ lw_tbl := fun w h => (goodIn_p wsL_law0_r7 [375, 152, 590, 593, 597, 601] (by decide +kernel) (by decide +kernel) w h).1
set_option maxRecDepth 20000 in
theorem in_wsL_law0_r8 : ∀ w ∈ wsL_law0_r8, w ∈ lw_tbl := fun w h => (goodIn_p wsL_law0_r8 [382, 141, 148, 187, 605] (by decide +kernel) (by decide +kernel) w h).1
set_option maxRecDepth 20000 in
theorem in_wsL_law0_r9 : ∀ w ∈ wsL_law0_r9, w ∈ lw_tbl := fun w h => (goodIn_p wsL_law0_r9 [609, 613, 617, 621, 391] (by decide +kernel) (by decide +kernel) w h).1
set_option maxRecDepth 20000 in
theorem in_wsL_law0_r10 : ∀ w ∈ wsL_law0_r10, w ∈ lw_tbl := fun w h => (goodIn_p wsL_law0_r10 [625, 399, 404, 629] (by decide +kernel) (by decide +kernel) w h).1
set_option maxRecDepth 20000 in
theorem in_wsL_law0_r11 : ∀ w ∈ wsL_law0_r11, w ∈ lw_tbl := fun w h => (goodIn_p wsL_law0_r11 [411, 179, 183, 633, 637, 641] (by decide +kernel) (by decide +kernel) w h).1
set_option maxRecDepth 20000 in
theorem in_wsL_law0_r12 : ∀ w ∈ wsL_law0_r12, w ∈ lw_tbl := fun w h => (goodIn_p wsL_law0_r12 [419, 191, 195, 645, 649] (by decide +kernel) (by decide +kernel) w h).1
end
section
set_option maxRecDepth 20000 in
theorem in_wsL_law0_r13 : ∀ w ∈ wsL_law0_r13, w ∈ lw_tbl := fun w h => (goodIn_p wsL_law0_r13 [427, 133, 137, 145, 99] (by decide +kernel) (by decide +kernel) w h).1
set_option maxRecDepth 20000 in
theorem in_wsL_law0_r14 : ∀ w ∈ wsL_law0_r14, w ∈ lw_tbl := fun w h => (goodIn_p wsL_law0_r14 [159, 163, 167, 171, 653, 657] (by decide +kernel) (by decide +kernel) w h).1
set_option maxRecDepth 20000 in
theorem in_wsL_law0_r15 : ∀ w ∈ wsL_law0_r15, w ∈ lw_tbl := fun w h => (goodIn_p wsL_law0_r15 [661, 665, 669, 673, 677, 681] (by decide +kernel) (by decide +kernel) w h).1
set_option maxRecDepth 20000 in
theorem in_wsL_law0_r16 : ∀ w ∈ wsL_law0_r16, w ∈ lw_tbl := fun w h => (goodIn_p wsL_law0_r16 [684, 435, 438, 443, 447, 688] (by decide +kernel) (by decide +kernel) w h).1
set_option maxRecDepth 20000 in
theorem in_wsL_law0_r17 : ∀ w ∈ wsL_law0_r17, w ∈ lw_tbl := fun w h => (goodIn_p wsL_law0_r17 [691, 695, 699, 454, 458] (by decide +kernel) (by decide +kernel) w h).1
set_option maxRecDepth 20000 in
theorem in_wsL_law0_r18 : ∀ w ∈ wsL_law0_r18, w ∈ lw_tbl := fun w h => (goodIn_p wsL_law0_r18 [703, 465, 469, 707, 476] (by decide +kernel) (by decide +kernel) w h).1
end
section
set_option maxRecDepth 20000 in
theorem in_wsL_law0_r19 : ∀ w ∈ wsL_law0_r19, w ∈ lw_tbl := fun w h => (goodIn_p wsL_law0_r19 [711, 483, 103, 115, 106] (by decide +kernel) (by decide +kernel) w h).1
set_option maxRecDepth 20000 in
theorem in_wsL_law0_r20 : ∀ w ∈ wsL_law0_r20, w ∈ lw_tbl := fun w h => (goodIn_p wsL_law0_r20 [715, 719, 491, 724] (by decide +kernel) (by decide +kernel) w h).1
set_option maxRecDepth 20000 in
theorem in_wsL_law0_r21 : ∀ w ∈ wsL_law0_r21, w ∈ lw_tbl := fun w h => (goodIn_p wsL_law0_r21 [728, 93, 733, 122, 737] (by decide +kernel) (by decide +kernel) w h).1
set_option maxRecDepth 20000 in
theorem in_wsL_law0_r22 : ∀ w ∈ wsL_law0_r22, w ∈ lw_tbl := fun w h => (goodIn_p wsL_law0_r22 [127, 742] (by decide +kernel) (by decide +kernel) w h).1
set_option maxRecDepth 20000 in
theorem in_wsX10 : ∀ w ∈ wsX10, w ∈ lw_tbl := by decide +kernel
set_option maxRecDepth 20000 in
theorem in_wsX30 : ∀ w ∈ wsX30, w ∈ lw_tbl := by decide +kernel
end
section
set_option maxRecDepth 20000 in
theorem in_wsX20 : ∀ w ∈ wsX20, w ∈ lw_tbl := by decide +kernel
set_option maxRecDepth 20000 in
theorem in_wsX00 : ∀ w ∈ wsX00, w ∈ lw_tbl := by decide +kernel
end
section
theorem wsL_law_in0 : ∀ w ∈ wsL_law0, w ∈ lw_tbl := fun w h => (List.mem_append.mp h).elim (fun h => (List.mem_append.mp h).elim (fun h => (List.mem_append.mp h).elim (fun h => (List.mem_append.mp h).elim (fun h => (List.mem_append.mp h).elim (fun h => (List.mem_append.mp h).elim (fun h => in_wsL_law0_r1 w h) (fun h => (List.mem_append.mp h).elim (fun h => in_wsL_law0_r2 w h) (fun h => (List.mem_append.mp h).elim (fun h => in_wsL_law0_r3 w h) (fun h => (List.mem_append.mp h).elim (fun h => in_wsL_law0_r4 w h) (fun h => (List.mem_append.mp h).elim (fun h => in_wsL_law0_r5 w h) (fun h => (List.mem_append.mp h).elim (fun h => in_wsL_law0_r6 w h) (fun h => (List.mem_append.mp h).elim (fun h => in_wsL_law0_r7 w h) (fun h => (List.mem_append.mp h).elim (fun h => in_wsL_law0_r8 w h) (fun h => (List.mem_append.mp h).elim (fun h => in_wsL_law0_r9 w h) (fun h => (List.mem_append.mp h).elim (fun h => in_wsL_law0_r10 w h) (fun h => (List.mem_append.mp h).elim (fun h => in_wsL_law0_r11 w h) (fun h => (List.mem_append.mp h).elim (fun h => in_wsL_law0_r12 w h) (fun h => (List.mem_append.mp h).elim (fun h => in_wsL_law0_r13 w h) (fun h => (List.mem_append.mp h).elim (fun h => in_wsL_law0_r14 w h) (fun h => (List.mem_append.mp h).elim (fun h => in_wsL_law0_r15 w h) (fun h => (List.mem_append.mp h).elim (fun h => in_wsL_law0_r16 w h) (fun h => (List.mem_append.mp h).elim (fun h => in_wsL_law0_r17 w h) (fun h => (List.mem_append.mp h).elim (fun h => in_wsL_law0_r18 w h) (fun h => (List.mem_append.mp h).elim (fun h => in_wsL_law0_r19 w h) (fun h => (List.mem_append.mp h).elim (fun h => in_wsL_law0_r20 w h) (fun h => (List.mem_append.mp h).elim (fun h => in_wsL_law0_r21 w h) (fun h => in_wsL_law0_r22 w h)))))))))))))))))))))) (fun h => in_wsX10 w h)) (fun h => in_wsX30 w h)) (fun h => in_wsX20 w h)) (fun h => in_wsX00 w h)) (fun h => absurd h List.not_mem_nil)
theorem wsL_law_x0 : ∀ w ∈ (vx_atS RX1 46 "java/lang/IllegalArgumentException" ["java/lang/RuntimeException", "java/lang/Exception"]).filter goodWord, w ∈ lw_tbl := by decide +kernel
theorem wsL_law_x1 : ∀ w ∈ (vx_atS RX1 65 "java/lang/IndexOutOfBoundsException" ["java/lang/RuntimeException", "java/lang/Exception"]).filter goodWord, w ∈ lw_tbl := by decide +kernel
theorem wsL_law_x2 : ∀ w ∈ (vx_atS RX1 86 "java/lang/IllegalStateException" ["java/lang/RuntimeException", "java/lang/Exception"]).filter goodWord, w ∈ lw_tbl := by decide +kernel
theorem wsL_law_in : ∀ w ∈ wsL_law, w ∈ lw_tbl := fun w h => (List.mem_append.mp h).elim (fun h => (List.mem_append.mp h).elim (fun h => (List.mem_append.mp h).elim (fun h => wsL_law_in0 w h) (fun h => wsL_law_x0 w h)) (fun h => wsL_law_x1 w h)) (fun h => wsL_law_x2 w h)
theorem inlX0 : ∀ w ∈ wsX00, w ∈ wsL_law := fun _ h => List.mem_append_left _ (List.mem_append_left _ (List.mem_append_left _ (List.mem_append_left _ (List.mem_append_right _ h))))
theorem inX0 : ∀ w ∈ wsX00, w ∈ lw_tbl := fun w h => wsL_law_in w (inlX0 w h)
theorem inlX1 : ∀ w ∈ wsX10, w ∈ wsL_law := fun _ h => List.mem_append_left _ (List.mem_append_left _ (List.mem_append_left _ (List.mem_append_left _ (List.mem_append_left _ (List.mem_append_left _ (List.mem_append_left _ (List.mem_append_right _ h)))))))
theorem inX1 : ∀ w ∈ wsX10, w ∈ lw_tbl := fun w h => wsL_law_in w (inlX1 w h)
theorem inlX2 : ∀ w ∈ wsX20, w ∈ wsL_law := fun _ h => List.mem_append_left _ (List.mem_append_left _ (List.mem_append_left _ (List.mem_append_left _ (List.mem_append_left _ (List.mem_append_right _ h)))))
theorem inX2 : ∀ w ∈ wsX20, w ∈ lw_tbl := fun w h => wsL_law_in w (inlX2 w h)
theorem inlX3 : ∀ w ∈ wsX30, w ∈ wsL_law := fun _ h => List.mem_append_left _ (List.mem_append_left _ (List.mem_append_left _ (List.mem_append_left _ (List.mem_append_left _ (List.mem_append_left _ (List.mem_append_right _ h))))))
theorem inX3 : ∀ w ∈ wsX30, w ∈ lw_tbl := fun w h => wsL_law_in w (inlX3 w h)
theorem inJ9 : ∀ w ∈ wsJ90, w ∈ lw_tbl := by decide +kernel
theorem inJ0 : ∀ w ∈ wsJ00, w ∈ lw_tbl := by decide +kernel
theorem inJ10 : ∀ w ∈ wsJ100, w ∈ lw_tbl := by decide +kernel
end
section
theorem dX0_init_0 : decode cX0_init 0 = .ok (.aload_n 0, 1) := by decide +kernel
theorem dX0_init_1 : decode cX0_init 1 = .ok (.invokespecial 1, 3) := by decide +kernel
theorem dX0_init_4 : decode cX0_init 4 = .ok (.aload_n 0, 1) := by decide +kernel
theorem dX0_init_5 : decode cX0_init 5 = .ok (.iload_n 1, 1) := by decide +kernel
theorem dX0_init_6 : decode cX0_init 6 = .ok (.putfield 7, 3) := by decide +kernel
theorem dX0_init_9 : decode cX0_init 9 = .ok (.aload_n 0, 1) := by decide +kernel
theorem dX0_init_10 : decode cX0_init 10 = .ok (.iload_n 2, 1) := by decide +kernel
theorem dX0_init_11 : decode cX0_init 11 = .ok (.putfield 13, 3) := by decide +kernel
theorem dX0_init_14 : decode cX0_init 14 = .ok (.aload_n 0, 1) := by decide +kernel
theorem dX0_init_15 : decode cX0_init 15 = .ok (.iload_n 3, 1) := by decide +kernel
theorem dX0_init_16 : decode cX0_init 16 = .ok (.putfield 16, 3) := by decide +kernel
theorem dX0_init_19 : decode cX0_init 19 = .ok (.aload_n 0, 1) := by decide +kernel
theorem dX0_init_20 : decode cX0_init 20 = .ok (.iload 4, 2) := by decide +kernel
theorem dX0_init_22 : decode cX0_init 22 = .ok (.putfield 19, 3) := by decide +kernel
theorem dX0_init_25 : decode cX0_init 25 = .ok (.aload_n 0, 1) := by decide +kernel
theorem dX0_init_26 : decode cX0_init 26 = .ok (.iload 5, 2) := by decide +kernel
theorem dX0_init_28 : decode cX0_init 28 = .ok (.putfield 23, 3) := by decide +kernel
theorem dX0_init_31 : decode cX0_init 31 = .ok (.aload_n 0, 1) := by decide +kernel
theorem dX0_init_32 : decode cX0_init 32 = .ok (.iload 6, 2) := by decide +kernel
theorem dX0_init_34 : decode cX0_init 34 = .ok (.putfield 26, 3) := by decide +kernel
theorem dX0_init_37 : decode cX0_init 37 = .ok (.return_, 1) := by decide +kernel
theorem dX0_shownColour_0 : decode cX0_shownColour 0 = .ok (.aload_n 0, 1) := by decide +kernel
theorem dX0_shownColour_1 : decode cX0_shownColour 1 = .ok (.getfield 29, 3) := by decide +kernel
theorem dX0_shownColour_4 : decode cX0_shownColour 4 = .ok (.ifCond .eq 10, 3) := by decide +kernel
theorem dX0_shownColour_7 : decode cX0_shownColour 7 = .ok (.aload_n 0, 1) := by decide +kernel
theorem dX0_shownColour_8 : decode cX0_shownColour 8 = .ok (.getfield 26, 3) := by decide +kernel
theorem dX0_shownColour_11 : decode cX0_shownColour 11 = .ok (.goto 7, 3) := by decide +kernel
theorem dX0_shownColour_14 : decode cX0_shownColour 14 = .ok (.aload_n 0, 1) := by decide +kernel
theorem dX0_shownColour_15 : decode cX0_shownColour 15 = .ok (.getfield 23, 3) := by decide +kernel
theorem dX0_shownColour_18 : decode cX0_shownColour 18 = .ok (.ireturn, 1) := by decide +kernel
theorem dX0_otherColour_0 : decode cX0_otherColour 0 = .ok (.aload_n 0, 1) := by decide +kernel
theorem dX0_otherColour_1 : decode cX0_otherColour 1 = .ok (.getfield 29, 3) := by decide +kernel
theorem dX0_otherColour_4 : decode cX0_otherColour 4 = .ok (.ifCond .eq 10, 3) := by decide +kernel
theorem dX0_otherColour_7 : decode cX0_otherColour 7 = .ok (.aload_n 0, 1) := by decide +kernel
theorem dX0_otherColour_8 : decode cX0_otherColour 8 = .ok (.getfield 23, 3) := by decide +kernel
theorem dX0_otherColour_11 : decode cX0_otherColour 11 = .ok (.goto 7, 3) := by decide +kernel
theorem dX0_otherColour_14 : decode cX0_otherColour 14 = .ok (.aload_n 0, 1) := by decide +kernel
theorem dX0_otherColour_15 : decode cX0_otherColour 15 = .ok (.getfield 26, 3) := by decide +kernel
theorem dX0_otherColour_18 : decode cX0_otherColour 18 = .ok (.ireturn, 1) := by decide +kernel
set_option maxRecDepth 20000 in
theorem ggX0_cellAt_X1_cellOf : GoodIn wsX0_cellAt wsX1_cellOf := goodIn_r _ [6] (by decide +kernel) (by decide +kernel)
set_option maxRecDepth 20000 in
theorem gX0_cellAt_X1_cellOf_n32 : GoodIn wsX0_cellAt (wsX1_cellOf) := ggX0_cellAt_X1_cellOf
theorem dX0_cellAt_0 : decode cX0_cellAt 0 = .ok (.aload_n 0, 1) := by decide +kernel
theorem dX0_cellAt_1 : decode cX0_cellAt 1 = .ok (.getfield 19, 3) := by decide +kernel
theorem dX0_cellAt_4 : decode cX0_cellAt 4 = .ok (.ifCond .eq 12, 3) := by decide +kernel
theorem dX0_cellAt_7 : decode cX0_cellAt 7 = .ok (.aload_n 0, 1) := by decide +kernel
theorem dX0_cellAt_8 : decode cX0_cellAt 8 = .ok (.getfield 7, 3) := by decide +kernel
theorem dX0_cellAt_11 : decode cX0_cellAt 11 = .ok (.iload_n 1, 1) := by decide +kernel
theorem dX0_cellAt_12 : decode cX0_cellAt 12 = .ok (.iadd, 1) := by decide +kernel
theorem dX0_cellAt_13 : decode cX0_cellAt 13 = .ok (.goto 7, 3) := by decide +kernel
theorem dX0_cellAt_16 : decode cX0_cellAt 16 = .ok (.aload_n 0, 1) := by decide +kernel
theorem dX0_cellAt_17 : decode cX0_cellAt 17 = .ok (.getfield 7, 3) := by decide +kernel
theorem dX0_cellAt_20 : decode cX0_cellAt 20 = .ok (.aload_n 0, 1) := by decide +kernel
theorem dX0_cellAt_21 : decode cX0_cellAt 21 = .ok (.getfield 19, 3) := by decide +kernel
theorem dX0_cellAt_24 : decode cX0_cellAt 24 = .ok (.ifCond .eq 10, 3) := by decide +kernel
theorem dX0_cellAt_27 : decode cX0_cellAt 27 = .ok (.aload_n 0, 1) := by decide +kernel
theorem dX0_cellAt_28 : decode cX0_cellAt 28 = .ok (.getfield 13, 3) := by decide +kernel
theorem dX0_cellAt_31 : decode cX0_cellAt 31 = .ok (.goto 9, 3) := by decide +kernel
theorem dX0_cellAt_34 : decode cX0_cellAt 34 = .ok (.aload_n 0, 1) := by decide +kernel
theorem dX0_cellAt_35 : decode cX0_cellAt 35 = .ok (.getfield 13, 3) := by decide +kernel
theorem dX0_cellAt_38 : decode cX0_cellAt 38 = .ok (.iload_n 1, 1) := by decide +kernel
theorem dX0_cellAt_39 : decode cX0_cellAt 39 = .ok (.iadd, 1) := by decide +kernel
theorem dX0_cellAt_40 : decode cX0_cellAt 40 = .ok (.invokestatic 32, 3) := by decide +kernel
theorem dX0_cellAt_43 : decode cX0_cellAt 43 = .ok (.ireturn, 1) := by decide +kernel
theorem dX1_init_0 : decode cX1_init 0 = .ok (.aload_n 0, 1) := by decide +kernel
theorem dX1_init_1 : decode cX1_init 1 = .ok (.invokespecial 1, 3) := by decide +kernel
theorem dX1_init_4 : decode cX1_init 4 = .ok (.aload_n 0, 1) := by decide +kernel
theorem dX1_init_5 : decode cX1_init 5 = .ok (.bipush 80, 2) := by decide +kernel
theorem dX1_init_7 : decode cX1_init 7 = .ok (.newarray .int, 2) := by decide +kernel
theorem dX1_init_9 : decode cX1_init 9 = .ok (.putfield 9, 3) := by decide +kernel
theorem dX1_init_12 : decode cX1_init 12 = .ok (.aload_n 0, 1) := by decide +kernel
theorem dX1_init_13 : decode cX1_init 13 = .ok (.bipush 80, 2) := by decide +kernel
theorem dX1_init_15 : decode cX1_init 15 = .ok (.newarray .int, 2) := by decide +kernel
theorem dX1_init_17 : decode cX1_init 17 = .ok (.putfield 13, 3) := by decide +kernel
theorem dX1_init_20 : decode cX1_init 20 = .ok (.aload_n 0, 1) := by decide +kernel
theorem dX1_init_21 : decode cX1_init 21 = .ok (.bipush 8, 2) := by decide +kernel
theorem dX1_init_23 : decode cX1_init 23 = .ok (.newarray .int, 2) := by decide +kernel
theorem dX1_init_25 : decode cX1_init 25 = .ok (.putfield 16, 3) := by decide +kernel
theorem dX1_init_28 : decode cX1_init 28 = .ok (.aload_n 0, 1) := by decide +kernel
theorem dX1_init_29 : decode cX1_init 29 = .ok (.bipush 100, 2) := by decide +kernel
theorem dX1_init_31 : decode cX1_init 31 = .ok (.anewarray 19, 3) := by decide +kernel
theorem dX1_init_34 : decode cX1_init 34 = .ok (.putfield 21, 3) := by decide +kernel
theorem dX1_init_37 : decode cX1_init 37 = .ok (.aload_n 0, 1) := by decide +kernel
theorem dX1_init_38 : decode cX1_init 38 = .ok (.bipush 80, 2) := by decide +kernel
theorem dX1_init_40 : decode cX1_init 40 = .ok (.newarray .int, 2) := by decide +kernel
theorem dX1_init_42 : decode cX1_init 42 = .ok (.putfield 25, 3) := by decide +kernel
theorem dX1_init_45 : decode cX1_init 45 = .ok (.aload_n 0, 1) := by decide +kernel
theorem dX1_init_46 : decode cX1_init 46 = .ok (.bipush 80, 2) := by decide +kernel
theorem dX1_init_48 : decode cX1_init 48 = .ok (.newarray .int, 2) := by decide +kernel
theorem dX1_init_50 : decode cX1_init 50 = .ok (.putfield 28, 3) := by decide +kernel
theorem dX1_init_53 : decode cX1_init 53 = .ok (.aload_n 0, 1) := by decide +kernel
theorem dX1_init_54 : decode cX1_init 54 = .ok (.bipush 80, 2) := by decide +kernel
theorem dX1_init_56 : decode cX1_init 56 = .ok (.newarray .int, 2) := by decide +kernel
theorem dX1_init_58 : decode cX1_init 58 = .ok (.putfield 31, 3) := by decide +kernel
theorem dX1_init_61 : decode cX1_init 61 = .ok (.iconst 0, 1) := by decide +kernel
theorem dX1_init_62 : decode cX1_init 62 = .ok (.istore_n 1, 1) := by decide +kernel
theorem dX1_init_63 : decode cX1_init 63 = .ok (.iload_n 1, 1) := by decide +kernel
theorem dX1_init_64 : decode cX1_init 64 = .ok (.bipush 80, 2) := by decide +kernel
theorem dX1_init_66 : decode cX1_init 66 = .ok (.if_icmp .ge 23, 3) := by decide +kernel
theorem dX1_init_69 : decode cX1_init 69 = .ok (.aload_n 0, 1) := by decide +kernel
theorem dX1_init_70 : decode cX1_init 70 = .ok (.getfield 9, 3) := by decide +kernel
theorem dX1_init_73 : decode cX1_init 73 = .ok (.iload_n 1, 1) := by decide +kernel
theorem dX1_init_74 : decode cX1_init 74 = .ok (.iconst (-1), 1) := by decide +kernel
theorem dX1_init_75 : decode cX1_init 75 = .ok (.iastore, 1) := by decide +kernel
theorem dX1_init_76 : decode cX1_init 76 = .ok (.aload_n 0, 1) := by decide +kernel
theorem dX1_init_77 : decode cX1_init 77 = .ok (.getfield 13, 3) := by decide +kernel
theorem dX1_init_80 : decode cX1_init 80 = .ok (.iload_n 1, 1) := by decide +kernel
theorem dX1_init_81 : decode cX1_init 81 = .ok (.iconst (-1), 1) := by decide +kernel
theorem dX1_init_82 : decode cX1_init 82 = .ok (.iastore, 1) := by decide +kernel
theorem dX1_init_83 : decode cX1_init 83 = .ok (.iinc 1 1, 3) := by decide +kernel
theorem dX1_init_86 : decode cX1_init 86 = .ok (.goto (-23), 3) := by decide +kernel
theorem dX1_init_89 : decode cX1_init 89 = .ok (.iconst 0, 1) := by decide +kernel
theorem dX1_init_90 : decode cX1_init 90 = .ok (.istore_n 1, 1) := by decide +kernel
theorem dX1_init_91 : decode cX1_init 91 = .ok (.iload_n 1, 1) := by decide +kernel
theorem dX1_init_92 : decode cX1_init 92 = .ok (.bipush 8, 2) := by decide +kernel
theorem dX1_init_94 : decode cX1_init 94 = .ok (.if_icmp .ge 16, 3) := by decide +kernel
theorem dX1_init_97 : decode cX1_init 97 = .ok (.aload_n 0, 1) := by decide +kernel
theorem dX1_init_98 : decode cX1_init 98 = .ok (.getfield 16, 3) := by decide +kernel
theorem dX1_init_101 : decode cX1_init 101 = .ok (.iload_n 1, 1) := by decide +kernel
theorem dX1_init_102 : decode cX1_init 102 = .ok (.iconst 1, 1) := by decide +kernel
theorem dX1_init_103 : decode cX1_init 103 = .ok (.iastore, 1) := by decide +kernel
theorem dX1_init_104 : decode cX1_init 104 = .ok (.iinc 1 1, 3) := by decide +kernel
theorem dX1_init_107 : decode cX1_init 107 = .ok (.goto (-16), 3) := by decide +kernel
theorem dX1_init_110 : decode cX1_init 110 = .ok (.return_, 1) := by decide +kernel
set_option maxRecDepth 20000 in
theorem ggX1_spread_X1_refuseOutside : GoodIn wsX1_spread wsX1_refuseOutside := goodIn_ca (goodIn_r _ [8, 9, 10, 11, 12, 7, 13, 14, 15, 16] (by decide +kernel) (by decide +kernel)) (goodIn_sub (fun _ h => List.mem_cons_of_mem _ (List.mem_append_right _ h)) (by decide +kernel))
set_option maxRecDepth 20000 in
theorem gX1_spread_X1_refuseOutside : GoodIn wsX1_spread (va_wsS RX1 34 yX1_refuseOutside wsX1_refuseOutside) := goodIn_app (goodIn_of _ (by decide +kernel)) ggX1_spread_X1_refuseOutside
set_option maxRecDepth 20000 in
theorem ggX1_spread_X1_within : GoodIn wsX1_spread wsX1_within := goodIn_r _ [16] (by decide +kernel) (by decide +kernel)
set_option maxRecDepth 20000 in
theorem gX1_spread_X1_within : GoodIn wsX1_spread (va_wsS RX1 38 yX1_within wsX1_within) := goodIn_app (goodIn_of _ (by decide +kernel)) ggX1_spread_X1_within
set_option maxRecDepth 20000 in
theorem ggX1_spread_X1_cellOf : GoodIn wsX1_spread wsX1_cellOf := goodIn_r _ [19] (by decide +kernel) (by decide +kernel)
set_option maxRecDepth 20000 in
theorem gX1_spread_X1_cellOf : GoodIn wsX1_spread (va_wsS RX1 49 yX1_cellOf wsX1_cellOf) := goodIn_app (goodIn_of _ (by decide +kernel)) ggX1_spread_X1_cellOf
set_option maxRecDepth 20000 in
theorem ggX1_spread_X1_at : GoodIn wsX1_spread wsX1_at := goodIn_r _ [22, 14, 15, 7, 16] (by decide +kernel) (by decide +kernel)
set_option maxRecDepth 20000 in
theorem gX1_spread_X1_at : GoodIn wsX1_spread (va_wsS RX1 53 yX1_at wsX1_at) := goodIn_app (goodIn_of _ (by decide +kernel)) ggX1_spread_X1_at
set_option maxRecDepth 20000 in
theorem ggX1_spread_X1_put : GoodIn wsX1_spread wsX1_put := goodIn_r _ [25, 14, 15, 7, 16] (by decide +kernel) (by decide +kernel)
set_option maxRecDepth 20000 in
theorem gX1_spread_X1_put : GoodIn wsX1_spread (va_wsS RX1 57 yX1_put wsX1_put) := goodIn_app (goodIn_of _ (by decide +kernel)) ggX1_spread_X1_put
theorem dX1_spread_0 : decode cX1_spread 0 = .ok (.iload_n 1, 1) := by decide +kernel
theorem dX1_spread_1 : decode cX1_spread 1 = .ok (.iload_n 2, 1) := by decide +kernel
theorem dX1_spread_2 : decode cX1_spread 2 = .ok (.invokestatic 34, 3) := by decide +kernel
theorem dX1_spread_5 : decode cX1_spread 5 = .ok (.iload_n 3, 1) := by decide +kernel
theorem dX1_spread_6 : decode cX1_spread 6 = .ok (.iconst 1, 1) := by decide +kernel
theorem dX1_spread_7 : decode cX1_spread 7 = .ok (.bipush 10, 2) := by decide +kernel
theorem dX1_spread_9 : decode cX1_spread 9 = .ok (.iload_n 1, 1) := by decide +kernel
theorem dX1_spread_10 : decode cX1_spread 10 = .ok (.isub, 1) := by decide +kernel
theorem dX1_spread_11 : decode cX1_spread 11 = .ok (.invokestatic 38, 3) := by decide +kernel
theorem dX1_spread_14 : decode cX1_spread 14 = .ok (.ifCond .eq 16, 3) := by decide +kernel
theorem dX1_spread_17 : decode cX1_spread 17 = .ok (.iload 4, 2) := by decide +kernel
theorem dX1_spread_19 : decode cX1_spread 19 = .ok (.iconst 1, 1) := by decide +kernel
theorem dX1_spread_20 : decode cX1_spread 20 = .ok (.bipush 8, 2) := by decide +kernel
theorem dX1_spread_22 : decode cX1_spread 22 = .ok (.iload_n 2, 1) := by decide +kernel
theorem dX1_spread_23 : decode cX1_spread 23 = .ok (.isub, 1) := by decide +kernel
theorem dX1_spread_24 : decode cX1_spread 24 = .ok (.invokestatic 38, 3) := by decide +kernel
theorem dX1_spread_27 : decode cX1_spread 27 = .ok (.ifCond .ne 13, 3) := by decide +kernel
theorem dX1_spread_30 : decode cX1_spread 30 = .ok (.new 42, 3) := by decide +kernel
theorem dX1_spread_33 : decode cX1_spread 33 = .ok (.dup, 1) := by decide +kernel
theorem dX1_spread_34 : decode cX1_spread 34 = .ok (.ldc 44, 2) := by decide +kernel
theorem dX1_spread_36 : decode cX1_spread 36 = .ok (.invokespecial 46, 3) := by decide +kernel
theorem dX1_spread_39 : decode cX1_spread 39 = .ok (.athrow, 1) := by decide +kernel
theorem dX1_spread_40 : decode cX1_spread 40 = .ok (.iconst 0, 1) := by decide +kernel
theorem dX1_spread_41 : decode cX1_spread 41 = .ok (.istore 5, 2) := by decide +kernel
theorem dX1_spread_43 : decode cX1_spread 43 = .ok (.iconst 0, 1) := by decide +kernel
theorem dX1_spread_44 : decode cX1_spread 44 = .ok (.istore 6, 2) := by decide +kernel
theorem dX1_spread_46 : decode cX1_spread 46 = .ok (.iload 6, 2) := by decide +kernel
theorem dX1_spread_48 : decode cX1_spread 48 = .ok (.iload 4, 2) := by decide +kernel
theorem dX1_spread_50 : decode cX1_spread 50 = .ok (.if_icmp .ge 64, 3) := by decide +kernel
theorem dX1_spread_53 : decode cX1_spread 53 = .ok (.iconst 0, 1) := by decide +kernel
theorem dX1_spread_54 : decode cX1_spread 54 = .ok (.istore 7, 2) := by decide +kernel
theorem dX1_spread_56 : decode cX1_spread 56 = .ok (.iload 7, 2) := by decide +kernel
theorem dX1_spread_58 : decode cX1_spread 58 = .ok (.iload_n 3, 1) := by decide +kernel
theorem dX1_spread_59 : decode cX1_spread 59 = .ok (.if_icmp .ge 49, 3) := by decide +kernel
theorem dX1_spread_62 : decode cX1_spread 62 = .ok (.iload_n 1, 1) := by decide +kernel
theorem dX1_spread_63 : decode cX1_spread 63 = .ok (.iload 7, 2) := by decide +kernel
theorem dX1_spread_65 : decode cX1_spread 65 = .ok (.iadd, 1) := by decide +kernel
theorem dX1_spread_66 : decode cX1_spread 66 = .ok (.iload_n 2, 1) := by decide +kernel
theorem dX1_spread_67 : decode cX1_spread 67 = .ok (.iload 6, 2) := by decide +kernel
theorem dX1_spread_69 : decode cX1_spread 69 = .ok (.iadd, 1) := by decide +kernel
theorem dX1_spread_70 : decode cX1_spread 70 = .ok (.invokestatic 49, 3) := by decide +kernel
theorem dX1_spread_73 : decode cX1_spread 73 = .ok (.istore 8, 2) := by decide +kernel
theorem dX1_spread_75 : decode cX1_spread 75 = .ok (.aload_n 0, 1) := by decide +kernel
theorem dX1_spread_76 : decode cX1_spread 76 = .ok (.getfield 13, 3) := by decide +kernel
theorem dX1_spread_79 : decode cX1_spread 79 = .ok (.iload 8, 2) := by decide +kernel
theorem dX1_spread_81 : decode cX1_spread 81 = .ok (.invokestatic 53, 3) := by decide +kernel
theorem dX1_spread_84 : decode cX1_spread 84 = .ok (.iconst (-1), 1) := by decide +kernel
theorem dX1_spread_85 : decode cX1_spread 85 = .ok (.if_icmp .ne 17, 3) := by decide +kernel
theorem dX1_spread_88 : decode cX1_spread 88 = .ok (.aload_n 0, 1) := by decide +kernel
theorem dX1_spread_89 : decode cX1_spread 89 = .ok (.getfield 9, 3) := by decide +kernel
theorem dX1_spread_92 : decode cX1_spread 92 = .ok (.iload 8, 2) := by decide +kernel
theorem dX1_spread_94 : decode cX1_spread 94 = .ok (.bipush 12, 2) := by decide +kernel
theorem dX1_spread_96 : decode cX1_spread 96 = .ok (.invokestatic 57, 3) := by decide +kernel
theorem dX1_spread_99 : decode cX1_spread 99 = .ok (.iinc 5 1, 3) := by decide +kernel
theorem dX1_spread_102 : decode cX1_spread 102 = .ok (.iinc 7 1, 3) := by decide +kernel
theorem dX1_spread_105 : decode cX1_spread 105 = .ok (.goto (-49), 3) := by decide +kernel
theorem dX1_spread_108 : decode cX1_spread 108 = .ok (.iinc 6 1, 3) := by decide +kernel
theorem dX1_spread_111 : decode cX1_spread 111 = .ok (.goto (-65), 3) := by decide +kernel
theorem dX1_spread_114 : decode cX1_spread 114 = .ok (.iload 5, 2) := by decide +kernel
theorem dX1_spread_116 : decode cX1_spread 116 = .ok (.ireturn, 1) := by decide +kernel
set_option maxRecDepth 20000 in
theorem ggX1_setSun_X1_within : GoodIn wsX1_setSun wsX1_within := goodIn_r _ [9] (by decide +kernel) (by decide +kernel)
set_option maxRecDepth 20000 in
theorem gX1_setSun_X1_within : GoodIn wsX1_setSun (va_wsS RX1 38 yX1_within wsX1_within) := goodIn_app (goodIn_of _ (by decide +kernel)) ggX1_setSun_X1_within
set_option maxRecDepth 20000 in
theorem ggX1_setSun_X1_at : GoodIn wsX1_setSun wsX1_at := goodIn_r _ [12, 6, 7, 8, 9] (by decide +kernel) (by decide +kernel)
set_option maxRecDepth 20000 in
theorem gX1_setSun_X1_at : GoodIn wsX1_setSun (va_wsS RX1 53 yX1_at wsX1_at) := goodIn_app (goodIn_of _ (by decide +kernel)) ggX1_setSun_X1_at
set_option maxRecDepth 20000 in
theorem ggX1_setSun_X1_put : GoodIn wsX1_setSun wsX1_put := goodIn_r _ [15, 6, 7, 8, 9] (by decide +kernel) (by decide +kernel)
set_option maxRecDepth 20000 in
theorem gX1_setSun_X1_put : GoodIn wsX1_setSun (va_wsS RX1 57 yX1_put wsX1_put) := goodIn_app (goodIn_of _ (by decide +kernel)) ggX1_setSun_X1_put
theorem dX1_setSun_0 : decode cX1_setSun 0 = .ok (.iload_n 1, 1) := by decide +kernel
theorem dX1_setSun_1 : decode cX1_setSun 1 = .ok (.iconst 0, 1) := by decide +kernel
theorem dX1_setSun_2 : decode cX1_setSun 2 = .ok (.bipush 7, 2) := by decide +kernel
theorem dX1_setSun_4 : decode cX1_setSun 4 = .ok (.invokestatic 38, 3) := by decide +kernel
theorem dX1_setSun_7 : decode cX1_setSun 7 = .ok (.ifCond .ne 13, 3) := by decide +kernel
theorem dX1_setSun_10 : decode cX1_setSun 10 = .ok (.new 61, 3) := by decide +kernel
theorem dX1_setSun_13 : decode cX1_setSun 13 = .ok (.dup, 1) := by decide +kernel
theorem dX1_setSun_14 : decode cX1_setSun 14 = .ok (.ldc 63, 2) := by decide +kernel
theorem dX1_setSun_16 : decode cX1_setSun 16 = .ok (.invokespecial 65, 3) := by decide +kernel
theorem dX1_setSun_19 : decode cX1_setSun 19 = .ok (.athrow, 1) := by decide +kernel
theorem dX1_setSun_20 : decode cX1_setSun 20 = .ok (.iload_n 2, 1) := by decide +kernel
theorem dX1_setSun_21 : decode cX1_setSun 21 = .ok (.iconst 0, 1) := by decide +kernel
theorem dX1_setSun_22 : decode cX1_setSun 22 = .ok (.iconst 4, 1) := by decide +kernel
theorem dX1_setSun_23 : decode cX1_setSun 23 = .ok (.invokestatic 38, 3) := by decide +kernel
theorem dX1_setSun_26 : decode cX1_setSun 26 = .ok (.ifCond .ne 13, 3) := by decide +kernel
theorem dX1_setSun_29 : decode cX1_setSun 29 = .ok (.new 42, 3) := by decide +kernel
theorem dX1_setSun_32 : decode cX1_setSun 32 = .ok (.dup, 1) := by decide +kernel
theorem dX1_setSun_33 : decode cX1_setSun 33 = .ok (.ldc 66, 2) := by decide +kernel
theorem dX1_setSun_35 : decode cX1_setSun 35 = .ok (.invokespecial 46, 3) := by decide +kernel
theorem dX1_setSun_38 : decode cX1_setSun 38 = .ok (.athrow, 1) := by decide +kernel
theorem dX1_setSun_39 : decode cX1_setSun 39 = .ok (.aload_n 0, 1) := by decide +kernel
theorem dX1_setSun_40 : decode cX1_setSun 40 = .ok (.getfield 16, 3) := by decide +kernel
theorem dX1_setSun_43 : decode cX1_setSun 43 = .ok (.iload_n 1, 1) := by decide +kernel
theorem dX1_setSun_44 : decode cX1_setSun 44 = .ok (.invokestatic 53, 3) := by decide +kernel
theorem dX1_setSun_47 : decode cX1_setSun 47 = .ok (.istore_n 3, 1) := by decide +kernel
theorem dX1_setSun_48 : decode cX1_setSun 48 = .ok (.aload_n 0, 1) := by decide +kernel
theorem dX1_setSun_49 : decode cX1_setSun 49 = .ok (.getfield 16, 3) := by decide +kernel
theorem dX1_setSun_52 : decode cX1_setSun 52 = .ok (.iload_n 1, 1) := by decide +kernel
theorem dX1_setSun_53 : decode cX1_setSun 53 = .ok (.iload_n 2, 1) := by decide +kernel
theorem dX1_setSun_54 : decode cX1_setSun 54 = .ok (.invokestatic 57, 3) := by decide +kernel
theorem dX1_setSun_57 : decode cX1_setSun 57 = .ok (.iload_n 3, 1) := by decide +kernel
theorem dX1_setSun_58 : decode cX1_setSun 58 = .ok (.ireturn, 1) := by decide +kernel
set_option maxRecDepth 20000 in
theorem ggX1_press_X1_refuseOutside : GoodIn wsX1_press wsX1_refuseOutside := goodIn_ca (goodIn_r _ [13, 14, 15, 16, 17, 12, 18, 19, 20, 21] (by decide +kernel) (by decide +kernel)) (goodIn_sub (fun _ h => List.mem_cons_of_mem _ (List.mem_append_right _ h)) (by decide +kernel))
set_option maxRecDepth 20000 in
theorem gX1_press_X1_refuseOutside : GoodIn wsX1_press (va_wsS RX1 34 yX1_refuseOutside wsX1_refuseOutside) := goodIn_app (goodIn_of _ (by decide +kernel)) ggX1_press_X1_refuseOutside
set_option maxRecDepth 20000 in
theorem ggX1_press_X1_within : GoodIn wsX1_press wsX1_within := goodIn_r _ [21] (by decide +kernel) (by decide +kernel)
set_option maxRecDepth 20000 in
theorem gX1_press_X1_within : GoodIn wsX1_press (va_wsS RX1 38 yX1_within wsX1_within) := goodIn_app (goodIn_of _ (by decide +kernel)) ggX1_press_X1_within
set_option maxRecDepth 20000 in
theorem ggX1_press_X1_isColour : GoodIn wsX1_press wsX1_isColour := goodIn_r _ [24, 19, 20, 12, 21] (by decide +kernel) (by decide +kernel)
set_option maxRecDepth 20000 in
theorem gX1_press_X1_isColour : GoodIn wsX1_press (va_wsS RX1 68 yX1_isColour wsX1_isColour) := goodIn_app (goodIn_of _ (by decide +kernel)) ggX1_press_X1_isColour
set_option maxRecDepth 20000 in
theorem ggX1_press_X1_hasRoom : GoodIn wsX1_press wsX1_hasRoom := goodIn_r _ [28, 16, 17, 12, 18, 19, 20, 21, 29, 30, 31, 32, 33, 34, 35, 36, 37, 38, 39, 40, 65, 66, 67, 68, 69, 70, 71, 72, 73] (by decide +kernel) (by decide +kernel)
set_option maxRecDepth 20000 in
theorem gX1_press_X1_hasRoom : GoodIn wsX1_press (wsV RX1 78 RX1 yX1_hasRoom wsX1_hasRoom) := goodIn_app (goodIn_of _ (by decide +kernel)) ggX1_press_X1_hasRoom
set_option maxRecDepth 20000 in
theorem ggX1_press_X0_init : GoodIn wsX1_press wsX0_init := goodIn_r _ [43, 44, 45, 46, 47, 48, 49, 50, 51, 52, 74, 75, 76, 77, 78, 79, 80, 81] (by decide +kernel) (by decide +kernel)
set_option maxRecDepth 20000 in
theorem gX1_press_X0_init : GoodIn wsX1_press (wsX0_init) := ggX1_press_X0_init
set_option maxRecDepth 20000 in
theorem ggX1_press_X1_setCover : GoodIn wsX1_press wsX1_setCover := goodIn_r _ [56, 57, 36, 58, 59, 60, 9, 61, 50, 47, 48, 30, 12, 31, 62, 63, 64, 19, 20, 21, 74, 75, 76, 77, 78, 79, 80, 81, 65, 66, 67, 68, 69, 70, 71, 72, 73] (by decide +kernel) (by decide +kernel)
set_option maxRecDepth 20000 in
theorem gX1_press_X1_setCover : GoodIn wsX1_press (wsV RX1 90 RX1 yX1_setCover wsX1_setCover) := goodIn_app (goodIn_of _ (by decide +kernel)) ggX1_press_X1_setCover
theorem dX1_press_0 : decode cX1_press 0 = .ok (.iload_n 1, 1) := by decide +kernel
theorem dX1_press_1 : decode cX1_press 1 = .ok (.iload_n 2, 1) := by decide +kernel
theorem dX1_press_2 : decode cX1_press 2 = .ok (.invokestatic 34, 3) := by decide +kernel
theorem dX1_press_5 : decode cX1_press 5 = .ok (.iload_n 3, 1) := by decide +kernel
theorem dX1_press_6 : decode cX1_press 6 = .ok (.iconst 1, 1) := by decide +kernel
theorem dX1_press_7 : decode cX1_press 7 = .ok (.iconst 3, 1) := by decide +kernel
theorem dX1_press_8 : decode cX1_press 8 = .ok (.invokestatic 38, 3) := by decide +kernel
theorem dX1_press_11 : decode cX1_press 11 = .ok (.ifCond .eq 19, 3) := by decide +kernel
theorem dX1_press_14 : decode cX1_press 14 = .ok (.iload 5, 2) := by decide +kernel
theorem dX1_press_16 : decode cX1_press 16 = .ok (.invokestatic 68, 3) := by decide +kernel
theorem dX1_press_19 : decode cX1_press 19 = .ok (.ifCond .eq 11, 3) := by decide +kernel
theorem dX1_press_22 : decode cX1_press 22 = .ok (.iload 6, 2) := by decide +kernel
theorem dX1_press_24 : decode cX1_press 24 = .ok (.invokestatic 68, 3) := by decide +kernel
theorem dX1_press_27 : decode cX1_press 27 = .ok (.ifCond .ne 13, 3) := by decide +kernel
theorem dX1_press_30 : decode cX1_press 30 = .ok (.new 42, 3) := by decide +kernel
theorem dX1_press_33 : decode cX1_press 33 = .ok (.dup, 1) := by decide +kernel
theorem dX1_press_34 : decode cX1_press 34 = .ok (.ldc 72, 2) := by decide +kernel
theorem dX1_press_36 : decode cX1_press 36 = .ok (.invokespecial 46, 3) := by decide +kernel
theorem dX1_press_39 : decode cX1_press 39 = .ok (.athrow, 1) := by decide +kernel
theorem dX1_press_40 : decode cX1_press 40 = .ok (.aload_n 0, 1) := by decide +kernel
theorem dX1_press_41 : decode cX1_press 41 = .ok (.getfield 74, 3) := by decide +kernel
theorem dX1_press_44 : decode cX1_press 44 = .ok (.istore 7, 2) := by decide +kernel
theorem dX1_press_46 : decode cX1_press 46 = .ok (.iload 7, 2) := by decide +kernel
theorem dX1_press_48 : decode cX1_press 48 = .ok (.iconst 0, 1) := by decide +kernel
theorem dX1_press_49 : decode cX1_press 49 = .ok (.aload_n 0, 1) := by decide +kernel
theorem dX1_press_50 : decode cX1_press 50 = .ok (.getfield 21, 3) := by decide +kernel
theorem dX1_press_53 : decode cX1_press 53 = .ok (.arraylength, 1) := by decide +kernel
theorem dX1_press_54 : decode cX1_press 54 = .ok (.iconst 1, 1) := by decide +kernel
theorem dX1_press_55 : decode cX1_press 55 = .ok (.isub, 1) := by decide +kernel
theorem dX1_press_56 : decode cX1_press 56 = .ok (.invokestatic 38, 3) := by decide +kernel
theorem dX1_press_59 : decode cX1_press 59 = .ok (.ifCond .eq 16, 3) := by decide +kernel
theorem dX1_press_62 : decode cX1_press 62 = .ok (.aload_n 0, 1) := by decide +kernel
theorem dX1_press_63 : decode cX1_press 63 = .ok (.iload_n 1, 1) := by decide +kernel
theorem dX1_press_64 : decode cX1_press 64 = .ok (.iload_n 2, 1) := by decide +kernel
theorem dX1_press_65 : decode cX1_press 65 = .ok (.iload_n 3, 1) := by decide +kernel
theorem dX1_press_66 : decode cX1_press 66 = .ok (.iload 4, 2) := by decide +kernel
theorem dX1_press_68 : decode cX1_press 68 = .ok (.iconst (-1), 1) := by decide +kernel
theorem dX1_press_69 : decode cX1_press 69 = .ok (.invokevirtual 78, 3) := by decide +kernel
theorem dX1_press_72 : decode cX1_press 72 = .ok (.ifCond .ne 13, 3) := by decide +kernel
theorem dX1_press_75 : decode cX1_press 75 = .ok (.new 82, 3) := by decide +kernel
theorem dX1_press_78 : decode cX1_press 78 = .ok (.dup, 1) := by decide +kernel
theorem dX1_press_79 : decode cX1_press 79 = .ok (.ldc 84, 2) := by decide +kernel
theorem dX1_press_81 : decode cX1_press 81 = .ok (.invokespecial 86, 3) := by decide +kernel
theorem dX1_press_84 : decode cX1_press 84 = .ok (.athrow, 1) := by decide +kernel
theorem dX1_press_85 : decode cX1_press 85 = .ok (.new 19, 3) := by decide +kernel
theorem dX1_press_88 : decode cX1_press 88 = .ok (.dup, 1) := by decide +kernel
theorem dX1_press_89 : decode cX1_press 89 = .ok (.iload_n 1, 1) := by decide +kernel
theorem dX1_press_90 : decode cX1_press 90 = .ok (.iload_n 2, 1) := by decide +kernel
theorem dX1_press_91 : decode cX1_press 91 = .ok (.iload_n 3, 1) := by decide +kernel
theorem dX1_press_92 : decode cX1_press 92 = .ok (.iload 4, 2) := by decide +kernel
theorem dX1_press_94 : decode cX1_press 94 = .ok (.iload 5, 2) := by decide +kernel
theorem dX1_press_96 : decode cX1_press 96 = .ok (.iload 6, 2) := by decide +kernel
theorem dX1_press_98 : decode cX1_press 98 = .ok (.invokespecial 87, 3) := by decide +kernel
theorem dX1_press_101 : decode cX1_press 101 = .ok (.astore 8, 2) := by decide +kernel
theorem dX1_press_103 : decode cX1_press 103 = .ok (.aload_n 0, 1) := by decide +kernel
theorem dX1_press_104 : decode cX1_press 104 = .ok (.getfield 21, 3) := by decide +kernel
theorem dX1_press_107 : decode cX1_press 107 = .ok (.iload 7, 2) := by decide +kernel
theorem dX1_press_109 : decode cX1_press 109 = .ok (.aload 8, 2) := by decide +kernel
theorem dX1_press_111 : decode cX1_press 111 = .ok (.aastore, 1) := by decide +kernel
theorem dX1_press_112 : decode cX1_press 112 = .ok (.aload_n 0, 1) := by decide +kernel
theorem dX1_press_113 : decode cX1_press 113 = .ok (.iload 7, 2) := by decide +kernel
theorem dX1_press_115 : decode cX1_press 115 = .ok (.iconst 1, 1) := by decide +kernel
theorem dX1_press_116 : decode cX1_press 116 = .ok (.iadd, 1) := by decide +kernel
theorem dX1_press_117 : decode cX1_press 117 = .ok (.putfield 74, 3) := by decide +kernel
theorem dX1_press_120 : decode cX1_press 120 = .ok (.aload_n 0, 1) := by decide +kernel
theorem dX1_press_121 : decode cX1_press 121 = .ok (.aload 8, 2) := by decide +kernel
theorem dX1_press_123 : decode cX1_press 123 = .ok (.iload 7, 2) := by decide +kernel
theorem dX1_press_125 : decode cX1_press 125 = .ok (.invokevirtual 90, 3) := by decide +kernel
theorem dX1_press_128 : decode cX1_press 128 = .ok (.iload 7, 2) := by decide +kernel
theorem dX1_press_130 : decode cX1_press 130 = .ok (.ireturn, 1) := by decide +kernel
set_option maxRecDepth 20000 in
theorem ggX1_flip_X1_find : GoodIn wsX1_flip wsX1_find := goodIn_r _ [12, 13, 14, 15, 16, 11, 17, 45, 46, 47, 48, 49, 50, 51, 52, 53] (by decide +kernel) (by decide +kernel)
set_option maxRecDepth 20000 in
theorem gX1_flip_X1_find : GoodIn wsX1_flip (wsV RX1 94 RX1 yX1_find wsX1_find) := goodIn_app (goodIn_of _ (by decide +kernel)) ggX1_flip_X1_find
set_option maxRecDepth 20000 in
theorem ggX1_flip_X1_isLoose : GoodIn wsX1_flip wsX1_isLoose := goodIn_r _ [20, 21, 7, 22, 23, 24, 25, 26, 27, 28, 29, 30, 11, 31, 32, 33, 34, 15, 16, 17, 54, 55, 56, 57, 58, 59, 60, 61] (by decide +kernel) (by decide +kernel)
set_option maxRecDepth 20000 in
theorem gX1_flip_X1_isLoose : GoodIn wsX1_flip (va_wsS RX1 100 yX1_isLoose wsX1_isLoose) := goodIn_app (goodIn_of _ (by decide +kernel)) ggX1_flip_X1_isLoose
set_option maxRecDepth 20000 in
theorem ggX1_flip_X0_cellAt : GoodIn wsX1_flip wsX0_cellAt := goodIn_r _ [26, 27, 28, 29, 30, 11, 31, 54, 55, 56, 57, 58, 59, 60, 61] (by decide +kernel) (by decide +kernel)
set_option maxRecDepth 20000 in
theorem gX1_flip_X0_cellAt : GoodIn wsX1_flip (wsV RX1 113 RX0 yX0_cellAt wsX0_cellAt) := goodIn_app (goodIn_of _ (by decide +kernel)) ggX1_flip_X0_cellAt
set_option maxRecDepth 20000 in
theorem ggX1_flip_X1_at : GoodIn wsX1_flip wsX1_at := goodIn_r _ [34, 15, 16, 11, 17] (by decide +kernel) (by decide +kernel)
set_option maxRecDepth 20000 in
theorem gX1_flip_X1_at : GoodIn wsX1_flip (va_wsS RX1 53 yX1_at wsX1_at) := goodIn_app (goodIn_of _ (by decide +kernel)) ggX1_flip_X1_at
set_option maxRecDepth 20000 in
theorem ggX1_flip_X1_put : GoodIn wsX1_flip wsX1_put := goodIn_r _ [37, 15, 16, 11, 17] (by decide +kernel) (by decide +kernel)
set_option maxRecDepth 20000 in
theorem gX1_flip_X1_put : GoodIn wsX1_flip (va_wsS RX1 57 yX1_put wsX1_put) := goodIn_app (goodIn_of _ (by decide +kernel)) ggX1_flip_X1_put
set_option maxRecDepth 20000 in
theorem ggX1_flip_X0_shownColour : GoodIn wsX1_flip wsX0_shownColour := goodIn_r _ [41, 42, 43, 44, 54, 55, 56, 57, 58, 59, 60, 61] (by decide +kernel) (by decide +kernel)
set_option maxRecDepth 20000 in
theorem gX1_flip_X0_shownColour : GoodIn wsX1_flip (wsV RX1 117 RX0 yX0_shownColour wsX0_shownColour) := goodIn_app (goodIn_of _ (by decide +kernel)) ggX1_flip_X0_shownColour
theorem dX1_flip_0 : decode cX1_flip 0 = .ok (.aload_n 0, 1) := by decide +kernel
theorem dX1_flip_1 : decode cX1_flip 1 = .ok (.iload_n 1, 1) := by decide +kernel
theorem dX1_flip_2 : decode cX1_flip 2 = .ok (.invokevirtual 94, 3) := by decide +kernel
theorem dX1_flip_5 : decode cX1_flip 5 = .ok (.astore_n 2, 1) := by decide +kernel
theorem dX1_flip_6 : decode cX1_flip 6 = .ok (.aload_n 2, 1) := by decide +kernel
theorem dX1_flip_7 : decode cX1_flip 7 = .ok (.ifnonnull 13, 3) := by decide +kernel
theorem dX1_flip_10 : decode cX1_flip 10 = .ok (.new 61, 3) := by decide +kernel
theorem dX1_flip_13 : decode cX1_flip 13 = .ok (.dup, 1) := by decide +kernel
theorem dX1_flip_14 : decode cX1_flip 14 = .ok (.ldc 98, 2) := by decide +kernel
theorem dX1_flip_16 : decode cX1_flip 16 = .ok (.invokespecial 65, 3) := by decide +kernel
theorem dX1_flip_19 : decode cX1_flip 19 = .ok (.athrow, 1) := by decide +kernel
theorem dX1_flip_20 : decode cX1_flip 20 = .ok (.aload_n 2, 1) := by decide +kernel
theorem dX1_flip_21 : decode cX1_flip 21 = .ok (.aload_n 0, 1) := by decide +kernel
theorem dX1_flip_22 : decode cX1_flip 22 = .ok (.getfield 9, 3) := by decide +kernel
theorem dX1_flip_25 : decode cX1_flip 25 = .ok (.invokestatic 100, 3) := by decide +kernel
theorem dX1_flip_28 : decode cX1_flip 28 = .ok (.ifCond .ne 13, 3) := by decide +kernel
theorem dX1_flip_31 : decode cX1_flip 31 = .ok (.new 82, 3) := by decide +kernel
theorem dX1_flip_34 : decode cX1_flip 34 = .ok (.dup, 1) := by decide +kernel
theorem dX1_flip_35 : decode cX1_flip 35 = .ok (.ldc 104, 2) := by decide +kernel
theorem dX1_flip_37 : decode cX1_flip 37 = .ok (.invokespecial 86, 3) := by decide +kernel
theorem dX1_flip_40 : decode cX1_flip 40 = .ok (.athrow, 1) := by decide +kernel
theorem dX1_flip_41 : decode cX1_flip 41 = .ok (.aload_n 2, 1) := by decide +kernel
theorem dX1_flip_42 : decode cX1_flip 42 = .ok (.aload_n 2, 1) := by decide +kernel
theorem dX1_flip_43 : decode cX1_flip 43 = .ok (.getfield 106, 3) := by decide +kernel
theorem dX1_flip_46 : decode cX1_flip 46 = .ok (.ifCond .ne 7, 3) := by decide +kernel
theorem dX1_flip_49 : decode cX1_flip 49 = .ok (.iconst 1, 1) := by decide +kernel
theorem dX1_flip_50 : decode cX1_flip 50 = .ok (.goto 4, 3) := by decide +kernel
theorem dX1_flip_53 : decode cX1_flip 53 = .ok (.iconst 0, 1) := by decide +kernel
theorem dX1_flip_54 : decode cX1_flip 54 = .ok (.putfield 106, 3) := by decide +kernel
theorem dX1_flip_57 : decode cX1_flip 57 = .ok (.iconst 0, 1) := by decide +kernel
theorem dX1_flip_58 : decode cX1_flip 58 = .ok (.istore_n 3, 1) := by decide +kernel
theorem dX1_flip_59 : decode cX1_flip 59 = .ok (.iload_n 3, 1) := by decide +kernel
theorem dX1_flip_60 : decode cX1_flip 60 = .ok (.aload_n 2, 1) := by decide +kernel
theorem dX1_flip_61 : decode cX1_flip 61 = .ok (.getfield 110, 3) := by decide +kernel
theorem dX1_flip_64 : decode cX1_flip 64 = .ok (.if_icmp .ge 36, 3) := by decide +kernel
theorem dX1_flip_67 : decode cX1_flip 67 = .ok (.aload_n 2, 1) := by decide +kernel
theorem dX1_flip_68 : decode cX1_flip 68 = .ok (.iload_n 3, 1) := by decide +kernel
theorem dX1_flip_69 : decode cX1_flip 69 = .ok (.invokevirtual 113, 3) := by decide +kernel
theorem dX1_flip_72 : decode cX1_flip 72 = .ok (.istore 4, 2) := by decide +kernel
theorem dX1_flip_74 : decode cX1_flip 74 = .ok (.aload_n 0, 1) := by decide +kernel
theorem dX1_flip_75 : decode cX1_flip 75 = .ok (.getfield 9, 3) := by decide +kernel
theorem dX1_flip_78 : decode cX1_flip 78 = .ok (.iload 4, 2) := by decide +kernel
theorem dX1_flip_80 : decode cX1_flip 80 = .ok (.aload_n 0, 1) := by decide +kernel
theorem dX1_flip_81 : decode cX1_flip 81 = .ok (.getfield 9, 3) := by decide +kernel
theorem dX1_flip_84 : decode cX1_flip 84 = .ok (.iload 4, 2) := by decide +kernel
theorem dX1_flip_86 : decode cX1_flip 86 = .ok (.invokestatic 53, 3) := by decide +kernel
theorem dX1_flip_89 : decode cX1_flip 89 = .ok (.iconst 1, 1) := by decide +kernel
theorem dX1_flip_90 : decode cX1_flip 90 = .ok (.isub, 1) := by decide +kernel
theorem dX1_flip_91 : decode cX1_flip 91 = .ok (.invokestatic 57, 3) := by decide +kernel
theorem dX1_flip_94 : decode cX1_flip 94 = .ok (.iinc 3 1, 3) := by decide +kernel
theorem dX1_flip_97 : decode cX1_flip 97 = .ok (.goto (-38), 3) := by decide +kernel
theorem dX1_flip_100 : decode cX1_flip 100 = .ok (.aload_n 2, 1) := by decide +kernel
theorem dX1_flip_101 : decode cX1_flip 101 = .ok (.invokevirtual 117, 3) := by decide +kernel
theorem dX1_flip_104 : decode cX1_flip 104 = .ok (.ireturn, 1) := by decide +kernel
set_option maxRecDepth 20000 in
theorem ggX1_turn_X1_find : GoodIn wsX1_turn wsX1_find := goodIn_r _ [14, 15, 16, 17, 18, 13, 19, 57, 58, 59, 60, 61, 62, 63, 64, 65] (by decide +kernel) (by decide +kernel)
set_option maxRecDepth 20000 in
theorem gX1_turn_X1_find : GoodIn wsX1_turn (wsV RX1 94 RX1 yX1_find wsX1_find) := goodIn_app (goodIn_of _ (by decide +kernel)) ggX1_turn_X1_find
set_option maxRecDepth 20000 in
theorem ggX1_turn_X1_isLoose : GoodIn wsX1_turn wsX1_isLoose := goodIn_r _ [22, 23, 8, 24, 25, 26, 27, 28, 29, 30, 31, 32, 13, 33, 34, 35, 36, 17, 18, 19, 66, 67, 68, 69, 70, 71, 72, 73] (by decide +kernel) (by decide +kernel)
set_option maxRecDepth 20000 in
theorem gX1_turn_X1_isLoose : GoodIn wsX1_turn (va_wsS RX1 100 yX1_isLoose wsX1_isLoose) := goodIn_app (goodIn_of _ (by decide +kernel)) ggX1_turn_X1_isLoose
set_option maxRecDepth 20000 in
theorem ggX1_turn_X1_hasRoom : GoodIn wsX1_turn wsX1_hasRoom := goodIn_r _ [40, 41, 42, 13, 43, 17, 18, 19, 44, 32, 33, 45, 46, 47, 48, 49, 5, 34, 35, 36, 57, 58, 59, 60, 61, 62, 63, 64, 65] (by decide +kernel) (by decide +kernel)
set_option maxRecDepth 20000 in
theorem gX1_turn_X1_hasRoom : GoodIn wsX1_turn (wsV RX1 78 RX1 yX1_hasRoom wsX1_hasRoom) := goodIn_app (goodIn_of _ (by decide +kernel)) ggX1_turn_X1_hasRoom
set_option maxRecDepth 20000 in
theorem ggX1_turn_X1_setCover : GoodIn wsX1_turn wsX1_setCover := goodIn_r _ [53, 8, 49, 24, 25, 26, 27, 28, 29, 30, 31, 32, 13, 33, 54, 55, 56, 17, 18, 19, 66, 67, 68, 69, 70, 71, 72, 73, 57, 58, 59, 60, 61, 62, 63, 64, 65] (by decide +kernel) (by decide +kernel)
set_option maxRecDepth 20000 in
theorem gX1_turn_X1_setCover : GoodIn wsX1_turn (wsV RX1 90 RX1 yX1_setCover wsX1_setCover) := goodIn_app (goodIn_of _ (by decide +kernel)) ggX1_turn_X1_setCover
theorem dX1_turn_0 : decode cX1_turn 0 = .ok (.aload_n 0, 1) := by decide +kernel
theorem dX1_turn_1 : decode cX1_turn 1 = .ok (.iload_n 1, 1) := by decide +kernel
theorem dX1_turn_2 : decode cX1_turn 2 = .ok (.invokevirtual 94, 3) := by decide +kernel
theorem dX1_turn_5 : decode cX1_turn 5 = .ok (.astore_n 2, 1) := by decide +kernel
theorem dX1_turn_6 : decode cX1_turn 6 = .ok (.aload_n 2, 1) := by decide +kernel
theorem dX1_turn_7 : decode cX1_turn 7 = .ok (.ifnonnull 13, 3) := by decide +kernel
theorem dX1_turn_10 : decode cX1_turn 10 = .ok (.new 61, 3) := by decide +kernel
theorem dX1_turn_13 : decode cX1_turn 13 = .ok (.dup, 1) := by decide +kernel
theorem dX1_turn_14 : decode cX1_turn 14 = .ok (.ldc 98, 2) := by decide +kernel
theorem dX1_turn_16 : decode cX1_turn 16 = .ok (.invokespecial 65, 3) := by decide +kernel
theorem dX1_turn_19 : decode cX1_turn 19 = .ok (.athrow, 1) := by decide +kernel
theorem dX1_turn_20 : decode cX1_turn 20 = .ok (.aload_n 2, 1) := by decide +kernel
theorem dX1_turn_21 : decode cX1_turn 21 = .ok (.aload_n 0, 1) := by decide +kernel
theorem dX1_turn_22 : decode cX1_turn 22 = .ok (.getfield 9, 3) := by decide +kernel
theorem dX1_turn_25 : decode cX1_turn 25 = .ok (.invokestatic 100, 3) := by decide +kernel
theorem dX1_turn_28 : decode cX1_turn 28 = .ok (.ifCond .eq 35, 3) := by decide +kernel
theorem dX1_turn_31 : decode cX1_turn 31 = .ok (.aload_n 0, 1) := by decide +kernel
theorem dX1_turn_32 : decode cX1_turn 32 = .ok (.aload_n 2, 1) := by decide +kernel
theorem dX1_turn_33 : decode cX1_turn 33 = .ok (.getfield 121, 3) := by decide +kernel
theorem dX1_turn_36 : decode cX1_turn 36 = .ok (.aload_n 2, 1) := by decide +kernel
theorem dX1_turn_37 : decode cX1_turn 37 = .ok (.getfield 124, 3) := by decide +kernel
theorem dX1_turn_40 : decode cX1_turn 40 = .ok (.aload_n 2, 1) := by decide +kernel
theorem dX1_turn_41 : decode cX1_turn 41 = .ok (.getfield 110, 3) := by decide +kernel
theorem dX1_turn_44 : decode cX1_turn 44 = .ok (.aload_n 2, 1) := by decide +kernel
theorem dX1_turn_45 : decode cX1_turn 45 = .ok (.getfield 127, 3) := by decide +kernel
theorem dX1_turn_48 : decode cX1_turn 48 = .ok (.ifCond .ne 7, 3) := by decide +kernel
theorem dX1_turn_51 : decode cX1_turn 51 = .ok (.iconst 1, 1) := by decide +kernel
theorem dX1_turn_52 : decode cX1_turn 52 = .ok (.goto 4, 3) := by decide +kernel
theorem dX1_turn_55 : decode cX1_turn 55 = .ok (.iconst 0, 1) := by decide +kernel
theorem dX1_turn_56 : decode cX1_turn 56 = .ok (.iload_n 1, 1) := by decide +kernel
theorem dX1_turn_57 : decode cX1_turn 57 = .ok (.invokevirtual 78, 3) := by decide +kernel
theorem dX1_turn_60 : decode cX1_turn 60 = .ok (.ifCond .ne 13, 3) := by decide +kernel
theorem dX1_turn_63 : decode cX1_turn 63 = .ok (.new 82, 3) := by decide +kernel
theorem dX1_turn_66 : decode cX1_turn 66 = .ok (.dup, 1) := by decide +kernel
theorem dX1_turn_67 : decode cX1_turn 67 = .ok (.ldc 130, 2) := by decide +kernel
theorem dX1_turn_69 : decode cX1_turn 69 = .ok (.invokespecial 86, 3) := by decide +kernel
theorem dX1_turn_72 : decode cX1_turn 72 = .ok (.athrow, 1) := by decide +kernel
theorem dX1_turn_73 : decode cX1_turn 73 = .ok (.aload_n 0, 1) := by decide +kernel
theorem dX1_turn_74 : decode cX1_turn 74 = .ok (.aload_n 2, 1) := by decide +kernel
theorem dX1_turn_75 : decode cX1_turn 75 = .ok (.iconst (-1), 1) := by decide +kernel
theorem dX1_turn_76 : decode cX1_turn 76 = .ok (.invokevirtual 90, 3) := by decide +kernel
theorem dX1_turn_79 : decode cX1_turn 79 = .ok (.aload_n 2, 1) := by decide +kernel
theorem dX1_turn_80 : decode cX1_turn 80 = .ok (.aload_n 2, 1) := by decide +kernel
theorem dX1_turn_81 : decode cX1_turn 81 = .ok (.getfield 127, 3) := by decide +kernel
theorem dX1_turn_84 : decode cX1_turn 84 = .ok (.ifCond .ne 7, 3) := by decide +kernel
theorem dX1_turn_87 : decode cX1_turn 87 = .ok (.iconst 1, 1) := by decide +kernel
theorem dX1_turn_88 : decode cX1_turn 88 = .ok (.goto 4, 3) := by decide +kernel
theorem dX1_turn_91 : decode cX1_turn 91 = .ok (.iconst 0, 1) := by decide +kernel
theorem dX1_turn_92 : decode cX1_turn 92 = .ok (.putfield 127, 3) := by decide +kernel
theorem dX1_turn_95 : decode cX1_turn 95 = .ok (.aload_n 0, 1) := by decide +kernel
theorem dX1_turn_96 : decode cX1_turn 96 = .ok (.aload_n 2, 1) := by decide +kernel
theorem dX1_turn_97 : decode cX1_turn 97 = .ok (.iload_n 1, 1) := by decide +kernel
theorem dX1_turn_98 : decode cX1_turn 98 = .ok (.invokevirtual 90, 3) := by decide +kernel
theorem dX1_turn_101 : decode cX1_turn 101 = .ok (.aload_n 2, 1) := by decide +kernel
theorem dX1_turn_102 : decode cX1_turn 102 = .ok (.getfield 110, 3) := by decide +kernel
theorem dX1_turn_105 : decode cX1_turn 105 = .ok (.ireturn, 1) := by decide +kernel
set_option maxRecDepth 20000 in
theorem ggX1_take_X1_find : GoodIn wsX1_take wsX1_find := goodIn_r _ [11, 12, 13, 14, 15, 10, 16, 54, 55, 56, 57, 58, 59, 60, 61, 62] (by decide +kernel) (by decide +kernel)
set_option maxRecDepth 20000 in
theorem gX1_take_X1_find : GoodIn wsX1_take (wsV RX1 94 RX1 yX1_find wsX1_find) := goodIn_app (goodIn_of _ (by decide +kernel)) ggX1_take_X1_find
set_option maxRecDepth 20000 in
theorem ggX1_take_X1_isLoose : GoodIn wsX1_take wsX1_isLoose := goodIn_r _ [19, 5, 20, 21, 22, 23, 24, 25, 26, 27, 28, 29, 10, 30, 31, 32, 33, 14, 15, 16, 46, 47, 48, 49, 50, 51, 52, 53] (by decide +kernel) (by decide +kernel)
set_option maxRecDepth 20000 in
theorem gX1_take_X1_isLoose : GoodIn wsX1_take (va_wsS RX1 100 yX1_isLoose wsX1_isLoose) := goodIn_app (goodIn_of _ (by decide +kernel)) ggX1_take_X1_isLoose
set_option maxRecDepth 20000 in
theorem ggX1_take_X1_setCover : GoodIn wsX1_take wsX1_setCover := goodIn_r _ [37, 20, 38, 21, 22, 23, 24, 25, 26, 27, 28, 29, 10, 30, 39, 40, 41, 14, 15, 16, 46, 47, 48, 49, 50, 51, 52, 53, 54, 55, 56, 57, 58, 59, 60, 61, 62] (by decide +kernel) (by decide +kernel)
set_option maxRecDepth 20000 in
theorem gX1_take_X1_setCover : GoodIn wsX1_take (wsV RX1 90 RX1 yX1_setCover wsX1_setCover) := goodIn_app (goodIn_of _ (by decide +kernel)) ggX1_take_X1_setCover
set_option maxRecDepth 20000 in
theorem ggX1_take_X1_removeMortar : GoodIn wsX1_take wsX1_removeMortar := goodIn_r _ [45, 20, 6, 21, 22, 23, 24, 25, 26, 27, 28, 29, 10, 30, 39, 40, 41, 14, 15, 16, 46, 47, 48, 49, 50, 51, 52, 53, 54, 55, 56, 57, 58, 59, 60, 61, 62] (by decide +kernel) (by decide +kernel)
set_option maxRecDepth 20000 in
theorem gX1_take_X1_removeMortar : GoodIn wsX1_take (wsV RX1 137 RX1 yX1_removeMortar wsX1_removeMortar) := goodIn_app (goodIn_of _ (by decide +kernel)) ggX1_take_X1_removeMortar
theorem dX1_take_0 : decode cX1_take 0 = .ok (.aload_n 0, 1) := by decide +kernel
theorem dX1_take_1 : decode cX1_take 1 = .ok (.iload_n 1, 1) := by decide +kernel
theorem dX1_take_2 : decode cX1_take 2 = .ok (.invokevirtual 94, 3) := by decide +kernel
theorem dX1_take_5 : decode cX1_take 5 = .ok (.astore_n 2, 1) := by decide +kernel
theorem dX1_take_6 : decode cX1_take 6 = .ok (.aload_n 2, 1) := by decide +kernel
theorem dX1_take_7 : decode cX1_take 7 = .ok (.ifnonnull 13, 3) := by decide +kernel
theorem dX1_take_10 : decode cX1_take 10 = .ok (.new 61, 3) := by decide +kernel
theorem dX1_take_13 : decode cX1_take 13 = .ok (.dup, 1) := by decide +kernel
theorem dX1_take_14 : decode cX1_take 14 = .ok (.ldc 98, 2) := by decide +kernel
theorem dX1_take_16 : decode cX1_take 16 = .ok (.invokespecial 65, 3) := by decide +kernel
theorem dX1_take_19 : decode cX1_take 19 = .ok (.athrow, 1) := by decide +kernel
theorem dX1_take_20 : decode cX1_take 20 = .ok (.aload_n 2, 1) := by decide +kernel
theorem dX1_take_21 : decode cX1_take 21 = .ok (.getfield 132, 3) := by decide +kernel
theorem dX1_take_24 : decode cX1_take 24 = .ok (.ifCond .eq 13, 3) := by decide +kernel
theorem dX1_take_27 : decode cX1_take 27 = .ok (.new 82, 3) := by decide +kernel
theorem dX1_take_30 : decode cX1_take 30 = .ok (.dup, 1) := by decide +kernel
theorem dX1_take_31 : decode cX1_take 31 = .ok (.ldc 135, 2) := by decide +kernel
theorem dX1_take_33 : decode cX1_take 33 = .ok (.invokespecial 86, 3) := by decide +kernel
theorem dX1_take_36 : decode cX1_take 36 = .ok (.athrow, 1) := by decide +kernel
theorem dX1_take_37 : decode cX1_take 37 = .ok (.aload_n 2, 1) := by decide +kernel
theorem dX1_take_38 : decode cX1_take 38 = .ok (.aload_n 0, 1) := by decide +kernel
theorem dX1_take_39 : decode cX1_take 39 = .ok (.getfield 9, 3) := by decide +kernel
theorem dX1_take_42 : decode cX1_take 42 = .ok (.invokestatic 100, 3) := by decide +kernel
theorem dX1_take_45 : decode cX1_take 45 = .ok (.istore_n 3, 1) := by decide +kernel
theorem dX1_take_46 : decode cX1_take 46 = .ok (.aload_n 0, 1) := by decide +kernel
theorem dX1_take_47 : decode cX1_take 47 = .ok (.aload_n 2, 1) := by decide +kernel
theorem dX1_take_48 : decode cX1_take 48 = .ok (.iconst (-1), 1) := by decide +kernel
theorem dX1_take_49 : decode cX1_take 49 = .ok (.invokevirtual 90, 3) := by decide +kernel
theorem dX1_take_52 : decode cX1_take 52 = .ok (.aload_n 2, 1) := by decide +kernel
theorem dX1_take_53 : decode cX1_take 53 = .ok (.iconst 1, 1) := by decide +kernel
theorem dX1_take_54 : decode cX1_take 54 = .ok (.putfield 132, 3) := by decide +kernel
theorem dX1_take_57 : decode cX1_take 57 = .ok (.iload_n 3, 1) := by decide +kernel
theorem dX1_take_58 : decode cX1_take 58 = .ok (.ifCond .ne 8, 3) := by decide +kernel
theorem dX1_take_61 : decode cX1_take 61 = .ok (.aload_n 0, 1) := by decide +kernel
theorem dX1_take_62 : decode cX1_take 62 = .ok (.aload_n 2, 1) := by decide +kernel
theorem dX1_take_63 : decode cX1_take 63 = .ok (.invokevirtual 137, 3) := by decide +kernel
theorem dX1_take_66 : decode cX1_take 66 = .ok (.iload_n 3, 1) := by decide +kernel
theorem dX1_take_67 : decode cX1_take 67 = .ok (.ireturn, 1) := by decide +kernel
set_option maxRecDepth 20000 in
theorem ggX1_cell_X1_refuseOutside : GoodIn wsX1_cell wsX1_refuseOutside := goodIn_ca (goodIn_r _ [6, 1, 2, 7, 8, 5, 9, 10, 11, 12] (by decide +kernel) (by decide +kernel)) (goodIn_sub (fun _ h => List.mem_cons_of_mem _ (List.mem_append_right _ h)) (by decide +kernel))
set_option maxRecDepth 20000 in
theorem gX1_cell_X1_refuseOutside : GoodIn wsX1_cell (va_wsS RX1 34 yX1_refuseOutside wsX1_refuseOutside) := goodIn_app (goodIn_of _ (by decide +kernel)) ggX1_cell_X1_refuseOutside
set_option maxRecDepth 20000 in
theorem ggX1_cell_X1_within : GoodIn wsX1_cell wsX1_within := goodIn_r _ [12] (by decide +kernel) (by decide +kernel)
set_option maxRecDepth 20000 in
theorem gX1_cell_X1_within : GoodIn wsX1_cell (va_wsS RX1 38 yX1_within wsX1_within) := goodIn_app (goodIn_of _ (by decide +kernel)) ggX1_cell_X1_within
set_option maxRecDepth 20000 in
theorem ggX1_cell_X1_cellOf : GoodIn wsX1_cell wsX1_cellOf := goodIn_r _ [15] (by decide +kernel) (by decide +kernel)
set_option maxRecDepth 20000 in
theorem gX1_cell_X1_cellOf : GoodIn wsX1_cell (va_wsS RX1 49 yX1_cellOf wsX1_cellOf) := goodIn_app (goodIn_of _ (by decide +kernel)) ggX1_cell_X1_cellOf
set_option maxRecDepth 20000 in
theorem ggX1_cell_X1_cellFact : GoodIn wsX1_cell wsX1_cellFact := goodIn_r _ [19, 20, 21, 22, 23, 5, 24, 10, 11, 12, 25, 26, 27, 28, 29, 30, 31, 32, 33, 34, 35, 36, 37, 38, 39, 40, 41, 42, 43, 44, 45, 46, 47, 48, 49, 50, 51, 52, 53, 54, 55, 56, 57, 58, 59] (by decide +kernel) (by decide +kernel)
set_option maxRecDepth 20000 in
theorem gX1_cell_X1_cellFact : GoodIn wsX1_cell (wsV RX1 143 RX1 yX1_cellFact wsX1_cellFact) := goodIn_app (goodIn_of _ (by decide +kernel)) ggX1_cell_X1_cellFact
theorem dX1_cell_0 : decode cX1_cell 0 = .ok (.iload_n 1, 1) := by decide +kernel
theorem dX1_cell_1 : decode cX1_cell 1 = .ok (.iload_n 2, 1) := by decide +kernel
theorem dX1_cell_2 : decode cX1_cell 2 = .ok (.invokestatic 34, 3) := by decide +kernel
theorem dX1_cell_5 : decode cX1_cell 5 = .ok (.iload_n 3, 1) := by decide +kernel
theorem dX1_cell_6 : decode cX1_cell 6 = .ok (.iconst 0, 1) := by decide +kernel
theorem dX1_cell_7 : decode cX1_cell 7 = .ok (.iconst 2, 1) := by decide +kernel
theorem dX1_cell_8 : decode cX1_cell 8 = .ok (.invokestatic 38, 3) := by decide +kernel
theorem dX1_cell_11 : decode cX1_cell 11 = .ok (.ifCond .ne 13, 3) := by decide +kernel
theorem dX1_cell_14 : decode cX1_cell 14 = .ok (.new 61, 3) := by decide +kernel
theorem dX1_cell_17 : decode cX1_cell 17 = .ok (.dup, 1) := by decide +kernel
theorem dX1_cell_18 : decode cX1_cell 18 = .ok (.ldc 141, 2) := by decide +kernel
theorem dX1_cell_20 : decode cX1_cell 20 = .ok (.invokespecial 65, 3) := by decide +kernel
theorem dX1_cell_23 : decode cX1_cell 23 = .ok (.athrow, 1) := by decide +kernel
theorem dX1_cell_24 : decode cX1_cell 24 = .ok (.aload_n 0, 1) := by decide +kernel
theorem dX1_cell_25 : decode cX1_cell 25 = .ok (.iload_n 1, 1) := by decide +kernel
theorem dX1_cell_26 : decode cX1_cell 26 = .ok (.iload_n 2, 1) := by decide +kernel
theorem dX1_cell_27 : decode cX1_cell 27 = .ok (.invokestatic 49, 3) := by decide +kernel
theorem dX1_cell_30 : decode cX1_cell 30 = .ok (.iload_n 3, 1) := by decide +kernel
theorem dX1_cell_31 : decode cX1_cell 31 = .ok (.invokevirtual 143, 3) := by decide +kernel
theorem dX1_cell_34 : decode cX1_cell 34 = .ok (.ireturn, 1) := by decide +kernel
set_option maxRecDepth 20000 in
theorem ggX1_piece_X1_find : GoodIn wsX1_piece wsX1_find := goodIn_r _ [7, 8, 9, 10, 11, 6, 12, 50, 51, 52, 53, 54, 55, 56, 57, 58] (by decide +kernel) (by decide +kernel)
set_option maxRecDepth 20000 in
theorem gX1_piece_X1_find : GoodIn wsX1_piece (wsV RX1 94 RX1 yX1_find wsX1_find) := goodIn_app (goodIn_of _ (by decide +kernel)) ggX1_piece_X1_find
set_option maxRecDepth 20000 in
theorem ggX1_piece_X1_within : GoodIn wsX1_piece wsX1_within := goodIn_r _ [12] (by decide +kernel) (by decide +kernel)
set_option maxRecDepth 20000 in
theorem gX1_piece_X1_within : GoodIn wsX1_piece (va_wsS RX1 38 yX1_within wsX1_within) := goodIn_app (goodIn_of _ (by decide +kernel)) ggX1_piece_X1_within
set_option maxRecDepth 20000 in
theorem ggX1_piece_X1_pieceFact : GoodIn wsX1_piece wsX1_pieceFact := goodIn_r _ [16, 17, 18, 19, 20, 21, 22, 23, 24, 25, 26, 27, 28, 29, 30, 31, 32, 33, 34, 35, 36, 6, 37, 38, 39, 40, 41, 42, 43, 44, 45, 46, 47, 48, 49, 10, 11, 12, 59, 60, 61, 62, 63, 64, 65, 66, 50, 51, 52, 53, 54, 55, 56, 57, 58] (by decide +kernel) (by decide +kernel)
set_option maxRecDepth 20000 in
theorem gX1_piece_X1_pieceFact : GoodIn wsX1_piece (wsV RX1 148 RX1 yX1_pieceFact wsX1_pieceFact) := goodIn_app (goodIn_of _ (by decide +kernel)) ggX1_piece_X1_pieceFact
theorem dX1_piece_0 : decode cX1_piece 0 = .ok (.aload_n 0, 1) := by decide +kernel
theorem dX1_piece_1 : decode cX1_piece 1 = .ok (.iload_n 1, 1) := by decide +kernel
theorem dX1_piece_2 : decode cX1_piece 2 = .ok (.invokevirtual 94, 3) := by decide +kernel
theorem dX1_piece_5 : decode cX1_piece 5 = .ok (.astore_n 3, 1) := by decide +kernel
theorem dX1_piece_6 : decode cX1_piece 6 = .ok (.aload_n 3, 1) := by decide +kernel
theorem dX1_piece_7 : decode cX1_piece 7 = .ok (.ifnonnull 13, 3) := by decide +kernel
theorem dX1_piece_10 : decode cX1_piece 10 = .ok (.new 61, 3) := by decide +kernel
theorem dX1_piece_13 : decode cX1_piece 13 = .ok (.dup, 1) := by decide +kernel
theorem dX1_piece_14 : decode cX1_piece 14 = .ok (.ldc 98, 2) := by decide +kernel
theorem dX1_piece_16 : decode cX1_piece 16 = .ok (.invokespecial 65, 3) := by decide +kernel
theorem dX1_piece_19 : decode cX1_piece 19 = .ok (.athrow, 1) := by decide +kernel
theorem dX1_piece_20 : decode cX1_piece 20 = .ok (.iload_n 2, 1) := by decide +kernel
theorem dX1_piece_21 : decode cX1_piece 21 = .ok (.iconst 0, 1) := by decide +kernel
theorem dX1_piece_22 : decode cX1_piece 22 = .ok (.bipush 7, 2) := by decide +kernel
theorem dX1_piece_24 : decode cX1_piece 24 = .ok (.invokestatic 38, 3) := by decide +kernel
theorem dX1_piece_27 : decode cX1_piece 27 = .ok (.ifCond .ne 13, 3) := by decide +kernel
theorem dX1_piece_30 : decode cX1_piece 30 = .ok (.new 61, 3) := by decide +kernel
theorem dX1_piece_33 : decode cX1_piece 33 = .ok (.dup, 1) := by decide +kernel
theorem dX1_piece_34 : decode cX1_piece 34 = .ok (.ldc 146, 2) := by decide +kernel
theorem dX1_piece_36 : decode cX1_piece 36 = .ok (.invokespecial 65, 3) := by decide +kernel
theorem dX1_piece_39 : decode cX1_piece 39 = .ok (.athrow, 1) := by decide +kernel
theorem dX1_piece_40 : decode cX1_piece 40 = .ok (.aload_n 0, 1) := by decide +kernel
theorem dX1_piece_41 : decode cX1_piece 41 = .ok (.aload_n 3, 1) := by decide +kernel
theorem dX1_piece_42 : decode cX1_piece 42 = .ok (.iload_n 2, 1) := by decide +kernel
theorem dX1_piece_43 : decode cX1_piece 43 = .ok (.invokevirtual 148, 3) := by decide +kernel
theorem dX1_piece_46 : decode cX1_piece 46 = .ok (.ireturn, 1) := by decide +kernel
set_option maxRecDepth 20000 in
theorem ggX1_count_X1_within : GoodIn wsX1_count wsX1_within := goodIn_r _ [6] (by decide +kernel) (by decide +kernel)
set_option maxRecDepth 20000 in
theorem gX1_count_X1_within : GoodIn wsX1_count (va_wsS RX1 38 yX1_within wsX1_within) := goodIn_app (goodIn_of _ (by decide +kernel)) ggX1_count_X1_within
set_option maxRecDepth 20000 in
theorem ggX1_count_X1_countFact : GoodIn wsX1_count wsX1_countFact := goodIn_r _ [10, 11, 12, 13, 14, 15, 16, 17, 5, 18, 19, 20, 21, 22, 23, 24, 3, 4, 6, 25, 26, 27, 28, 29, 30, 31, 32, 33, 34, 35, 36, 37, 38, 39, 40, 41, 42, 43, 44, 45, 46, 47, 48, 49, 50, 51, 52, 53, 54, 55, 56, 57, 58, 59, 60, 61, 62, 63, 64, 65, 66, 67, 68, 69, 70, 71, 72, 73, 74, 75, 76, 77, 78, 79, 80, 81, 82, 83, 84, 85, 86, 87, 88, 89, 90] (by decide +kernel) (by decide +kernel)
set_option maxRecDepth 20000 in
theorem gX1_count_X1_countFact : GoodIn wsX1_count (wsV RX1 154 RX1 yX1_countFact wsX1_countFact) := goodIn_app (goodIn_of _ (by decide +kernel)) ggX1_count_X1_countFact
theorem dX1_count_0 : decode cX1_count 0 = .ok (.iload_n 1, 1) := by decide +kernel
theorem dX1_count_1 : decode cX1_count 1 = .ok (.iconst 0, 1) := by decide +kernel
theorem dX1_count_2 : decode cX1_count 2 = .ok (.bipush 7, 2) := by decide +kernel
theorem dX1_count_4 : decode cX1_count 4 = .ok (.invokestatic 38, 3) := by decide +kernel
theorem dX1_count_7 : decode cX1_count 7 = .ok (.ifCond .ne 13, 3) := by decide +kernel
theorem dX1_count_10 : decode cX1_count 10 = .ok (.new 61, 3) := by decide +kernel
theorem dX1_count_13 : decode cX1_count 13 = .ok (.dup, 1) := by decide +kernel
theorem dX1_count_14 : decode cX1_count 14 = .ok (.ldc 152, 2) := by decide +kernel
theorem dX1_count_16 : decode cX1_count 16 = .ok (.invokespecial 65, 3) := by decide +kernel
theorem dX1_count_19 : decode cX1_count 19 = .ok (.athrow, 1) := by decide +kernel
theorem dX1_count_20 : decode cX1_count 20 = .ok (.aload_n 0, 1) := by decide +kernel
theorem dX1_count_21 : decode cX1_count 21 = .ok (.iload_n 1, 1) := by decide +kernel
theorem dX1_count_22 : decode cX1_count 22 = .ok (.invokevirtual 154, 3) := by decide +kernel
theorem dX1_count_25 : decode cX1_count 25 = .ok (.ireturn, 1) := by decide +kernel
set_option maxRecDepth 20000 in
theorem ggX1_off_X1_refuseNoPattern : GoodIn wsX1_off wsX1_refuseNoPattern := goodIn_ca (goodIn_r _ [4, 5, 6, 7, 8, 3, 9, 10, 11, 12] (by decide +kernel) (by decide +kernel)) (goodIn_sub (fun _ h => List.mem_cons_of_mem _ (List.mem_append_right _ h)) (by decide +kernel))
set_option maxRecDepth 20000 in
theorem gX1_off_X1_refuseNoPattern : GoodIn wsX1_off (va_wsS RX1 157 yX1_refuseNoPattern wsX1_refuseNoPattern) := goodIn_app (goodIn_of _ (by decide +kernel)) ggX1_off_X1_refuseNoPattern
set_option maxRecDepth 20000 in
theorem ggX1_off_X1_cellsOff : GoodIn wsX1_off wsX1_cellsOff := goodIn_r _ [16, 17, 18, 19, 3, 20, 21, 22, 23, 24, 25, 26, 27, 28, 29, 30, 31, 7, 8, 9, 32, 33, 34, 35, 36, 37, 38, 39, 40, 41, 42, 43, 44, 45, 46, 47, 48, 49, 50, 51, 52, 53, 54, 55, 56, 57, 58, 59, 60, 61, 62] (by decide +kernel) (by decide +kernel)
set_option maxRecDepth 20000 in
theorem gX1_off_X1_cellsOff : GoodIn wsX1_off (wsV RX1 161 RX1 yX1_cellsOff wsX1_cellsOff) := goodIn_app (goodIn_of _ (by decide +kernel)) ggX1_off_X1_cellsOff
theorem dX1_off_0 : decode cX1_off 0 = .ok (.iload_n 1, 1) := by decide +kernel
theorem dX1_off_1 : decode cX1_off 1 = .ok (.iload_n 2, 1) := by decide +kernel
theorem dX1_off_2 : decode cX1_off 2 = .ok (.iload_n 3, 1) := by decide +kernel
theorem dX1_off_3 : decode cX1_off 3 = .ok (.invokestatic 157, 3) := by decide +kernel
theorem dX1_off_6 : decode cX1_off 6 = .ok (.aload_n 0, 1) := by decide +kernel
theorem dX1_off_7 : decode cX1_off 7 = .ok (.iload_n 1, 1) := by decide +kernel
theorem dX1_off_8 : decode cX1_off 8 = .ok (.iload_n 2, 1) := by decide +kernel
theorem dX1_off_9 : decode cX1_off 9 = .ok (.iload_n 3, 1) := by decide +kernel
theorem dX1_off_10 : decode cX1_off 10 = .ok (.invokevirtual 161, 3) := by decide +kernel
theorem dX1_off_13 : decode cX1_off 13 = .ok (.ireturn, 1) := by decide +kernel
set_option maxRecDepth 20000 in
theorem ggX1_advise_X1_refuseNoPattern : GoodIn wsX1_advise wsX1_refuseNoPattern := goodIn_ca (goodIn_r _ [6, 7, 8, 9, 10, 5, 11, 12, 13, 14] (by decide +kernel) (by decide +kernel)) (goodIn_sub (fun _ h => List.mem_cons_of_mem _ (List.mem_append_right _ h)) (by decide +kernel))
set_option maxRecDepth 20000 in
theorem gX1_advise_X1_refuseNoPattern : GoodIn wsX1_advise (va_wsS RX1 157 yX1_refuseNoPattern wsX1_refuseNoPattern) := goodIn_app (goodIn_of _ (by decide +kernel)) ggX1_advise_X1_refuseNoPattern
set_option maxRecDepth 20000 in
theorem ggX1_advise_X1_cellsOff : GoodIn wsX1_advise wsX1_cellsOff := goodIn_r _ [18, 19, 20, 21, 5, 22, 23, 24, 25, 26, 27, 28, 29, 30, 31, 32, 33, 9, 10, 11, 34, 35, 36, 37, 1, 38, 39, 40, 41, 42, 43, 44, 45, 46, 64, 65, 66, 67, 68, 69, 70, 71, 72, 73, 74, 75, 76, 77, 78, 79, 80] (by decide +kernel) (by decide +kernel)
set_option maxRecDepth 20000 in
theorem gX1_advise_X1_cellsOff : GoodIn wsX1_advise (wsV RX1 161 RX1 yX1_cellsOff wsX1_cellsOff) := goodIn_app (goodIn_of _ (by decide +kernel)) ggX1_advise_X1_cellsOff
set_option maxRecDepth 20000 in
theorem ggX1_advise_X1_find : GoodIn wsX1_advise wsX1_find := goodIn_r _ [37, 1, 38, 9, 10, 5, 11, 64, 65, 66, 67, 68, 69, 70, 71, 72] (by decide +kernel) (by decide +kernel)
set_option maxRecDepth 20000 in
theorem gX1_advise_X1_find : GoodIn wsX1_advise (wsV RX1 94 RX1 yX1_find wsX1_find) := goodIn_app (goodIn_of _ (by decide +kernel)) ggX1_advise_X1_find
set_option maxRecDepth 20000 in
theorem ggX1_advise_X1_isLoose : GoodIn wsX1_advise wsX1_isLoose := goodIn_r _ [49, 50, 51, 52, 53, 54, 42, 55, 56, 57, 58, 24, 5, 25, 31, 32, 33, 9, 10, 11, 73, 74, 75, 76, 77, 78, 79, 80] (by decide +kernel) (by decide +kernel)
set_option maxRecDepth 20000 in
theorem gX1_advise_X1_isLoose : GoodIn wsX1_advise (va_wsS RX1 100 yX1_isLoose wsX1_isLoose) := goodIn_app (goodIn_of _ (by decide +kernel)) ggX1_advise_X1_isLoose
set_option maxRecDepth 20000 in
theorem ggX1_advise_X1_cellsOffFlipped : GoodIn wsX1_advise wsX1_cellsOffFlipped := goodIn_r _ [62, 63, 15, 16, 17, 5, 18, 19, 20, 21, 22, 23, 24, 25, 26, 27, 28, 29, 30, 31, 32, 33, 9, 10, 11, 34, 35, 36, 37, 1, 38, 39, 40, 41, 42, 43, 44, 45, 46, 73, 74, 75, 76, 77, 78, 79, 80, 64, 65, 66, 67, 68, 69, 70, 71, 72] (by decide +kernel) (by decide +kernel)
set_option maxRecDepth 20000 in
theorem gX1_advise_X1_cellsOffFlipped : GoodIn wsX1_advise (wsV RX1 165 RX1 yX1_cellsOffFlipped wsX1_cellsOffFlipped) := goodIn_app (goodIn_of _ (by decide +kernel)) ggX1_advise_X1_cellsOffFlipped
theorem dX1_advise_0 : decode cX1_advise 0 = .ok (.iload_n 1, 1) := by decide +kernel
theorem dX1_advise_1 : decode cX1_advise 1 = .ok (.iload_n 2, 1) := by decide +kernel
theorem dX1_advise_2 : decode cX1_advise 2 = .ok (.iload_n 3, 1) := by decide +kernel
theorem dX1_advise_3 : decode cX1_advise 3 = .ok (.invokestatic 157, 3) := by decide +kernel
theorem dX1_advise_6 : decode cX1_advise 6 = .ok (.iconst (-1), 1) := by decide +kernel
theorem dX1_advise_7 : decode cX1_advise 7 = .ok (.istore 4, 2) := by decide +kernel
theorem dX1_advise_9 : decode cX1_advise 9 = .ok (.aload_n 0, 1) := by decide +kernel
theorem dX1_advise_10 : decode cX1_advise 10 = .ok (.iload_n 1, 1) := by decide +kernel
theorem dX1_advise_11 : decode cX1_advise 11 = .ok (.iload_n 2, 1) := by decide +kernel
theorem dX1_advise_12 : decode cX1_advise 12 = .ok (.iload_n 3, 1) := by decide +kernel
theorem dX1_advise_13 : decode cX1_advise 13 = .ok (.invokevirtual 161, 3) := by decide +kernel
theorem dX1_advise_16 : decode cX1_advise 16 = .ok (.istore 5, 2) := by decide +kernel
theorem dX1_advise_18 : decode cX1_advise 18 = .ok (.iconst 0, 1) := by decide +kernel
theorem dX1_advise_19 : decode cX1_advise 19 = .ok (.istore 6, 2) := by decide +kernel
theorem dX1_advise_21 : decode cX1_advise 21 = .ok (.iload 6, 2) := by decide +kernel
theorem dX1_advise_23 : decode cX1_advise 23 = .ok (.aload_n 0, 1) := by decide +kernel
theorem dX1_advise_24 : decode cX1_advise 24 = .ok (.getfield 74, 3) := by decide +kernel
theorem dX1_advise_27 : decode cX1_advise 27 = .ok (.if_icmp .ge 60, 3) := by decide +kernel
theorem dX1_advise_30 : decode cX1_advise 30 = .ok (.aload_n 0, 1) := by decide +kernel
theorem dX1_advise_31 : decode cX1_advise 31 = .ok (.iload 6, 2) := by decide +kernel
theorem dX1_advise_33 : decode cX1_advise 33 = .ok (.invokevirtual 94, 3) := by decide +kernel
theorem dX1_advise_36 : decode cX1_advise 36 = .ok (.astore 7, 2) := by decide +kernel
theorem dX1_advise_38 : decode cX1_advise 38 = .ok (.aload 7, 2) := by decide +kernel
theorem dX1_advise_40 : decode cX1_advise 40 = .ok (.ifnull 41, 3) := by decide +kernel
theorem dX1_advise_43 : decode cX1_advise 43 = .ok (.aload 7, 2) := by decide +kernel
theorem dX1_advise_45 : decode cX1_advise 45 = .ok (.aload_n 0, 1) := by decide +kernel
theorem dX1_advise_46 : decode cX1_advise 46 = .ok (.getfield 9, 3) := by decide +kernel
theorem dX1_advise_49 : decode cX1_advise 49 = .ok (.invokestatic 100, 3) := by decide +kernel
theorem dX1_advise_52 : decode cX1_advise 52 = .ok (.ifCond .eq 29, 3) := by decide +kernel
theorem dX1_advise_55 : decode cX1_advise 55 = .ok (.aload_n 0, 1) := by decide +kernel
theorem dX1_advise_56 : decode cX1_advise 56 = .ok (.aload 7, 2) := by decide +kernel
theorem dX1_advise_58 : decode cX1_advise 58 = .ok (.iload_n 1, 1) := by decide +kernel
theorem dX1_advise_59 : decode cX1_advise 59 = .ok (.iload_n 2, 1) := by decide +kernel
theorem dX1_advise_60 : decode cX1_advise 60 = .ok (.iload_n 3, 1) := by decide +kernel
theorem dX1_advise_61 : decode cX1_advise 61 = .ok (.invokevirtual 165, 3) := by decide +kernel
theorem dX1_advise_64 : decode cX1_advise 64 = .ok (.istore 8, 2) := by decide +kernel
theorem dX1_advise_66 : decode cX1_advise 66 = .ok (.iload 8, 2) := by decide +kernel
theorem dX1_advise_68 : decode cX1_advise 68 = .ok (.iload 5, 2) := by decide +kernel
theorem dX1_advise_70 : decode cX1_advise 70 = .ok (.if_icmp .ge 11, 3) := by decide +kernel
theorem dX1_advise_73 : decode cX1_advise 73 = .ok (.iload 8, 2) := by decide +kernel
theorem dX1_advise_75 : decode cX1_advise 75 = .ok (.istore 5, 2) := by decide +kernel
theorem dX1_advise_77 : decode cX1_advise 77 = .ok (.iload 6, 2) := by decide +kernel
theorem dX1_advise_79 : decode cX1_advise 79 = .ok (.istore 4, 2) := by decide +kernel
theorem dX1_advise_81 : decode cX1_advise 81 = .ok (.iinc 6 1, 3) := by decide +kernel
theorem dX1_advise_84 : decode cX1_advise 84 = .ok (.goto (-63), 3) := by decide +kernel
theorem dX1_advise_87 : decode cX1_advise 87 = .ok (.iload 4, 2) := by decide +kernel
theorem dX1_advise_89 : decode cX1_advise 89 = .ok (.ireturn, 1) := by decide +kernel
set_option maxRecDepth 20000 in
theorem ggX1_mends_X1_refuseOutside : GoodIn wsX1_mends wsX1_refuseOutside := goodIn_ca (goodIn_r _ [4, 5, 6, 7, 8, 3, 9, 10, 11, 12] (by decide +kernel) (by decide +kernel)) (goodIn_sub (fun _ h => List.mem_cons_of_mem _ (List.mem_append_right _ h)) (by decide +kernel))
set_option maxRecDepth 20000 in
theorem gX1_mends_X1_refuseOutside : GoodIn wsX1_mends (va_wsS RX1 34 yX1_refuseOutside wsX1_refuseOutside) := goodIn_app (goodIn_of _ (by decide +kernel)) ggX1_mends_X1_refuseOutside
set_option maxRecDepth 20000 in
theorem ggX1_mends_X1_clearMarks : GoodIn wsX1_mends wsX1_clearMarks := goodIn_r _ [16, 17, 41, 42, 43, 44, 45, 46, 47, 48, 49] (by decide +kernel) (by decide +kernel)
set_option maxRecDepth 20000 in
theorem gX1_mends_X1_clearMarks : GoodIn wsX1_mends (wsV RX1 169 RX1 yX1_clearMarks wsX1_clearMarks) := goodIn_app (goodIn_of _ (by decide +kernel)) ggX1_mends_X1_clearMarks
set_option maxRecDepth 20000 in
theorem ggX1_mends_X1_markGap : GoodIn wsX1_mends wsX1_markGap := goodIn_r _ [21, 22, 23, 24, 25, 3, 26, 27, 17, 28, 29, 30, 7, 8, 9, 10, 11, 12, 31, 32, 33, 34, 35, 36, 41, 42, 43, 44, 45, 46, 47, 48, 49] (by decide +kernel) (by decide +kernel)
set_option maxRecDepth 20000 in
theorem gX1_mends_X1_markGap : GoodIn wsX1_mends (wsV RX1 172 RX1 yX1_markGap wsX1_markGap) := goodIn_app (goodIn_of _ (by decide +kernel)) ggX1_mends_X1_markGap
set_option maxRecDepth 20000 in
theorem ggX1_mends_X1_piecesForMarks : GoodIn wsX1_mends wsX1_piecesForMarks := goodIn_r _ [40, 17, 28, 29, 3, 30, 31, 32, 33, 10, 11, 12, 41, 42, 43, 44, 45, 46, 47, 48, 49] (by decide +kernel) (by decide +kernel)
set_option maxRecDepth 20000 in
theorem gX1_mends_X1_piecesForMarks : GoodIn wsX1_mends (wsV RX1 175 RX1 yX1_piecesForMarks wsX1_piecesForMarks) := goodIn_app (goodIn_of _ (by decide +kernel)) ggX1_mends_X1_piecesForMarks
theorem dX1_mends_0 : decode cX1_mends 0 = .ok (.iload_n 1, 1) := by decide +kernel
theorem dX1_mends_1 : decode cX1_mends 1 = .ok (.iload_n 2, 1) := by decide +kernel
theorem dX1_mends_2 : decode cX1_mends 2 = .ok (.invokestatic 34, 3) := by decide +kernel
theorem dX1_mends_5 : decode cX1_mends 5 = .ok (.aload_n 0, 1) := by decide +kernel
theorem dX1_mends_6 : decode cX1_mends 6 = .ok (.invokevirtual 169, 3) := by decide +kernel
theorem dX1_mends_9 : decode cX1_mends 9 = .ok (.aload_n 0, 1) := by decide +kernel
theorem dX1_mends_10 : decode cX1_mends 10 = .ok (.iload_n 1, 1) := by decide +kernel
theorem dX1_mends_11 : decode cX1_mends 11 = .ok (.iload_n 2, 1) := by decide +kernel
theorem dX1_mends_12 : decode cX1_mends 12 = .ok (.invokevirtual 172, 3) := by decide +kernel
theorem dX1_mends_15 : decode cX1_mends 15 = .ok (.pop, 1) := by decide +kernel
theorem dX1_mends_16 : decode cX1_mends 16 = .ok (.aload_n 0, 1) := by decide +kernel
theorem dX1_mends_17 : decode cX1_mends 17 = .ok (.iload_n 3, 1) := by decide +kernel
theorem dX1_mends_18 : decode cX1_mends 18 = .ok (.invokevirtual 175, 3) := by decide +kernel
theorem dX1_mends_21 : decode cX1_mends 21 = .ok (.ireturn, 1) := by decide +kernel
set_option maxRecDepth 20000 in
theorem ggX1_gap_X1_refuseOutside : GoodIn wsX1_gap wsX1_refuseOutside := goodIn_ca (goodIn_r _ [4, 5, 6, 7, 8, 3, 9, 10, 11, 12] (by decide +kernel) (by decide +kernel)) (goodIn_sub (fun _ h => List.mem_cons_of_mem _ (List.mem_append_right _ h)) (by decide +kernel))
set_option maxRecDepth 20000 in
theorem gX1_gap_X1_refuseOutside : GoodIn wsX1_gap (va_wsS RX1 34 yX1_refuseOutside wsX1_refuseOutside) := goodIn_app (goodIn_of _ (by decide +kernel)) ggX1_gap_X1_refuseOutside
set_option maxRecDepth 20000 in
theorem ggX1_gap_X1_clearMarks : GoodIn wsX1_gap wsX1_clearMarks := goodIn_r _ [16, 17, 37, 38, 39, 40, 41, 42, 43, 44, 45] (by decide +kernel) (by decide +kernel)
set_option maxRecDepth 20000 in
theorem gX1_gap_X1_clearMarks : GoodIn wsX1_gap (wsV RX1 169 RX1 yX1_clearMarks wsX1_clearMarks) := goodIn_app (goodIn_of _ (by decide +kernel)) ggX1_gap_X1_clearMarks
set_option maxRecDepth 20000 in
theorem ggX1_gap_X1_markGap : GoodIn wsX1_gap wsX1_markGap := goodIn_r _ [21, 22, 23, 24, 25, 3, 26, 27, 17, 28, 29, 30, 7, 8, 9, 10, 11, 12, 31, 32, 33, 34, 35, 36, 37, 38, 39, 40, 41, 42, 43, 44, 45] (by decide +kernel) (by decide +kernel)
set_option maxRecDepth 20000 in
theorem gX1_gap_X1_markGap : GoodIn wsX1_gap (wsV RX1 172 RX1 yX1_markGap wsX1_markGap) := goodIn_app (goodIn_of _ (by decide +kernel)) ggX1_gap_X1_markGap
theorem dX1_gap_0 : decode cX1_gap 0 = .ok (.iload_n 1, 1) := by decide +kernel
theorem dX1_gap_1 : decode cX1_gap 1 = .ok (.iload_n 2, 1) := by decide +kernel
theorem dX1_gap_2 : decode cX1_gap 2 = .ok (.invokestatic 34, 3) := by decide +kernel
theorem dX1_gap_5 : decode cX1_gap 5 = .ok (.aload_n 0, 1) := by decide +kernel
theorem dX1_gap_6 : decode cX1_gap 6 = .ok (.invokevirtual 169, 3) := by decide +kernel
theorem dX1_gap_9 : decode cX1_gap 9 = .ok (.aload_n 0, 1) := by decide +kernel
theorem dX1_gap_10 : decode cX1_gap 10 = .ok (.iload_n 1, 1) := by decide +kernel
theorem dX1_gap_11 : decode cX1_gap 11 = .ok (.iload_n 2, 1) := by decide +kernel
theorem dX1_gap_12 : decode cX1_gap 12 = .ok (.invokevirtual 172, 3) := by decide +kernel
theorem dX1_gap_15 : decode cX1_gap 15 = .ok (.ireturn, 1) := by decide +kernel
set_option maxRecDepth 20000 in
theorem ggX1_pass_X1_within : GoodIn wsX1_pass wsX1_within := goodIn_r _ [8] (by decide +kernel) (by decide +kernel)
set_option maxRecDepth 20000 in
theorem gX1_pass_X1_within : GoodIn wsX1_pass (va_wsS RX1 38 yX1_within wsX1_within) := goodIn_app (goodIn_of _ (by decide +kernel)) ggX1_pass_X1_within
set_option maxRecDepth 20000 in
theorem ggX1_pass_X1_dryOneHour : GoodIn wsX1_pass wsX1_dryOneHour := goodIn_r _ [12, 13, 14, 15, 16, 17, 18, 19, 20, 21, 22, 23, 24, 7, 25, 5, 6, 8, 26, 27, 28, 54, 55, 56, 57, 58, 59, 60, 61, 62] (by decide +kernel) (by decide +kernel)
set_option maxRecDepth 20000 in
theorem gX1_pass_X1_dryOneHour : GoodIn wsX1_pass (wsV RX1 184 RX1 yX1_dryOneHour wsX1_dryOneHour) := goodIn_app (goodIn_of _ (by decide +kernel)) ggX1_pass_X1_dryOneHour
set_option maxRecDepth 20000 in
theorem ggX1_pass_X1_loosePieces : GoodIn wsX1_pass wsX1_loosePieces := goodIn_r _ [32, 33, 3, 34, 35, 36, 7, 37, 38, 5, 6, 8, 39, 40, 41, 42, 43, 44, 45, 46, 47, 48, 49, 50, 51, 52, 53, 23, 24, 25, 54, 55, 56, 57, 58, 59, 60, 61, 62, 63, 64, 65, 66, 67, 68, 69, 70] (by decide +kernel) (by decide +kernel)
set_option maxRecDepth 20000 in
theorem gX1_pass_X1_loosePieces : GoodIn wsX1_pass (wsV RX1 188 RX1 yX1_loosePieces wsX1_loosePieces) := goodIn_app (goodIn_of _ (by decide +kernel)) ggX1_pass_X1_loosePieces
theorem dX1_pass_0 : decode cX1_pass 0 = .ok (.iload_n 1, 1) := by decide +kernel
theorem dX1_pass_1 : decode cX1_pass 1 = .ok (.iconst 1, 1) := by decide +kernel
theorem dX1_pass_2 : decode cX1_pass 2 = .ok (.bipush 100, 2) := by decide +kernel
theorem dX1_pass_4 : decode cX1_pass 4 = .ok (.invokestatic 38, 3) := by decide +kernel
theorem dX1_pass_7 : decode cX1_pass 7 = .ok (.ifCond .ne 13, 3) := by decide +kernel
theorem dX1_pass_10 : decode cX1_pass 10 = .ok (.new 42, 3) := by decide +kernel
theorem dX1_pass_13 : decode cX1_pass 13 = .ok (.dup, 1) := by decide +kernel
theorem dX1_pass_14 : decode cX1_pass 14 = .ok (.ldc 179, 2) := by decide +kernel
theorem dX1_pass_16 : decode cX1_pass 16 = .ok (.invokespecial 46, 3) := by decide +kernel
theorem dX1_pass_19 : decode cX1_pass 19 = .ok (.athrow, 1) := by decide +kernel
theorem dX1_pass_20 : decode cX1_pass 20 = .ok (.iconst 0, 1) := by decide +kernel
theorem dX1_pass_21 : decode cX1_pass 21 = .ok (.istore_n 2, 1) := by decide +kernel
theorem dX1_pass_22 : decode cX1_pass 22 = .ok (.iload_n 2, 1) := by decide +kernel
theorem dX1_pass_23 : decode cX1_pass 23 = .ok (.iload_n 1, 1) := by decide +kernel
theorem dX1_pass_24 : decode cX1_pass 24 = .ok (.if_icmp .ge 31, 3) := by decide +kernel
theorem dX1_pass_27 : decode cX1_pass 27 = .ok (.aload_n 0, 1) := by decide +kernel
theorem dX1_pass_28 : decode cX1_pass 28 = .ok (.aload_n 0, 1) := by decide +kernel
theorem dX1_pass_29 : decode cX1_pass 29 = .ok (.getfield 9, 3) := by decide +kernel
theorem dX1_pass_32 : decode cX1_pass 32 = .ok (.aload_n 0, 1) := by decide +kernel
theorem dX1_pass_33 : decode cX1_pass 33 = .ok (.getfield 181, 3) := by decide +kernel
theorem dX1_pass_36 : decode cX1_pass 36 = .ok (.invokevirtual 184, 3) := by decide +kernel
theorem dX1_pass_39 : decode cX1_pass 39 = .ok (.aload_n 0, 1) := by decide +kernel
theorem dX1_pass_40 : decode cX1_pass 40 = .ok (.dup, 1) := by decide +kernel
theorem dX1_pass_41 : decode cX1_pass 41 = .ok (.getfield 181, 3) := by decide +kernel
theorem dX1_pass_44 : decode cX1_pass 44 = .ok (.iconst 1, 1) := by decide +kernel
theorem dX1_pass_45 : decode cX1_pass 45 = .ok (.iadd, 1) := by decide +kernel
theorem dX1_pass_46 : decode cX1_pass 46 = .ok (.putfield 181, 3) := by decide +kernel
theorem dX1_pass_49 : decode cX1_pass 49 = .ok (.iinc 2 1, 3) := by decide +kernel
theorem dX1_pass_52 : decode cX1_pass 52 = .ok (.goto (-30), 3) := by decide +kernel
theorem dX1_pass_55 : decode cX1_pass 55 = .ok (.aload_n 0, 1) := by decide +kernel
theorem dX1_pass_56 : decode cX1_pass 56 = .ok (.invokevirtual 188, 3) := by decide +kernel
theorem dX1_pass_59 : decode cX1_pass 59 = .ok (.ireturn, 1) := by decide +kernel
set_option maxRecDepth 20000 in
theorem ggX1_loose_X1_find : GoodIn wsX1_loose wsX1_find := goodIn_r _ [14, 15, 16, 17, 18, 13, 19, 55, 56, 57, 58, 59, 60, 61, 62, 63] (by decide +kernel) (by decide +kernel)
set_option maxRecDepth 20000 in
theorem gX1_loose_X1_find : GoodIn wsX1_loose (wsV RX1 94 RX1 yX1_find wsX1_find) := goodIn_app (goodIn_of _ (by decide +kernel)) ggX1_loose_X1_find
set_option maxRecDepth 20000 in
theorem ggX1_loose_X1_isLoose : GoodIn wsX1_loose wsX1_isLoose := goodIn_r _ [22, 23, 24, 25, 26, 27, 28, 29, 30, 31, 32, 33, 13, 34, 35, 36, 37, 17, 18, 19, 64, 65, 66, 67, 68, 69, 70, 71] (by decide +kernel) (by decide +kernel)
set_option maxRecDepth 20000 in
theorem gX1_loose_X1_isLoose : GoodIn wsX1_loose (va_wsS RX1 100 yX1_isLoose wsX1_isLoose) := goodIn_app (goodIn_of _ (by decide +kernel)) ggX1_loose_X1_isLoose
set_option maxRecDepth 20000 in
theorem ggX1_loose_X1_dryOneHour : GoodIn wsX1_loose wsX1_dryOneHour := goodIn_r _ [41, 42, 43, 44, 45, 46, 47, 48, 49, 50, 51, 35, 36, 13, 37, 17, 18, 19, 52, 53, 54, 55, 56, 57, 58, 59, 60, 61, 62, 63] (by decide +kernel) (by decide +kernel)
set_option maxRecDepth 20000 in
theorem gX1_loose_X1_dryOneHour : GoodIn wsX1_loose (wsV RX1 184 RX1 yX1_dryOneHour wsX1_dryOneHour) := goodIn_app (goodIn_of _ (by decide +kernel)) ggX1_loose_X1_dryOneHour
theorem dX1_loose_0 : decode cX1_loose 0 = .ok (.aload_n 0, 1) := by decide +kernel
theorem dX1_loose_1 : decode cX1_loose 1 = .ok (.iload_n 1, 1) := by decide +kernel
theorem dX1_loose_2 : decode cX1_loose 2 = .ok (.invokevirtual 94, 3) := by decide +kernel
theorem dX1_loose_5 : decode cX1_loose 5 = .ok (.astore_n 2, 1) := by decide +kernel
theorem dX1_loose_6 : decode cX1_loose 6 = .ok (.aload_n 2, 1) := by decide +kernel
theorem dX1_loose_7 : decode cX1_loose 7 = .ok (.ifnonnull 13, 3) := by decide +kernel
theorem dX1_loose_10 : decode cX1_loose 10 = .ok (.new 61, 3) := by decide +kernel
theorem dX1_loose_13 : decode cX1_loose 13 = .ok (.dup, 1) := by decide +kernel
theorem dX1_loose_14 : decode cX1_loose 14 = .ok (.ldc 98, 2) := by decide +kernel
theorem dX1_loose_16 : decode cX1_loose 16 = .ok (.invokespecial 65, 3) := by decide +kernel
theorem dX1_loose_19 : decode cX1_loose 19 = .ok (.athrow, 1) := by decide +kernel
theorem dX1_loose_20 : decode cX1_loose 20 = .ok (.aload_n 0, 1) := by decide +kernel
theorem dX1_loose_21 : decode cX1_loose 21 = .ok (.getfield 9, 3) := by decide +kernel
theorem dX1_loose_24 : decode cX1_loose 24 = .ok (.iconst 0, 1) := by decide +kernel
theorem dX1_loose_25 : decode cX1_loose 25 = .ok (.aload_n 0, 1) := by decide +kernel
theorem dX1_loose_26 : decode cX1_loose 26 = .ok (.getfield 25, 3) := by decide +kernel
theorem dX1_loose_29 : decode cX1_loose 29 = .ok (.iconst 0, 1) := by decide +kernel
theorem dX1_loose_30 : decode cX1_loose 30 = .ok (.bipush 80, 2) := by decide +kernel
theorem dX1_loose_32 : decode cX1_loose 32 = .ok (.invokestatic 191, 3) := by decide +kernel
theorem dX1_loose_35 : decode cX1_loose 35 = .ok (.iconst 0, 1) := by decide +kernel
theorem dX1_loose_36 : decode cX1_loose 36 = .ok (.istore_n 3, 1) := by decide +kernel
theorem dX1_loose_37 : decode cX1_loose 37 = .ok (.iload_n 3, 1) := by decide +kernel
theorem dX1_loose_38 : decode cX1_loose 38 = .ok (.sipush 200, 3) := by decide +kernel
theorem dX1_loose_41 : decode cX1_loose 41 = .ok (.if_icmp .gt 36, 3) := by decide +kernel
theorem dX1_loose_44 : decode cX1_loose 44 = .ok (.aload_n 2, 1) := by decide +kernel
theorem dX1_loose_45 : decode cX1_loose 45 = .ok (.aload_n 0, 1) := by decide +kernel
theorem dX1_loose_46 : decode cX1_loose 46 = .ok (.getfield 25, 3) := by decide +kernel
theorem dX1_loose_49 : decode cX1_loose 49 = .ok (.invokestatic 100, 3) := by decide +kernel
theorem dX1_loose_52 : decode cX1_loose 52 = .ok (.ifCond .ne 5, 3) := by decide +kernel
theorem dX1_loose_55 : decode cX1_loose 55 = .ok (.iload_n 3, 1) := by decide +kernel
theorem dX1_loose_56 : decode cX1_loose 56 = .ok (.ireturn, 1) := by decide +kernel
theorem dX1_loose_57 : decode cX1_loose 57 = .ok (.aload_n 0, 1) := by decide +kernel
theorem dX1_loose_58 : decode cX1_loose 58 = .ok (.aload_n 0, 1) := by decide +kernel
theorem dX1_loose_59 : decode cX1_loose 59 = .ok (.getfield 25, 3) := by decide +kernel
theorem dX1_loose_62 : decode cX1_loose 62 = .ok (.aload_n 0, 1) := by decide +kernel
theorem dX1_loose_63 : decode cX1_loose 63 = .ok (.getfield 181, 3) := by decide +kernel
theorem dX1_loose_66 : decode cX1_loose 66 = .ok (.iload_n 3, 1) := by decide +kernel
theorem dX1_loose_67 : decode cX1_loose 67 = .ok (.iadd, 1) := by decide +kernel
theorem dX1_loose_68 : decode cX1_loose 68 = .ok (.invokevirtual 184, 3) := by decide +kernel
theorem dX1_loose_71 : decode cX1_loose 71 = .ok (.iinc 3 1, 3) := by decide +kernel
theorem dX1_loose_74 : decode cX1_loose 74 = .ok (.goto (-37), 3) := by decide +kernel
theorem dX1_loose_77 : decode cX1_loose 77 = .ok (.iconst (-1), 1) := by decide +kernel
theorem dX1_loose_78 : decode cX1_loose 78 = .ok (.ireturn, 1) := by decide +kernel
set_option maxRecDepth 20000 in
theorem ggX1_dry_X1_cellsFrom : GoodIn wsX1_dry wsX1_cellsFrom := goodIn_r _ [11] (by decide +kernel) (by decide +kernel)
set_option maxRecDepth 20000 in
theorem gX1_dry_X1_cellsFrom : GoodIn wsX1_dry (va_wsS RX1 197 yX1_cellsFrom wsX1_cellsFrom) := goodIn_app (goodIn_of _ (by decide +kernel)) ggX1_dry_X1_cellsFrom
set_option maxRecDepth 20000 in
theorem ggX1_dry_X1_dryOneHour : GoodIn wsX1_dry wsX1_dryOneHour := goodIn_r _ [15, 16, 17, 18, 19, 20, 21, 22, 23, 24, 25, 26, 27, 10, 28, 29, 30, 31, 32, 33, 34, 35, 36, 37, 38, 39, 40, 41, 42, 43] (by decide +kernel) (by decide +kernel)
set_option maxRecDepth 20000 in
theorem gX1_dry_X1_dryOneHour : GoodIn wsX1_dry (wsV RX1 184 RX1 yX1_dryOneHour wsX1_dryOneHour) := goodIn_app (goodIn_of _ (by decide +kernel)) ggX1_dry_X1_dryOneHour
theorem dX1_dry_0 : decode cX1_dry 0 = .ok (.aload_n 0, 1) := by decide +kernel
theorem dX1_dry_1 : decode cX1_dry 1 = .ok (.getfield 9, 3) := by decide +kernel
theorem dX1_dry_4 : decode cX1_dry 4 = .ok (.iconst 0, 1) := by decide +kernel
theorem dX1_dry_5 : decode cX1_dry 5 = .ok (.aload_n 0, 1) := by decide +kernel
theorem dX1_dry_6 : decode cX1_dry 6 = .ok (.getfield 25, 3) := by decide +kernel
theorem dX1_dry_9 : decode cX1_dry 9 = .ok (.iconst 0, 1) := by decide +kernel
theorem dX1_dry_10 : decode cX1_dry 10 = .ok (.bipush 80, 2) := by decide +kernel
theorem dX1_dry_12 : decode cX1_dry 12 = .ok (.invokestatic 191, 3) := by decide +kernel
theorem dX1_dry_15 : decode cX1_dry 15 = .ok (.iconst 0, 1) := by decide +kernel
theorem dX1_dry_16 : decode cX1_dry 16 = .ok (.istore_n 1, 1) := by decide +kernel
theorem dX1_dry_17 : decode cX1_dry 17 = .ok (.iload_n 1, 1) := by decide +kernel
theorem dX1_dry_18 : decode cX1_dry 18 = .ok (.sipush 200, 3) := by decide +kernel
theorem dX1_dry_21 : decode cX1_dry 21 = .ok (.if_icmp .gt 36, 3) := by decide +kernel
end
section
theorem dX1_dry_24 : decode cX1_dry 24 = .ok (.aload_n 0, 1) := by decide +kernel
theorem dX1_dry_25 : decode cX1_dry 25 = .ok (.getfield 25, 3) := by decide +kernel
theorem dX1_dry_28 : decode cX1_dry 28 = .ok (.iconst 1, 1) := by decide +kernel
theorem dX1_dry_29 : decode cX1_dry 29 = .ok (.invokestatic 197, 3) := by decide +kernel
theorem dX1_dry_32 : decode cX1_dry 32 = .ok (.ifCond .ne 5, 3) := by decide +kernel
theorem dX1_dry_35 : decode cX1_dry 35 = .ok (.iload_n 1, 1) := by decide +kernel
theorem dX1_dry_36 : decode cX1_dry 36 = .ok (.ireturn, 1) := by decide +kernel
theorem dX1_dry_37 : decode cX1_dry 37 = .ok (.aload_n 0, 1) := by decide +kernel
theorem dX1_dry_38 : decode cX1_dry 38 = .ok (.aload_n 0, 1) := by decide +kernel
theorem dX1_dry_39 : decode cX1_dry 39 = .ok (.getfield 25, 3) := by decide +kernel
theorem dX1_dry_42 : decode cX1_dry 42 = .ok (.aload_n 0, 1) := by decide +kernel
theorem dX1_dry_43 : decode cX1_dry 43 = .ok (.getfield 181, 3) := by decide +kernel
theorem dX1_dry_46 : decode cX1_dry 46 = .ok (.iload_n 1, 1) := by decide +kernel
theorem dX1_dry_47 : decode cX1_dry 47 = .ok (.iadd, 1) := by decide +kernel
theorem dX1_dry_48 : decode cX1_dry 48 = .ok (.invokevirtual 184, 3) := by decide +kernel
theorem dX1_dry_51 : decode cX1_dry 51 = .ok (.iinc 1 1, 3) := by decide +kernel
theorem dX1_dry_54 : decode cX1_dry 54 = .ok (.goto (-37), 3) := by decide +kernel
theorem dX1_dry_57 : decode cX1_dry 57 = .ok (.iconst (-1), 1) := by decide +kernel
theorem dX1_dry_58 : decode cX1_dry 58 = .ok (.ireturn, 1) := by decide +kernel
set_option maxRecDepth 20000 in
theorem ggX1_share_X1_cellsFrom : GoodIn wsX1_share wsX1_cellsFrom := goodIn_r _ [6] (by decide +kernel) (by decide +kernel)
set_option maxRecDepth 20000 in
theorem gX1_share_X1_cellsFrom : GoodIn wsX1_share (va_wsS RX1 197 yX1_cellsFrom wsX1_cellsFrom) := goodIn_app (goodIn_of _ (by decide +kernel)) ggX1_share_X1_cellsFrom
theorem dX1_share_0 : decode cX1_share 0 = .ok (.aload_n 0, 1) := by decide +kernel
theorem dX1_share_1 : decode cX1_share 1 = .ok (.getfield 13, 3) := by decide +kernel
theorem dX1_share_4 : decode cX1_share 4 = .ok (.iconst 0, 1) := by decide +kernel
theorem dX1_share_5 : decode cX1_share 5 = .ok (.invokestatic 197, 3) := by decide +kernel
theorem dX1_share_8 : decode cX1_share 8 = .ok (.i2d, 1) := by decide +kernel
theorem dX1_share_9 : decode cX1_share 9 = .ok (.ldc2_w 200, 3) := by decide +kernel
theorem dX1_share_12 : decode cX1_share 12 = .ok (.ddiv, 1) := by decide +kernel
theorem dX1_share_13 : decode cX1_share 13 = .ok (.dreturn, 1) := by decide +kernel
set_option maxRecDepth 20000 in
theorem ggX1_digest_X1_countFact : GoodIn wsX1_digest wsX1_countFact := goodIn_r _ [9, 10, 3, 11, 12, 13, 14, 15, 8, 16, 17, 18, 19, 20, 21, 22, 23, 24, 25, 26, 27, 28, 29, 30, 31, 32, 33, 34, 35, 36, 37, 38, 39, 40, 41, 42, 43, 44, 45, 46, 47, 48, 49, 50, 51, 52, 53, 54, 55, 56, 57, 58, 59, 60, 61, 62, 63, 64, 65, 66, 67, 68, 69, 70, 71, 72, 73, 74, 101, 102, 103, 104, 105, 106, 107, 108, 109, 110, 111, 112, 113, 114, 115, 116, 117] (by decide +kernel) (by decide +kernel)
set_option maxRecDepth 20000 in
theorem gX1_digest_X1_countFact : GoodIn wsX1_digest (wsV RX1 154 RX1 yX1_countFact wsX1_countFact) := goodIn_app (goodIn_of _ (by decide +kernel)) ggX1_digest_X1_countFact
set_option maxRecDepth 20000 in
theorem ggX1_digest_X1_cellFact : GoodIn wsX1_digest wsX1_cellFact := goodIn_r _ [78, 11, 12, 44, 45, 8, 46, 23, 24, 25, 79, 80, 81, 82, 18, 19, 20, 21, 3, 22, 83, 84, 85, 37, 86, 87, 88, 89, 101, 102, 103, 104, 105, 106, 107, 108, 109, 110, 111, 112, 113, 114, 115, 116, 117] (by decide +kernel) (by decide +kernel)
set_option maxRecDepth 20000 in
theorem gX1_digest_X1_cellFact : GoodIn wsX1_digest (wsV RX1 143 RX1 yX1_cellFact wsX1_cellFact) := goodIn_app (goodIn_of _ (by decide +kernel)) ggX1_digest_X1_cellFact
set_option maxRecDepth 20000 in
theorem ggX1_digest_X1_find : GoodIn wsX1_digest wsX1_find := goodIn_r _ [21, 3, 22, 23, 24, 8, 25, 101, 102, 103, 104, 105, 106, 107, 108, 109] (by decide +kernel) (by decide +kernel)
set_option maxRecDepth 20000 in
theorem gX1_digest_X1_find : GoodIn wsX1_digest (wsV RX1 94 RX1 yX1_find wsX1_find) := goodIn_app (goodIn_of _ (by decide +kernel)) ggX1_digest_X1_find
set_option maxRecDepth 20000 in
theorem ggX1_digest_X1_pieceFact : GoodIn wsX1_digest wsX1_pieceFact := goodIn_r _ [93, 94, 95, 33, 96, 11, 17, 83, 84, 85, 37, 86, 87, 88, 89, 97, 98, 99, 100, 30, 31, 8, 32, 34, 35, 36, 38, 39, 40, 41, 42, 43, 44, 45, 46, 23, 24, 25, 110, 111, 112, 113, 114, 115, 116, 117, 101, 102, 103, 104, 105, 106, 107, 108, 109] (by decide +kernel) (by decide +kernel)
set_option maxRecDepth 20000 in
theorem gX1_digest_X1_pieceFact : GoodIn wsX1_digest (wsV RX1 148 RX1 yX1_pieceFact wsX1_pieceFact) := goodIn_app (goodIn_of _ (by decide +kernel)) ggX1_digest_X1_pieceFact
theorem dX1_digest_0 : decode cX1_digest 0 = .ok (.ldc2_w 202, 3) := by decide +kernel
theorem dX1_digest_3 : decode cX1_digest 3 = .ok (.lstore_n 1, 1) := by decide +kernel
theorem dX1_digest_4 : decode cX1_digest 4 = .ok (.iconst 0, 1) := by decide +kernel
theorem dX1_digest_5 : decode cX1_digest 5 = .ok (.istore_n 3, 1) := by decide +kernel
theorem dX1_digest_6 : decode cX1_digest 6 = .ok (.iload_n 3, 1) := by decide +kernel
theorem dX1_digest_7 : decode cX1_digest 7 = .ok (.bipush 8, 2) := by decide +kernel
theorem dX1_digest_9 : decode cX1_digest 9 = .ok (.if_icmp .ge 22, 3) := by decide +kernel
theorem dX1_digest_12 : decode cX1_digest 12 = .ok (.lload_n 1, 1) := by decide +kernel
theorem dX1_digest_13 : decode cX1_digest 13 = .ok (.ldc2_w 204, 3) := by decide +kernel
theorem dX1_digest_16 : decode cX1_digest 16 = .ok (.lmul, 1) := by decide +kernel
theorem dX1_digest_17 : decode cX1_digest 17 = .ok (.aload_n 0, 1) := by decide +kernel
theorem dX1_digest_18 : decode cX1_digest 18 = .ok (.iload_n 3, 1) := by decide +kernel
theorem dX1_digest_19 : decode cX1_digest 19 = .ok (.invokevirtual 154, 3) := by decide +kernel
theorem dX1_digest_22 : decode cX1_digest 22 = .ok (.i2l, 1) := by decide +kernel
theorem dX1_digest_23 : decode cX1_digest 23 = .ok (.ladd, 1) := by decide +kernel
theorem dX1_digest_24 : decode cX1_digest 24 = .ok (.lstore_n 1, 1) := by decide +kernel
theorem dX1_digest_25 : decode cX1_digest 25 = .ok (.iinc 3 1, 3) := by decide +kernel
theorem dX1_digest_28 : decode cX1_digest 28 = .ok (.goto (-22), 3) := by decide +kernel
theorem dX1_digest_31 : decode cX1_digest 31 = .ok (.iconst 0, 1) := by decide +kernel
theorem dX1_digest_32 : decode cX1_digest 32 = .ok (.istore_n 3, 1) := by decide +kernel
theorem dX1_digest_33 : decode cX1_digest 33 = .ok (.iload_n 3, 1) := by decide +kernel
theorem dX1_digest_34 : decode cX1_digest 34 = .ok (.bipush 80, 2) := by decide +kernel
theorem dX1_digest_36 : decode cX1_digest 36 = .ok (.if_icmp .ge 39, 3) := by decide +kernel
theorem dX1_digest_39 : decode cX1_digest 39 = .ok (.iconst 0, 1) := by decide +kernel
theorem dX1_digest_40 : decode cX1_digest 40 = .ok (.istore 4, 2) := by decide +kernel
theorem dX1_digest_42 : decode cX1_digest 42 = .ok (.iload 4, 2) := by decide +kernel
theorem dX1_digest_44 : decode cX1_digest 44 = .ok (.iconst 3, 1) := by decide +kernel
theorem dX1_digest_45 : decode cX1_digest 45 = .ok (.if_icmp .ge 24, 3) := by decide +kernel
theorem dX1_digest_48 : decode cX1_digest 48 = .ok (.lload_n 1, 1) := by decide +kernel
theorem dX1_digest_49 : decode cX1_digest 49 = .ok (.ldc2_w 204, 3) := by decide +kernel
theorem dX1_digest_52 : decode cX1_digest 52 = .ok (.lmul, 1) := by decide +kernel
theorem dX1_digest_53 : decode cX1_digest 53 = .ok (.aload_n 0, 1) := by decide +kernel
theorem dX1_digest_54 : decode cX1_digest 54 = .ok (.iload_n 3, 1) := by decide +kernel
theorem dX1_digest_55 : decode cX1_digest 55 = .ok (.iload 4, 2) := by decide +kernel
theorem dX1_digest_57 : decode cX1_digest 57 = .ok (.invokevirtual 143, 3) := by decide +kernel
theorem dX1_digest_60 : decode cX1_digest 60 = .ok (.i2l, 1) := by decide +kernel
theorem dX1_digest_61 : decode cX1_digest 61 = .ok (.ladd, 1) := by decide +kernel
theorem dX1_digest_62 : decode cX1_digest 62 = .ok (.lstore_n 1, 1) := by decide +kernel
theorem dX1_digest_63 : decode cX1_digest 63 = .ok (.iinc 4 1, 3) := by decide +kernel
theorem dX1_digest_66 : decode cX1_digest 66 = .ok (.goto (-24), 3) := by decide +kernel
theorem dX1_digest_69 : decode cX1_digest 69 = .ok (.iinc 3 1, 3) := by decide +kernel
theorem dX1_digest_72 : decode cX1_digest 72 = .ok (.goto (-39), 3) := by decide +kernel
theorem dX1_digest_75 : decode cX1_digest 75 = .ok (.iconst 0, 1) := by decide +kernel
theorem dX1_digest_76 : decode cX1_digest 76 = .ok (.istore_n 3, 1) := by decide +kernel
theorem dX1_digest_77 : decode cX1_digest 77 = .ok (.iload_n 3, 1) := by decide +kernel
theorem dX1_digest_78 : decode cX1_digest 78 = .ok (.aload_n 0, 1) := by decide +kernel
theorem dX1_digest_79 : decode cX1_digest 79 = .ok (.getfield 74, 3) := by decide +kernel
theorem dX1_digest_82 : decode cX1_digest 82 = .ok (.if_icmp .ge 53, 3) := by decide +kernel
theorem dX1_digest_85 : decode cX1_digest 85 = .ok (.aload_n 0, 1) := by decide +kernel
theorem dX1_digest_86 : decode cX1_digest 86 = .ok (.iload_n 3, 1) := by decide +kernel
theorem dX1_digest_87 : decode cX1_digest 87 = .ok (.invokevirtual 94, 3) := by decide +kernel
theorem dX1_digest_90 : decode cX1_digest 90 = .ok (.astore 4, 2) := by decide +kernel
theorem dX1_digest_92 : decode cX1_digest 92 = .ok (.iconst 0, 1) := by decide +kernel
theorem dX1_digest_93 : decode cX1_digest 93 = .ok (.istore 5, 2) := by decide +kernel
theorem dX1_digest_95 : decode cX1_digest 95 = .ok (.aload 4, 2) := by decide +kernel
theorem dX1_digest_97 : decode cX1_digest 97 = .ok (.ifnull 32, 3) := by decide +kernel
theorem dX1_digest_100 : decode cX1_digest 100 = .ok (.iload 5, 2) := by decide +kernel
theorem dX1_digest_102 : decode cX1_digest 102 = .ok (.bipush 8, 2) := by decide +kernel
theorem dX1_digest_104 : decode cX1_digest 104 = .ok (.if_icmp .ge 25, 3) := by decide +kernel
theorem dX1_digest_107 : decode cX1_digest 107 = .ok (.lload_n 1, 1) := by decide +kernel
theorem dX1_digest_108 : decode cX1_digest 108 = .ok (.ldc2_w 204, 3) := by decide +kernel
theorem dX1_digest_111 : decode cX1_digest 111 = .ok (.lmul, 1) := by decide +kernel
theorem dX1_digest_112 : decode cX1_digest 112 = .ok (.aload_n 0, 1) := by decide +kernel
theorem dX1_digest_113 : decode cX1_digest 113 = .ok (.aload 4, 2) := by decide +kernel
theorem dX1_digest_115 : decode cX1_digest 115 = .ok (.iload 5, 2) := by decide +kernel
theorem dX1_digest_117 : decode cX1_digest 117 = .ok (.invokevirtual 148, 3) := by decide +kernel
theorem dX1_digest_120 : decode cX1_digest 120 = .ok (.i2l, 1) := by decide +kernel
theorem dX1_digest_121 : decode cX1_digest 121 = .ok (.ladd, 1) := by decide +kernel
theorem dX1_digest_122 : decode cX1_digest 122 = .ok (.lstore_n 1, 1) := by decide +kernel
theorem dX1_digest_123 : decode cX1_digest 123 = .ok (.iinc 5 1, 3) := by decide +kernel
theorem dX1_digest_126 : decode cX1_digest 126 = .ok (.goto (-31), 3) := by decide +kernel
theorem dX1_digest_129 : decode cX1_digest 129 = .ok (.iinc 3 1, 3) := by decide +kernel
theorem dX1_digest_132 : decode cX1_digest 132 = .ok (.goto (-55), 3) := by decide +kernel
theorem dX1_digest_135 : decode cX1_digest 135 = .ok (.iconst 0, 1) := by decide +kernel
theorem dX1_digest_136 : decode cX1_digest 136 = .ok (.istore_n 3, 1) := by decide +kernel
theorem dX1_digest_137 : decode cX1_digest 137 = .ok (.iload_n 3, 1) := by decide +kernel
theorem dX1_digest_138 : decode cX1_digest 138 = .ok (.bipush 8, 2) := by decide +kernel
theorem dX1_digest_140 : decode cX1_digest 140 = .ok (.if_icmp .ge 23, 3) := by decide +kernel
theorem dX1_digest_143 : decode cX1_digest 143 = .ok (.lload_n 1, 1) := by decide +kernel
theorem dX1_digest_144 : decode cX1_digest 144 = .ok (.ldc2_w 204, 3) := by decide +kernel
theorem dX1_digest_147 : decode cX1_digest 147 = .ok (.lmul, 1) := by decide +kernel
theorem dX1_digest_148 : decode cX1_digest 148 = .ok (.aload_n 0, 1) := by decide +kernel
theorem dX1_digest_149 : decode cX1_digest 149 = .ok (.getfield 16, 3) := by decide +kernel
theorem dX1_digest_152 : decode cX1_digest 152 = .ok (.iload_n 3, 1) := by decide +kernel
theorem dX1_digest_153 : decode cX1_digest 153 = .ok (.iaload, 1) := by decide +kernel
theorem dX1_digest_154 : decode cX1_digest 154 = .ok (.i2l, 1) := by decide +kernel
theorem dX1_digest_155 : decode cX1_digest 155 = .ok (.ladd, 1) := by decide +kernel
theorem dX1_digest_156 : decode cX1_digest 156 = .ok (.lstore_n 1, 1) := by decide +kernel
theorem dX1_digest_157 : decode cX1_digest 157 = .ok (.iinc 3 1, 3) := by decide +kernel
theorem dX1_digest_160 : decode cX1_digest 160 = .ok (.goto (-23), 3) := by decide +kernel
theorem dX1_digest_163 : decode cX1_digest 163 = .ok (.lload_n 1, 1) := by decide +kernel
theorem dX1_digest_164 : decode cX1_digest 164 = .ok (.lreturn, 1) := by decide +kernel
theorem dX1_within_0 : decode cX1_within 0 = .ok (.iload_n 0, 1) := by decide +kernel
theorem dX1_within_1 : decode cX1_within 1 = .ok (.iload_n 1, 1) := by decide +kernel
theorem dX1_within_2 : decode cX1_within 2 = .ok (.if_icmp .lt 12, 3) := by decide +kernel
theorem dX1_within_5 : decode cX1_within 5 = .ok (.iload_n 0, 1) := by decide +kernel
theorem dX1_within_6 : decode cX1_within 6 = .ok (.iload_n 2, 1) := by decide +kernel
theorem dX1_within_7 : decode cX1_within 7 = .ok (.if_icmp .gt 7, 3) := by decide +kernel
theorem dX1_within_10 : decode cX1_within 10 = .ok (.iconst 1, 1) := by decide +kernel
theorem dX1_within_11 : decode cX1_within 11 = .ok (.goto 4, 3) := by decide +kernel
theorem dX1_within_14 : decode cX1_within 14 = .ok (.iconst 0, 1) := by decide +kernel
theorem dX1_within_15 : decode cX1_within 15 = .ok (.ireturn, 1) := by decide +kernel
set_option maxRecDepth 20000 in
theorem ggX1_isOnWall_X1_within : GoodIn wsX1_isOnWall wsX1_within := goodIn_r _ [4] (by decide +kernel) (by decide +kernel)
set_option maxRecDepth 20000 in
theorem gX1_isOnWall_X1_within : GoodIn wsX1_isOnWall (va_wsS RX1 38 yX1_within wsX1_within) := goodIn_app (goodIn_of _ (by decide +kernel)) ggX1_isOnWall_X1_within
theorem dX1_isOnWall_0 : decode cX1_isOnWall 0 = .ok (.iload_n 0, 1) := by decide +kernel
theorem dX1_isOnWall_1 : decode cX1_isOnWall 1 = .ok (.iconst 0, 1) := by decide +kernel
theorem dX1_isOnWall_2 : decode cX1_isOnWall 2 = .ok (.bipush 9, 2) := by decide +kernel
theorem dX1_isOnWall_4 : decode cX1_isOnWall 4 = .ok (.invokestatic 38, 3) := by decide +kernel
theorem dX1_isOnWall_7 : decode cX1_isOnWall 7 = .ok (.ifCond .eq 17, 3) := by decide +kernel
theorem dX1_isOnWall_10 : decode cX1_isOnWall 10 = .ok (.iload_n 1, 1) := by decide +kernel
theorem dX1_isOnWall_11 : decode cX1_isOnWall 11 = .ok (.iconst 0, 1) := by decide +kernel
theorem dX1_isOnWall_12 : decode cX1_isOnWall 12 = .ok (.bipush 7, 2) := by decide +kernel
theorem dX1_isOnWall_14 : decode cX1_isOnWall 14 = .ok (.invokestatic 38, 3) := by decide +kernel
theorem dX1_isOnWall_17 : decode cX1_isOnWall 17 = .ok (.ifCond .eq 7, 3) := by decide +kernel
theorem dX1_isOnWall_20 : decode cX1_isOnWall 20 = .ok (.iconst 1, 1) := by decide +kernel
theorem dX1_isOnWall_21 : decode cX1_isOnWall 21 = .ok (.goto 4, 3) := by decide +kernel
theorem dX1_isOnWall_24 : decode cX1_isOnWall 24 = .ok (.iconst 0, 1) := by decide +kernel
theorem dX1_isOnWall_25 : decode cX1_isOnWall 25 = .ok (.ireturn, 1) := by decide +kernel
set_option maxRecDepth 20000 in
theorem ggX1_isColour_X1_within : GoodIn wsX1_isColour wsX1_within := goodIn_r _ [4] (by decide +kernel) (by decide +kernel)
set_option maxRecDepth 20000 in
theorem gX1_isColour_X1_within : GoodIn wsX1_isColour (va_wsS RX1 38 yX1_within wsX1_within) := goodIn_app (goodIn_of _ (by decide +kernel)) ggX1_isColour_X1_within
theorem dX1_isColour_0 : decode cX1_isColour 0 = .ok (.iload_n 0, 1) := by decide +kernel
theorem dX1_isColour_1 : decode cX1_isColour 1 = .ok (.iconst 0, 1) := by decide +kernel
theorem dX1_isColour_2 : decode cX1_isColour 2 = .ok (.bipush 6, 2) := by decide +kernel
theorem dX1_isColour_4 : decode cX1_isColour 4 = .ok (.invokestatic 38, 3) := by decide +kernel
theorem dX1_isColour_7 : decode cX1_isColour 7 = .ok (.ireturn, 1) := by decide +kernel
set_option maxRecDepth 20000 in
theorem ggX1_refuseOutside_X1_isOnWall : GoodIn wsX1_refuseOutside wsX1_isOnWall := goodIn_r _ [6, 7, 8, 5, 9] (by decide +kernel) (by decide +kernel)
set_option maxRecDepth 20000 in
theorem gX1_refuseOutside_X1_isOnWall : GoodIn wsX1_refuseOutside (va_wsS RX1 206 yX1_isOnWall wsX1_isOnWall) := goodIn_app (goodIn_of _ (by decide +kernel)) ggX1_refuseOutside_X1_isOnWall
theorem dX1_refuseOutside_0 : decode cX1_refuseOutside 0 = .ok (.iload_n 0, 1) := by decide +kernel
theorem dX1_refuseOutside_1 : decode cX1_refuseOutside 1 = .ok (.iload_n 1, 1) := by decide +kernel
theorem dX1_refuseOutside_2 : decode cX1_refuseOutside 2 = .ok (.invokestatic 206, 3) := by decide +kernel
theorem dX1_refuseOutside_5 : decode cX1_refuseOutside 5 = .ok (.ifCond .ne 13, 3) := by decide +kernel
theorem dX1_refuseOutside_8 : decode cX1_refuseOutside 8 = .ok (.new 61, 3) := by decide +kernel
theorem dX1_refuseOutside_11 : decode cX1_refuseOutside 11 = .ok (.dup, 1) := by decide +kernel
theorem dX1_refuseOutside_12 : decode cX1_refuseOutside 12 = .ok (.ldc 210, 2) := by decide +kernel
theorem dX1_refuseOutside_14 : decode cX1_refuseOutside 14 = .ok (.invokespecial 65, 3) := by decide +kernel
theorem dX1_refuseOutside_17 : decode cX1_refuseOutside 17 = .ok (.athrow, 1) := by decide +kernel
theorem dX1_refuseOutside_18 : decode cX1_refuseOutside 18 = .ok (.return_, 1) := by decide +kernel
set_option maxRecDepth 20000 in
theorem ggX1_refuseNoPattern_X1_within : GoodIn wsX1_refuseNoPattern wsX1_within := goodIn_r _ [6] (by decide +kernel) (by decide +kernel)
set_option maxRecDepth 20000 in
theorem gX1_refuseNoPattern_X1_within : GoodIn wsX1_refuseNoPattern (va_wsS RX1 38 yX1_within wsX1_within) := goodIn_app (goodIn_of _ (by decide +kernel)) ggX1_refuseNoPattern_X1_within
set_option maxRecDepth 20000 in
theorem ggX1_refuseNoPattern_X1_isColour : GoodIn wsX1_refuseNoPattern wsX1_isColour := goodIn_r _ [9, 3, 4, 5, 6] (by decide +kernel) (by decide +kernel)
set_option maxRecDepth 20000 in
theorem gX1_refuseNoPattern_X1_isColour : GoodIn wsX1_refuseNoPattern (va_wsS RX1 68 yX1_isColour wsX1_isColour) := goodIn_app (goodIn_of _ (by decide +kernel)) ggX1_refuseNoPattern_X1_isColour
theorem dX1_refuseNoPattern_0 : decode cX1_refuseNoPattern 0 = .ok (.iload_n 0, 1) := by decide +kernel
theorem dX1_refuseNoPattern_1 : decode cX1_refuseNoPattern 1 = .ok (.iconst 0, 1) := by decide +kernel
theorem dX1_refuseNoPattern_2 : decode cX1_refuseNoPattern 2 = .ok (.iconst 3, 1) := by decide +kernel
theorem dX1_refuseNoPattern_3 : decode cX1_refuseNoPattern 3 = .ok (.invokestatic 38, 3) := by decide +kernel
theorem dX1_refuseNoPattern_6 : decode cX1_refuseNoPattern 6 = .ok (.ifCond .eq 17, 3) := by decide +kernel
theorem dX1_refuseNoPattern_9 : decode cX1_refuseNoPattern 9 = .ok (.iload_n 1, 1) := by decide +kernel
theorem dX1_refuseNoPattern_10 : decode cX1_refuseNoPattern 10 = .ok (.invokestatic 68, 3) := by decide +kernel
theorem dX1_refuseNoPattern_13 : decode cX1_refuseNoPattern 13 = .ok (.ifCond .eq 10, 3) := by decide +kernel
theorem dX1_refuseNoPattern_16 : decode cX1_refuseNoPattern 16 = .ok (.iload_n 2, 1) := by decide +kernel
theorem dX1_refuseNoPattern_17 : decode cX1_refuseNoPattern 17 = .ok (.invokestatic 68, 3) := by decide +kernel
theorem dX1_refuseNoPattern_20 : decode cX1_refuseNoPattern 20 = .ok (.ifCond .ne 13, 3) := by decide +kernel
theorem dX1_refuseNoPattern_23 : decode cX1_refuseNoPattern 23 = .ok (.new 42, 3) := by decide +kernel
theorem dX1_refuseNoPattern_26 : decode cX1_refuseNoPattern 26 = .ok (.dup, 1) := by decide +kernel
theorem dX1_refuseNoPattern_27 : decode cX1_refuseNoPattern 27 = .ok (.ldc 212, 2) := by decide +kernel
theorem dX1_refuseNoPattern_29 : decode cX1_refuseNoPattern 29 = .ok (.invokespecial 46, 3) := by decide +kernel
theorem dX1_refuseNoPattern_32 : decode cX1_refuseNoPattern 32 = .ok (.athrow, 1) := by decide +kernel
theorem dX1_refuseNoPattern_33 : decode cX1_refuseNoPattern 33 = .ok (.return_, 1) := by decide +kernel
theorem dX1_cellOf_0 : decode cX1_cellOf 0 = .ok (.bipush 10, 2) := by decide +kernel
theorem dX1_cellOf_2 : decode cX1_cellOf 2 = .ok (.iload_n 1, 1) := by decide +kernel
theorem dX1_cellOf_3 : decode cX1_cellOf 3 = .ok (.imul, 1) := by decide +kernel
theorem dX1_cellOf_4 : decode cX1_cellOf 4 = .ok (.iload_n 0, 1) := by decide +kernel
theorem dX1_cellOf_5 : decode cX1_cellOf 5 = .ok (.iadd, 1) := by decide +kernel
theorem dX1_cellOf_6 : decode cX1_cellOf 6 = .ok (.ireturn, 1) := by decide +kernel
set_option maxRecDepth 20000 in
theorem ggX1_at_X1_within : GoodIn wsX1_at wsX1_within := goodIn_r _ [4] (by decide +kernel) (by decide +kernel)
set_option maxRecDepth 20000 in
theorem gX1_at_X1_within : GoodIn wsX1_at (va_wsS RX1 38 yX1_within wsX1_within) := goodIn_app (goodIn_of _ (by decide +kernel)) ggX1_at_X1_within
theorem dX1_at_0 : decode cX1_at 0 = .ok (.iload_n 1, 1) := by decide +kernel
theorem dX1_at_1 : decode cX1_at 1 = .ok (.iconst 0, 1) := by decide +kernel
theorem dX1_at_2 : decode cX1_at 2 = .ok (.aload_n 0, 1) := by decide +kernel
theorem dX1_at_3 : decode cX1_at 3 = .ok (.arraylength, 1) := by decide +kernel
theorem dX1_at_4 : decode cX1_at 4 = .ok (.iconst 1, 1) := by decide +kernel
theorem dX1_at_5 : decode cX1_at 5 = .ok (.isub, 1) := by decide +kernel
theorem dX1_at_6 : decode cX1_at 6 = .ok (.invokestatic 38, 3) := by decide +kernel
theorem dX1_at_9 : decode cX1_at 9 = .ok (.ifCond .eq 9, 3) := by decide +kernel
theorem dX1_at_12 : decode cX1_at 12 = .ok (.aload_n 0, 1) := by decide +kernel
theorem dX1_at_13 : decode cX1_at 13 = .ok (.iload_n 1, 1) := by decide +kernel
theorem dX1_at_14 : decode cX1_at 14 = .ok (.iaload, 1) := by decide +kernel
theorem dX1_at_15 : decode cX1_at 15 = .ok (.goto 4, 3) := by decide +kernel
theorem dX1_at_18 : decode cX1_at 18 = .ok (.iconst (-1), 1) := by decide +kernel
theorem dX1_at_19 : decode cX1_at 19 = .ok (.ireturn, 1) := by decide +kernel
set_option maxRecDepth 20000 in
theorem ggX1_put_X1_within : GoodIn wsX1_put wsX1_within := goodIn_r _ [4] (by decide +kernel) (by decide +kernel)
set_option maxRecDepth 20000 in
theorem gX1_put_X1_within : GoodIn wsX1_put (va_wsS RX1 38 yX1_within wsX1_within) := goodIn_app (goodIn_of _ (by decide +kernel)) ggX1_put_X1_within
theorem dX1_put_0 : decode cX1_put 0 = .ok (.iload_n 1, 1) := by decide +kernel
theorem dX1_put_1 : decode cX1_put 1 = .ok (.iconst 0, 1) := by decide +kernel
theorem dX1_put_2 : decode cX1_put 2 = .ok (.aload_n 0, 1) := by decide +kernel
theorem dX1_put_3 : decode cX1_put 3 = .ok (.arraylength, 1) := by decide +kernel
theorem dX1_put_4 : decode cX1_put 4 = .ok (.iconst 1, 1) := by decide +kernel
theorem dX1_put_5 : decode cX1_put 5 = .ok (.isub, 1) := by decide +kernel
theorem dX1_put_6 : decode cX1_put 6 = .ok (.invokestatic 38, 3) := by decide +kernel
theorem dX1_put_9 : decode cX1_put 9 = .ok (.ifCond .eq 7, 3) := by decide +kernel
theorem dX1_put_12 : decode cX1_put 12 = .ok (.aload_n 0, 1) := by decide +kernel
theorem dX1_put_13 : decode cX1_put 13 = .ok (.iload_n 1, 1) := by decide +kernel
theorem dX1_put_14 : decode cX1_put 14 = .ok (.iload_n 2, 1) := by decide +kernel
theorem dX1_put_15 : decode cX1_put 15 = .ok (.iastore, 1) := by decide +kernel
theorem dX1_put_16 : decode cX1_put 16 = .ok (.return_, 1) := by decide +kernel
theorem dX1_cellsFrom_0 : decode cX1_cellsFrom 0 = .ok (.iconst 0, 1) := by decide +kernel
theorem dX1_cellsFrom_1 : decode cX1_cellsFrom 1 = .ok (.istore_n 2, 1) := by decide +kernel
theorem dX1_cellsFrom_2 : decode cX1_cellsFrom 2 = .ok (.iconst 0, 1) := by decide +kernel
theorem dX1_cellsFrom_3 : decode cX1_cellsFrom 3 = .ok (.istore_n 3, 1) := by decide +kernel
theorem dX1_cellsFrom_4 : decode cX1_cellsFrom 4 = .ok (.iload_n 3, 1) := by decide +kernel
theorem dX1_cellsFrom_5 : decode cX1_cellsFrom 5 = .ok (.aload_n 0, 1) := by decide +kernel
theorem dX1_cellsFrom_6 : decode cX1_cellsFrom 6 = .ok (.arraylength, 1) := by decide +kernel
theorem dX1_cellsFrom_7 : decode cX1_cellsFrom 7 = .ok (.if_icmp .ge 19, 3) := by decide +kernel
theorem dX1_cellsFrom_10 : decode cX1_cellsFrom 10 = .ok (.aload_n 0, 1) := by decide +kernel
theorem dX1_cellsFrom_11 : decode cX1_cellsFrom 11 = .ok (.iload_n 3, 1) := by decide +kernel
theorem dX1_cellsFrom_12 : decode cX1_cellsFrom 12 = .ok (.iaload, 1) := by decide +kernel
theorem dX1_cellsFrom_13 : decode cX1_cellsFrom 13 = .ok (.iload_n 1, 1) := by decide +kernel
theorem dX1_cellsFrom_14 : decode cX1_cellsFrom 14 = .ok (.if_icmp .lt 6, 3) := by decide +kernel
theorem dX1_cellsFrom_17 : decode cX1_cellsFrom 17 = .ok (.iinc 2 1, 3) := by decide +kernel
theorem dX1_cellsFrom_20 : decode cX1_cellsFrom 20 = .ok (.iinc 3 1, 3) := by decide +kernel
theorem dX1_cellsFrom_23 : decode cX1_cellsFrom 23 = .ok (.goto (-19), 3) := by decide +kernel
theorem dX1_cellsFrom_26 : decode cX1_cellsFrom 26 = .ok (.iload_n 2, 1) := by decide +kernel
theorem dX1_cellsFrom_27 : decode cX1_cellsFrom 27 = .ok (.ireturn, 1) := by decide +kernel
set_option maxRecDepth 20000 in
theorem ggX1_find_X1_within : GoodIn wsX1_find wsX1_within := goodIn_r _ [6] (by decide +kernel) (by decide +kernel)
set_option maxRecDepth 20000 in
theorem gX1_find_X1_within : GoodIn wsX1_find (va_wsS RX1 38 yX1_within wsX1_within) := goodIn_app (goodIn_of _ (by decide +kernel)) ggX1_find_X1_within
theorem dX1_find_0 : decode cX1_find 0 = .ok (.iload_n 1, 1) := by decide +kernel
theorem dX1_find_1 : decode cX1_find 1 = .ok (.iconst 0, 1) := by decide +kernel
theorem dX1_find_2 : decode cX1_find 2 = .ok (.aload_n 0, 1) := by decide +kernel
theorem dX1_find_3 : decode cX1_find 3 = .ok (.getfield 74, 3) := by decide +kernel
theorem dX1_find_6 : decode cX1_find 6 = .ok (.iconst 1, 1) := by decide +kernel
theorem dX1_find_7 : decode cX1_find 7 = .ok (.isub, 1) := by decide +kernel
theorem dX1_find_8 : decode cX1_find 8 = .ok (.invokestatic 38, 3) := by decide +kernel
theorem dX1_find_11 : decode cX1_find 11 = .ok (.ifCond .eq 21, 3) := by decide +kernel
theorem dX1_find_14 : decode cX1_find 14 = .ok (.iload_n 1, 1) := by decide +kernel
theorem dX1_find_15 : decode cX1_find 15 = .ok (.aload_n 0, 1) := by decide +kernel
theorem dX1_find_16 : decode cX1_find 16 = .ok (.getfield 21, 3) := by decide +kernel
theorem dX1_find_19 : decode cX1_find 19 = .ok (.arraylength, 1) := by decide +kernel
theorem dX1_find_20 : decode cX1_find 20 = .ok (.if_icmp .ge 12, 3) := by decide +kernel
theorem dX1_find_23 : decode cX1_find 23 = .ok (.aload_n 0, 1) := by decide +kernel
theorem dX1_find_24 : decode cX1_find 24 = .ok (.getfield 21, 3) := by decide +kernel
theorem dX1_find_27 : decode cX1_find 27 = .ok (.iload_n 1, 1) := by decide +kernel
theorem dX1_find_28 : decode cX1_find 28 = .ok (.aaload, 1) := by decide +kernel
theorem dX1_find_29 : decode cX1_find 29 = .ok (.goto 4, 3) := by decide +kernel
theorem dX1_find_32 : decode cX1_find 32 = .ok (.aconst_null, 1) := by decide +kernel
theorem dX1_find_33 : decode cX1_find 33 = .ok (.areturn, 1) := by decide +kernel
set_option maxRecDepth 20000 in
theorem ggX1_isLoose_X0_cellAt : GoodIn wsX1_isLoose wsX0_cellAt := goodIn_r _ [7, 8, 9, 10, 11, 12, 13, 20, 21, 22, 23, 24, 25, 26, 27] (by decide +kernel) (by decide +kernel)
set_option maxRecDepth 20000 in
theorem gX1_isLoose_X0_cellAt : GoodIn wsX1_isLoose (wsV RX1 113 RX0 yX0_cellAt wsX0_cellAt) := goodIn_app (goodIn_of _ (by decide +kernel)) ggX1_isLoose_X0_cellAt
set_option maxRecDepth 20000 in
theorem ggX1_isLoose_X1_at : GoodIn wsX1_isLoose wsX1_at := goodIn_r _ [16, 17, 18, 12, 19] (by decide +kernel) (by decide +kernel)
set_option maxRecDepth 20000 in
theorem gX1_isLoose_X1_at : GoodIn wsX1_isLoose (va_wsS RX1 53 yX1_at wsX1_at) := goodIn_app (goodIn_of _ (by decide +kernel)) ggX1_isLoose_X1_at
theorem dX1_isLoose_0 : decode cX1_isLoose 0 = .ok (.aload_n 0, 1) := by decide +kernel
theorem dX1_isLoose_1 : decode cX1_isLoose 1 = .ok (.getfield 132, 3) := by decide +kernel
theorem dX1_isLoose_4 : decode cX1_isLoose 4 = .ok (.ifCond .eq 5, 3) := by decide +kernel
theorem dX1_isLoose_7 : decode cX1_isLoose 7 = .ok (.iconst 0, 1) := by decide +kernel
theorem dX1_isLoose_8 : decode cX1_isLoose 8 = .ok (.ireturn, 1) := by decide +kernel
theorem dX1_isLoose_9 : decode cX1_isLoose 9 = .ok (.iconst 0, 1) := by decide +kernel
theorem dX1_isLoose_10 : decode cX1_isLoose 10 = .ok (.istore_n 2, 1) := by decide +kernel
theorem dX1_isLoose_11 : decode cX1_isLoose 11 = .ok (.iload_n 2, 1) := by decide +kernel
theorem dX1_isLoose_12 : decode cX1_isLoose 12 = .ok (.aload_n 0, 1) := by decide +kernel
theorem dX1_isLoose_13 : decode cX1_isLoose 13 = .ok (.getfield 110, 3) := by decide +kernel
theorem dX1_isLoose_16 : decode cX1_isLoose 16 = .ok (.if_icmp .ge 24, 3) := by decide +kernel
theorem dX1_isLoose_19 : decode cX1_isLoose 19 = .ok (.aload_n 1, 1) := by decide +kernel
theorem dX1_isLoose_20 : decode cX1_isLoose 20 = .ok (.aload_n 0, 1) := by decide +kernel
theorem dX1_isLoose_21 : decode cX1_isLoose 21 = .ok (.iload_n 2, 1) := by decide +kernel
theorem dX1_isLoose_22 : decode cX1_isLoose 22 = .ok (.invokevirtual 113, 3) := by decide +kernel
theorem dX1_isLoose_25 : decode cX1_isLoose 25 = .ok (.invokestatic 53, 3) := by decide +kernel
theorem dX1_isLoose_28 : decode cX1_isLoose 28 = .ok (.iconst 1, 1) := by decide +kernel
theorem dX1_isLoose_29 : decode cX1_isLoose 29 = .ok (.if_icmp .ge 5, 3) := by decide +kernel
theorem dX1_isLoose_32 : decode cX1_isLoose 32 = .ok (.iconst 0, 1) := by decide +kernel
theorem dX1_isLoose_33 : decode cX1_isLoose 33 = .ok (.ireturn, 1) := by decide +kernel
theorem dX1_isLoose_34 : decode cX1_isLoose 34 = .ok (.iinc 2 1, 3) := by decide +kernel
theorem dX1_isLoose_37 : decode cX1_isLoose 37 = .ok (.goto (-26), 3) := by decide +kernel
theorem dX1_isLoose_40 : decode cX1_isLoose 40 = .ok (.iconst 1, 1) := by decide +kernel
theorem dX1_isLoose_41 : decode cX1_isLoose 41 = .ok (.ireturn, 1) := by decide +kernel
set_option maxRecDepth 20000 in
theorem ggX1_hasRoom_X1_isOnWall : GoodIn wsX1_hasRoom wsX1_isOnWall := goodIn_r _ [4, 5, 6, 3, 7] (by decide +kernel) (by decide +kernel)
set_option maxRecDepth 20000 in
theorem gX1_hasRoom_X1_isOnWall : GoodIn wsX1_hasRoom (va_wsS RX1 206 yX1_isOnWall wsX1_isOnWall) := goodIn_app (goodIn_of _ (by decide +kernel)) ggX1_hasRoom_X1_isOnWall
set_option maxRecDepth 20000 in
theorem ggX1_hasRoom_X1_cellOf : GoodIn wsX1_hasRoom wsX1_cellOf := goodIn_r _ [10] (by decide +kernel) (by decide +kernel)
set_option maxRecDepth 20000 in
theorem gX1_hasRoom_X1_cellOf : GoodIn wsX1_hasRoom (va_wsS RX1 49 yX1_cellOf wsX1_cellOf) := goodIn_app (goodIn_of _ (by decide +kernel)) ggX1_hasRoom_X1_cellOf
set_option maxRecDepth 20000 in
theorem ggX1_hasRoom_X1_isFree : GoodIn wsX1_hasRoom wsX1_isFree := goodIn_r _ [14, 15, 16, 17, 18, 3, 19, 5, 6, 7, 20, 21, 22, 23, 24, 25, 26, 27, 28] (by decide +kernel) (by decide +kernel)
set_option maxRecDepth 20000 in
theorem gX1_hasRoom_X1_isFree : GoodIn wsX1_hasRoom (wsV RX1 214 RX1 yX1_isFree wsX1_isFree) := goodIn_app (goodIn_of _ (by decide +kernel)) ggX1_hasRoom_X1_isFree
theorem dX1_hasRoom_0 : decode cX1_hasRoom 0 = .ok (.iconst 0, 1) := by decide +kernel
theorem dX1_hasRoom_1 : decode cX1_hasRoom 1 = .ok (.istore 6, 2) := by decide +kernel
theorem dX1_hasRoom_3 : decode cX1_hasRoom 3 = .ok (.iload 6, 2) := by decide +kernel
theorem dX1_hasRoom_5 : decode cX1_hasRoom 5 = .ok (.iload_n 3, 1) := by decide +kernel
theorem dX1_hasRoom_6 : decode cX1_hasRoom 6 = .ok (.if_icmp .ge 67, 3) := by decide +kernel
theorem dX1_hasRoom_9 : decode cX1_hasRoom 9 = .ok (.iload 4, 2) := by decide +kernel
theorem dX1_hasRoom_11 : decode cX1_hasRoom 11 = .ok (.ifCond .eq 10, 3) := by decide +kernel
theorem dX1_hasRoom_14 : decode cX1_hasRoom 14 = .ok (.iload_n 1, 1) := by decide +kernel
theorem dX1_hasRoom_15 : decode cX1_hasRoom 15 = .ok (.iload 6, 2) := by decide +kernel
theorem dX1_hasRoom_17 : decode cX1_hasRoom 17 = .ok (.iadd, 1) := by decide +kernel
theorem dX1_hasRoom_18 : decode cX1_hasRoom 18 = .ok (.goto 4, 3) := by decide +kernel
theorem dX1_hasRoom_21 : decode cX1_hasRoom 21 = .ok (.iload_n 1, 1) := by decide +kernel
theorem dX1_hasRoom_22 : decode cX1_hasRoom 22 = .ok (.istore 7, 2) := by decide +kernel
theorem dX1_hasRoom_24 : decode cX1_hasRoom 24 = .ok (.iload 4, 2) := by decide +kernel
theorem dX1_hasRoom_26 : decode cX1_hasRoom 26 = .ok (.ifCond .eq 7, 3) := by decide +kernel
theorem dX1_hasRoom_29 : decode cX1_hasRoom 29 = .ok (.iload_n 2, 1) := by decide +kernel
theorem dX1_hasRoom_30 : decode cX1_hasRoom 30 = .ok (.goto 7, 3) := by decide +kernel
theorem dX1_hasRoom_33 : decode cX1_hasRoom 33 = .ok (.iload_n 2, 1) := by decide +kernel
theorem dX1_hasRoom_34 : decode cX1_hasRoom 34 = .ok (.iload 6, 2) := by decide +kernel
theorem dX1_hasRoom_36 : decode cX1_hasRoom 36 = .ok (.iadd, 1) := by decide +kernel
theorem dX1_hasRoom_37 : decode cX1_hasRoom 37 = .ok (.istore 8, 2) := by decide +kernel
theorem dX1_hasRoom_39 : decode cX1_hasRoom 39 = .ok (.iload 7, 2) := by decide +kernel
theorem dX1_hasRoom_41 : decode cX1_hasRoom 41 = .ok (.iload 8, 2) := by decide +kernel
theorem dX1_hasRoom_43 : decode cX1_hasRoom 43 = .ok (.invokestatic 206, 3) := by decide +kernel
theorem dX1_hasRoom_46 : decode cX1_hasRoom 46 = .ok (.ifCond .eq 19, 3) := by decide +kernel
theorem dX1_hasRoom_49 : decode cX1_hasRoom 49 = .ok (.aload_n 0, 1) := by decide +kernel
theorem dX1_hasRoom_50 : decode cX1_hasRoom 50 = .ok (.iload 7, 2) := by decide +kernel
theorem dX1_hasRoom_52 : decode cX1_hasRoom 52 = .ok (.iload 8, 2) := by decide +kernel
theorem dX1_hasRoom_54 : decode cX1_hasRoom 54 = .ok (.invokestatic 49, 3) := by decide +kernel
theorem dX1_hasRoom_57 : decode cX1_hasRoom 57 = .ok (.iload 5, 2) := by decide +kernel
theorem dX1_hasRoom_59 : decode cX1_hasRoom 59 = .ok (.invokevirtual 214, 3) := by decide +kernel
theorem dX1_hasRoom_62 : decode cX1_hasRoom 62 = .ok (.ifCond .ne 5, 3) := by decide +kernel
theorem dX1_hasRoom_65 : decode cX1_hasRoom 65 = .ok (.iconst 0, 1) := by decide +kernel
theorem dX1_hasRoom_66 : decode cX1_hasRoom 66 = .ok (.ireturn, 1) := by decide +kernel
theorem dX1_hasRoom_67 : decode cX1_hasRoom 67 = .ok (.iinc 6 1, 3) := by decide +kernel
theorem dX1_hasRoom_70 : decode cX1_hasRoom 70 = .ok (.goto (-67), 3) := by decide +kernel
theorem dX1_hasRoom_73 : decode cX1_hasRoom 73 = .ok (.iconst 1, 1) := by decide +kernel
theorem dX1_hasRoom_74 : decode cX1_hasRoom 74 = .ok (.ireturn, 1) := by decide +kernel
set_option maxRecDepth 20000 in
theorem ggX1_isFree_X1_at : GoodIn wsX1_isFree wsX1_at := goodIn_r _ [6, 7, 8, 5, 9] (by decide +kernel) (by decide +kernel)
set_option maxRecDepth 20000 in
theorem gX1_isFree_X1_at : GoodIn wsX1_isFree (va_wsS RX1 53 yX1_at wsX1_at) := goodIn_app (goodIn_of _ (by decide +kernel)) ggX1_isFree_X1_at
theorem dX1_isFree_0 : decode cX1_isFree 0 = .ok (.aload_n 0, 1) := by decide +kernel
theorem dX1_isFree_1 : decode cX1_isFree 1 = .ok (.getfield 13, 3) := by decide +kernel
theorem dX1_isFree_4 : decode cX1_isFree 4 = .ok (.iload_n 1, 1) := by decide +kernel
theorem dX1_isFree_5 : decode cX1_isFree 5 = .ok (.invokestatic 53, 3) := by decide +kernel
theorem dX1_isFree_8 : decode cX1_isFree 8 = .ok (.istore_n 3, 1) := by decide +kernel
theorem dX1_isFree_9 : decode cX1_isFree 9 = .ok (.aload_n 0, 1) := by decide +kernel
theorem dX1_isFree_10 : decode cX1_isFree 10 = .ok (.getfield 9, 3) := by decide +kernel
theorem dX1_isFree_13 : decode cX1_isFree 13 = .ok (.iload_n 1, 1) := by decide +kernel
theorem dX1_isFree_14 : decode cX1_isFree 14 = .ok (.invokestatic 53, 3) := by decide +kernel
theorem dX1_isFree_17 : decode cX1_isFree 17 = .ok (.iconst 1, 1) := by decide +kernel
theorem dX1_isFree_18 : decode cX1_isFree 18 = .ok (.if_icmp .lt 17, 3) := by decide +kernel
theorem dX1_isFree_21 : decode cX1_isFree 21 = .ok (.iload_n 3, 1) := by decide +kernel
theorem dX1_isFree_22 : decode cX1_isFree 22 = .ok (.iconst (-1), 1) := by decide +kernel
theorem dX1_isFree_23 : decode cX1_isFree 23 = .ok (.if_icmp .eq 8, 3) := by decide +kernel
theorem dX1_isFree_26 : decode cX1_isFree 26 = .ok (.iload_n 3, 1) := by decide +kernel
theorem dX1_isFree_27 : decode cX1_isFree 27 = .ok (.iload_n 2, 1) := by decide +kernel
theorem dX1_isFree_28 : decode cX1_isFree 28 = .ok (.if_icmp .ne 7, 3) := by decide +kernel
theorem dX1_isFree_31 : decode cX1_isFree 31 = .ok (.iconst 1, 1) := by decide +kernel
theorem dX1_isFree_32 : decode cX1_isFree 32 = .ok (.goto 4, 3) := by decide +kernel
theorem dX1_isFree_35 : decode cX1_isFree 35 = .ok (.iconst 0, 1) := by decide +kernel
theorem dX1_isFree_36 : decode cX1_isFree 36 = .ok (.ireturn, 1) := by decide +kernel
set_option maxRecDepth 20000 in
theorem ggX1_setCover_X0_cellAt : GoodIn wsX1_setCover wsX0_cellAt := goodIn_r _ [7, 8, 9, 10, 11, 12, 13, 20, 21, 22, 23, 24, 25, 26, 27] (by decide +kernel) (by decide +kernel)
set_option maxRecDepth 20000 in
theorem gX1_setCover_X0_cellAt : GoodIn wsX1_setCover (wsV RX1 113 RX0 yX0_cellAt wsX0_cellAt) := goodIn_app (goodIn_of _ (by decide +kernel)) ggX1_setCover_X0_cellAt
set_option maxRecDepth 20000 in
theorem ggX1_setCover_X1_put : GoodIn wsX1_setCover wsX1_put := goodIn_r _ [16, 17, 18, 12, 19] (by decide +kernel) (by decide +kernel)
set_option maxRecDepth 20000 in
theorem gX1_setCover_X1_put : GoodIn wsX1_setCover (va_wsS RX1 57 yX1_put wsX1_put) := goodIn_app (goodIn_of _ (by decide +kernel)) ggX1_setCover_X1_put
theorem dX1_setCover_0 : decode cX1_setCover 0 = .ok (.iconst 0, 1) := by decide +kernel
theorem dX1_setCover_1 : decode cX1_setCover 1 = .ok (.istore_n 3, 1) := by decide +kernel
theorem dX1_setCover_2 : decode cX1_setCover 2 = .ok (.iload_n 3, 1) := by decide +kernel
theorem dX1_setCover_3 : decode cX1_setCover 3 = .ok (.aload_n 1, 1) := by decide +kernel
theorem dX1_setCover_4 : decode cX1_setCover 4 = .ok (.getfield 110, 3) := by decide +kernel
theorem dX1_setCover_7 : decode cX1_setCover 7 = .ok (.if_icmp .ge 22, 3) := by decide +kernel
theorem dX1_setCover_10 : decode cX1_setCover 10 = .ok (.aload_n 0, 1) := by decide +kernel
theorem dX1_setCover_11 : decode cX1_setCover 11 = .ok (.getfield 13, 3) := by decide +kernel
theorem dX1_setCover_14 : decode cX1_setCover 14 = .ok (.aload_n 1, 1) := by decide +kernel
theorem dX1_setCover_15 : decode cX1_setCover 15 = .ok (.iload_n 3, 1) := by decide +kernel
theorem dX1_setCover_16 : decode cX1_setCover 16 = .ok (.invokevirtual 113, 3) := by decide +kernel
theorem dX1_setCover_19 : decode cX1_setCover 19 = .ok (.iload_n 2, 1) := by decide +kernel
theorem dX1_setCover_20 : decode cX1_setCover 20 = .ok (.invokestatic 57, 3) := by decide +kernel
theorem dX1_setCover_23 : decode cX1_setCover 23 = .ok (.iinc 3 1, 3) := by decide +kernel
theorem dX1_setCover_26 : decode cX1_setCover 26 = .ok (.goto (-24), 3) := by decide +kernel
theorem dX1_setCover_29 : decode cX1_setCover 29 = .ok (.return_, 1) := by decide +kernel
set_option maxRecDepth 20000 in
theorem ggX1_removeMortar_X0_cellAt : GoodIn wsX1_removeMortar wsX0_cellAt := goodIn_r _ [7, 8, 9, 10, 11, 12, 13, 20, 21, 22, 23, 24, 25, 26, 27] (by decide +kernel) (by decide +kernel)
set_option maxRecDepth 20000 in
theorem gX1_removeMortar_X0_cellAt : GoodIn wsX1_removeMortar (wsV RX1 113 RX0 yX0_cellAt wsX0_cellAt) := goodIn_app (goodIn_of _ (by decide +kernel)) ggX1_removeMortar_X0_cellAt
set_option maxRecDepth 20000 in
theorem ggX1_removeMortar_X1_put : GoodIn wsX1_removeMortar wsX1_put := goodIn_r _ [16, 17, 18, 12, 19] (by decide +kernel) (by decide +kernel)
set_option maxRecDepth 20000 in
theorem gX1_removeMortar_X1_put : GoodIn wsX1_removeMortar (va_wsS RX1 57 yX1_put wsX1_put) := goodIn_app (goodIn_of _ (by decide +kernel)) ggX1_removeMortar_X1_put
theorem dX1_removeMortar_0 : decode cX1_removeMortar 0 = .ok (.iconst 0, 1) := by decide +kernel
theorem dX1_removeMortar_1 : decode cX1_removeMortar 1 = .ok (.istore_n 2, 1) := by decide +kernel
theorem dX1_removeMortar_2 : decode cX1_removeMortar 2 = .ok (.iload_n 2, 1) := by decide +kernel
theorem dX1_removeMortar_3 : decode cX1_removeMortar 3 = .ok (.aload_n 1, 1) := by decide +kernel
theorem dX1_removeMortar_4 : decode cX1_removeMortar 4 = .ok (.getfield 110, 3) := by decide +kernel
theorem dX1_removeMortar_7 : decode cX1_removeMortar 7 = .ok (.if_icmp .ge 22, 3) := by decide +kernel
theorem dX1_removeMortar_10 : decode cX1_removeMortar 10 = .ok (.aload_n 0, 1) := by decide +kernel
theorem dX1_removeMortar_11 : decode cX1_removeMortar 11 = .ok (.getfield 9, 3) := by decide +kernel
theorem dX1_removeMortar_14 : decode cX1_removeMortar 14 = .ok (.aload_n 1, 1) := by decide +kernel
theorem dX1_removeMortar_15 : decode cX1_removeMortar 15 = .ok (.iload_n 2, 1) := by decide +kernel
theorem dX1_removeMortar_16 : decode cX1_removeMortar 16 = .ok (.invokevirtual 113, 3) := by decide +kernel
theorem dX1_removeMortar_19 : decode cX1_removeMortar 19 = .ok (.iconst (-1), 1) := by decide +kernel
theorem dX1_removeMortar_20 : decode cX1_removeMortar 20 = .ok (.invokestatic 57, 3) := by decide +kernel
theorem dX1_removeMortar_23 : decode cX1_removeMortar 23 = .ok (.iinc 2 1, 3) := by decide +kernel
theorem dX1_removeMortar_26 : decode cX1_removeMortar 26 = .ok (.goto (-24), 3) := by decide +kernel
theorem dX1_removeMortar_29 : decode cX1_removeMortar 29 = .ok (.return_, 1) := by decide +kernel
set_option maxRecDepth 20000 in
theorem ggX1_piecesIn_X1_find : GoodIn wsX1_piecesIn wsX1_find := goodIn_r _ [7, 1, 8, 9, 10, 6, 11, 12, 13, 14, 15, 16, 17, 18, 19, 20] (by decide +kernel) (by decide +kernel)
set_option maxRecDepth 20000 in
theorem gX1_piecesIn_X1_find : GoodIn wsX1_piecesIn (wsV RX1 94 RX1 yX1_find wsX1_find) := goodIn_app (goodIn_of _ (by decide +kernel)) ggX1_piecesIn_X1_find
theorem dX1_piecesIn_0 : decode cX1_piecesIn 0 = .ok (.iconst 0, 1) := by decide +kernel
theorem dX1_piecesIn_1 : decode cX1_piecesIn 1 = .ok (.istore_n 1, 1) := by decide +kernel
theorem dX1_piecesIn_2 : decode cX1_piecesIn 2 = .ok (.iconst 0, 1) := by decide +kernel
theorem dX1_piecesIn_3 : decode cX1_piecesIn 3 = .ok (.istore_n 2, 1) := by decide +kernel
theorem dX1_piecesIn_4 : decode cX1_piecesIn 4 = .ok (.iload_n 2, 1) := by decide +kernel
theorem dX1_piecesIn_5 : decode cX1_piecesIn 5 = .ok (.aload_n 0, 1) := by decide +kernel
theorem dX1_piecesIn_6 : decode cX1_piecesIn 6 = .ok (.getfield 74, 3) := by decide +kernel
theorem dX1_piecesIn_9 : decode cX1_piecesIn 9 = .ok (.if_icmp .ge 29, 3) := by decide +kernel
theorem dX1_piecesIn_12 : decode cX1_piecesIn 12 = .ok (.aload_n 0, 1) := by decide +kernel
theorem dX1_piecesIn_13 : decode cX1_piecesIn 13 = .ok (.iload_n 2, 1) := by decide +kernel
theorem dX1_piecesIn_14 : decode cX1_piecesIn 14 = .ok (.invokevirtual 94, 3) := by decide +kernel
theorem dX1_piecesIn_17 : decode cX1_piecesIn 17 = .ok (.astore_n 3, 1) := by decide +kernel
theorem dX1_piecesIn_18 : decode cX1_piecesIn 18 = .ok (.aload_n 3, 1) := by decide +kernel
theorem dX1_piecesIn_19 : decode cX1_piecesIn 19 = .ok (.ifnull 13, 3) := by decide +kernel
theorem dX1_piecesIn_22 : decode cX1_piecesIn 22 = .ok (.aload_n 3, 1) := by decide +kernel
theorem dX1_piecesIn_23 : decode cX1_piecesIn 23 = .ok (.getfield 132, 3) := by decide +kernel
theorem dX1_piecesIn_26 : decode cX1_piecesIn 26 = .ok (.ifCond .ne 6, 3) := by decide +kernel
theorem dX1_piecesIn_29 : decode cX1_piecesIn 29 = .ok (.iinc 1 1, 3) := by decide +kernel
theorem dX1_piecesIn_32 : decode cX1_piecesIn 32 = .ok (.iinc 2 1, 3) := by decide +kernel
theorem dX1_piecesIn_35 : decode cX1_piecesIn 35 = .ok (.goto (-31), 3) := by decide +kernel
theorem dX1_piecesIn_38 : decode cX1_piecesIn 38 = .ok (.iload_n 1, 1) := by decide +kernel
theorem dX1_piecesIn_39 : decode cX1_piecesIn 39 = .ok (.ireturn, 1) := by decide +kernel
set_option maxRecDepth 20000 in
theorem ggX1_loosePieces_X1_find : GoodIn wsX1_loosePieces wsX1_find := goodIn_r _ [7, 1, 8, 9, 10, 6, 11, 30, 31, 32, 33, 34, 35, 36, 37, 38] (by decide +kernel) (by decide +kernel)
set_option maxRecDepth 20000 in
theorem gX1_loosePieces_X1_find : GoodIn wsX1_loosePieces (wsV RX1 94 RX1 yX1_find wsX1_find) := goodIn_app (goodIn_of _ (by decide +kernel)) ggX1_loosePieces_X1_find
set_option maxRecDepth 20000 in
theorem ggX1_loosePieces_X1_isLoose : GoodIn wsX1_loosePieces wsX1_isLoose := goodIn_r _ [14, 15, 16, 17, 18, 19, 20, 21, 22, 23, 24, 25, 6, 26, 27, 28, 29, 9, 10, 11, 39, 40, 41, 42, 43, 44, 45, 46] (by decide +kernel) (by decide +kernel)
set_option maxRecDepth 20000 in
theorem gX1_loosePieces_X1_isLoose : GoodIn wsX1_loosePieces (va_wsS RX1 100 yX1_isLoose wsX1_isLoose) := goodIn_app (goodIn_of _ (by decide +kernel)) ggX1_loosePieces_X1_isLoose
theorem dX1_loosePieces_0 : decode cX1_loosePieces 0 = .ok (.iconst 0, 1) := by decide +kernel
theorem dX1_loosePieces_1 : decode cX1_loosePieces 1 = .ok (.istore_n 1, 1) := by decide +kernel
theorem dX1_loosePieces_2 : decode cX1_loosePieces 2 = .ok (.iconst 0, 1) := by decide +kernel
theorem dX1_loosePieces_3 : decode cX1_loosePieces 3 = .ok (.istore_n 2, 1) := by decide +kernel
theorem dX1_loosePieces_4 : decode cX1_loosePieces 4 = .ok (.iload_n 2, 1) := by decide +kernel
theorem dX1_loosePieces_5 : decode cX1_loosePieces 5 = .ok (.aload_n 0, 1) := by decide +kernel
theorem dX1_loosePieces_6 : decode cX1_loosePieces 6 = .ok (.getfield 74, 3) := by decide +kernel
theorem dX1_loosePieces_9 : decode cX1_loosePieces 9 = .ok (.if_icmp .ge 33, 3) := by decide +kernel
theorem dX1_loosePieces_12 : decode cX1_loosePieces 12 = .ok (.aload_n 0, 1) := by decide +kernel
theorem dX1_loosePieces_13 : decode cX1_loosePieces 13 = .ok (.iload_n 2, 1) := by decide +kernel
theorem dX1_loosePieces_14 : decode cX1_loosePieces 14 = .ok (.invokevirtual 94, 3) := by decide +kernel
theorem dX1_loosePieces_17 : decode cX1_loosePieces 17 = .ok (.astore_n 3, 1) := by decide +kernel
theorem dX1_loosePieces_18 : decode cX1_loosePieces 18 = .ok (.aload_n 3, 1) := by decide +kernel
theorem dX1_loosePieces_19 : decode cX1_loosePieces 19 = .ok (.ifnull 17, 3) := by decide +kernel
theorem dX1_loosePieces_22 : decode cX1_loosePieces 22 = .ok (.aload_n 3, 1) := by decide +kernel
theorem dX1_loosePieces_23 : decode cX1_loosePieces 23 = .ok (.aload_n 0, 1) := by decide +kernel
theorem dX1_loosePieces_24 : decode cX1_loosePieces 24 = .ok (.getfield 9, 3) := by decide +kernel
theorem dX1_loosePieces_27 : decode cX1_loosePieces 27 = .ok (.invokestatic 100, 3) := by decide +kernel
theorem dX1_loosePieces_30 : decode cX1_loosePieces 30 = .ok (.ifCond .eq 6, 3) := by decide +kernel
theorem dX1_loosePieces_33 : decode cX1_loosePieces 33 = .ok (.iinc 1 1, 3) := by decide +kernel
theorem dX1_loosePieces_36 : decode cX1_loosePieces 36 = .ok (.iinc 2 1, 3) := by decide +kernel
theorem dX1_loosePieces_39 : decode cX1_loosePieces 39 = .ok (.goto (-35), 3) := by decide +kernel
theorem dX1_loosePieces_42 : decode cX1_loosePieces 42 = .ok (.iload_n 1, 1) := by decide +kernel
theorem dX1_loosePieces_43 : decode cX1_loosePieces 43 = .ok (.ireturn, 1) := by decide +kernel
set_option maxRecDepth 20000 in
theorem ggX1_colourAt_X1_at : GoodIn wsX1_colourAt wsX1_at := goodIn_r _ [5, 6, 7, 4, 8] (by decide +kernel) (by decide +kernel)
set_option maxRecDepth 20000 in
theorem gX1_colourAt_X1_at : GoodIn wsX1_colourAt (va_wsS RX1 53 yX1_at wsX1_at) := goodIn_app (goodIn_of _ (by decide +kernel)) ggX1_colourAt_X1_at
set_option maxRecDepth 20000 in
theorem ggX1_colourAt_X1_find : GoodIn wsX1_colourAt wsX1_find := goodIn_r _ [12, 13, 14, 6, 7, 4, 8, 23, 24, 25, 26, 27, 28, 29, 30, 31] (by decide +kernel) (by decide +kernel)
set_option maxRecDepth 20000 in
theorem gX1_colourAt_X1_find : GoodIn wsX1_colourAt (wsV RX1 94 RX1 yX1_find wsX1_find) := goodIn_app (goodIn_of _ (by decide +kernel)) ggX1_colourAt_X1_find
set_option maxRecDepth 20000 in
theorem ggX1_colourAt_X0_shownColour : GoodIn wsX1_colourAt wsX0_shownColour := goodIn_r _ [19, 20, 21, 22, 32, 33, 34, 35, 36, 37, 38, 39] (by decide +kernel) (by decide +kernel)
set_option maxRecDepth 20000 in
theorem gX1_colourAt_X0_shownColour : GoodIn wsX1_colourAt (wsV RX1 117 RX0 yX0_shownColour wsX0_shownColour) := goodIn_app (goodIn_of _ (by decide +kernel)) ggX1_colourAt_X0_shownColour
theorem dX1_colourAt_0 : decode cX1_colourAt 0 = .ok (.aload_n 0, 1) := by decide +kernel
theorem dX1_colourAt_1 : decode cX1_colourAt 1 = .ok (.aload_n 0, 1) := by decide +kernel
theorem dX1_colourAt_2 : decode cX1_colourAt 2 = .ok (.getfield 13, 3) := by decide +kernel
theorem dX1_colourAt_5 : decode cX1_colourAt 5 = .ok (.iload_n 1, 1) := by decide +kernel
theorem dX1_colourAt_6 : decode cX1_colourAt 6 = .ok (.invokestatic 53, 3) := by decide +kernel
theorem dX1_colourAt_9 : decode cX1_colourAt 9 = .ok (.invokevirtual 94, 3) := by decide +kernel
theorem dX1_colourAt_12 : decode cX1_colourAt 12 = .ok (.astore_n 2, 1) := by decide +kernel
theorem dX1_colourAt_13 : decode cX1_colourAt 13 = .ok (.aload_n 2, 1) := by decide +kernel
theorem dX1_colourAt_14 : decode cX1_colourAt 14 = .ok (.ifnonnull 7, 3) := by decide +kernel
theorem dX1_colourAt_17 : decode cX1_colourAt 17 = .ok (.iconst (-1), 1) := by decide +kernel
theorem dX1_colourAt_18 : decode cX1_colourAt 18 = .ok (.goto 7, 3) := by decide +kernel
theorem dX1_colourAt_21 : decode cX1_colourAt 21 = .ok (.aload_n 2, 1) := by decide +kernel
theorem dX1_colourAt_22 : decode cX1_colourAt 22 = .ok (.invokevirtual 117, 3) := by decide +kernel
theorem dX1_colourAt_25 : decode cX1_colourAt 25 = .ok (.ireturn, 1) := by decide +kernel
set_option maxRecDepth 20000 in
theorem ggX1_cellFact_X1_at : GoodIn wsX1_cellFact wsX1_at := goodIn_r _ [6, 7, 8, 5, 9] (by decide +kernel) (by decide +kernel)
set_option maxRecDepth 20000 in
theorem gX1_cellFact_X1_at : GoodIn wsX1_cellFact (va_wsS RX1 53 yX1_at wsX1_at) := goodIn_app (goodIn_of _ (by decide +kernel)) ggX1_cellFact_X1_at
set_option maxRecDepth 20000 in
theorem ggX1_cellFact_X1_colourAt : GoodIn wsX1_cellFact wsX1_colourAt := goodIn_r _ [13, 2, 3, 4, 5, 6, 7, 8, 9, 14, 15, 16, 17, 18, 19, 20, 21, 22, 23, 24, 25, 26, 27, 28, 29, 30, 31, 32, 33, 34, 35, 36, 37, 38, 39, 40, 41, 42, 43, 44] (by decide +kernel) (by decide +kernel)
set_option maxRecDepth 20000 in
theorem gX1_cellFact_X1_colourAt : GoodIn wsX1_cellFact (wsV RX1 217 RX1 yX1_colourAt wsX1_colourAt) := goodIn_app (goodIn_of _ (by decide +kernel)) ggX1_cellFact_X1_colourAt
theorem dX1_cellFact_0 : decode cX1_cellFact 0 = .ok (.iload_n 2, 1) := by decide +kernel
theorem dX1_cellFact_1 : decode cX1_cellFact 1 = .ok (.lookupswitch 45 #[(0, 27), (1, 36)], 27) := by decide +kernel
theorem dX1_cellFact_28 : decode cX1_cellFact 28 = .ok (.aload_n 0, 1) := by decide +kernel
theorem dX1_cellFact_29 : decode cX1_cellFact 29 = .ok (.getfield 9, 3) := by decide +kernel
theorem dX1_cellFact_32 : decode cX1_cellFact 32 = .ok (.iload_n 1, 1) := by decide +kernel
theorem dX1_cellFact_33 : decode cX1_cellFact 33 = .ok (.invokestatic 53, 3) := by decide +kernel
theorem dX1_cellFact_36 : decode cX1_cellFact 36 = .ok (.ireturn, 1) := by decide +kernel
theorem dX1_cellFact_37 : decode cX1_cellFact 37 = .ok (.aload_n 0, 1) := by decide +kernel
theorem dX1_cellFact_38 : decode cX1_cellFact 38 = .ok (.getfield 13, 3) := by decide +kernel
theorem dX1_cellFact_41 : decode cX1_cellFact 41 = .ok (.iload_n 1, 1) := by decide +kernel
theorem dX1_cellFact_42 : decode cX1_cellFact 42 = .ok (.invokestatic 53, 3) := by decide +kernel
theorem dX1_cellFact_45 : decode cX1_cellFact 45 = .ok (.ireturn, 1) := by decide +kernel
theorem dX1_cellFact_46 : decode cX1_cellFact 46 = .ok (.aload_n 0, 1) := by decide +kernel
theorem dX1_cellFact_47 : decode cX1_cellFact 47 = .ok (.iload_n 1, 1) := by decide +kernel
theorem dX1_cellFact_48 : decode cX1_cellFact 48 = .ok (.invokevirtual 217, 3) := by decide +kernel
theorem dX1_cellFact_51 : decode cX1_cellFact 51 = .ok (.ireturn, 1) := by decide +kernel
set_option maxRecDepth 20000 in
theorem ggX1_pieceFact_X0_shownColour : GoodIn wsX1_pieceFact wsX0_shownColour := goodIn_r _ [11, 12, 13, 14, 38, 39, 40, 41, 42, 43, 44, 45] (by decide +kernel) (by decide +kernel)
set_option maxRecDepth 20000 in
theorem gX1_pieceFact_X0_shownColour : GoodIn wsX1_pieceFact (wsV RX1 117 RX0 yX0_shownColour wsX0_shownColour) := goodIn_app (goodIn_of _ (by decide +kernel)) ggX1_pieceFact_X0_shownColour
set_option maxRecDepth 20000 in
theorem ggX1_pieceFact_X0_otherColour : GoodIn wsX1_pieceFact wsX0_otherColour := goodIn_r _ [18, 12, 14, 13, 38, 39, 40, 41, 42, 43, 44, 45] (by decide +kernel) (by decide +kernel)
set_option maxRecDepth 20000 in
theorem gX1_pieceFact_X0_otherColour : GoodIn wsX1_pieceFact (wsV RX1 220 RX0 yX0_otherColour wsX0_otherColour) := goodIn_app (goodIn_of _ (by decide +kernel)) ggX1_pieceFact_X0_otherColour
set_option maxRecDepth 20000 in
theorem ggX1_pieceFact_X1_isLoose : GoodIn wsX1_pieceFact wsX1_isLoose := goodIn_r _ [22, 6, 3, 23, 24, 25, 10, 26, 27, 28, 29, 30, 21, 31, 32, 33, 34, 35, 36, 37, 38, 39, 40, 41, 42, 43, 44, 45] (by decide +kernel) (by decide +kernel)
set_option maxRecDepth 20000 in
theorem gX1_pieceFact_X1_isLoose : GoodIn wsX1_pieceFact (va_wsS RX1 100 yX1_isLoose wsX1_isLoose) := goodIn_app (goodIn_of _ (by decide +kernel)) ggX1_pieceFact_X1_isLoose
theorem dX1_pieceFact_0 : decode cX1_pieceFact 0 = .ok (.iload_n 2, 1) := by decide +kernel
theorem dX1_pieceFact_1 : decode cX1_pieceFact 1 = .ok (.tableswitch 98 0 6 #[43, 48, 53, 58, 71, 76, 81], 43) := by decide +kernel
theorem dX1_pieceFact_44 : decode cX1_pieceFact 44 = .ok (.aload_n 1, 1) := by decide +kernel
theorem dX1_pieceFact_45 : decode cX1_pieceFact 45 = .ok (.getfield 121, 3) := by decide +kernel
theorem dX1_pieceFact_48 : decode cX1_pieceFact 48 = .ok (.ireturn, 1) := by decide +kernel
theorem dX1_pieceFact_49 : decode cX1_pieceFact 49 = .ok (.aload_n 1, 1) := by decide +kernel
theorem dX1_pieceFact_50 : decode cX1_pieceFact 50 = .ok (.getfield 124, 3) := by decide +kernel
theorem dX1_pieceFact_53 : decode cX1_pieceFact 53 = .ok (.ireturn, 1) := by decide +kernel
theorem dX1_pieceFact_54 : decode cX1_pieceFact 54 = .ok (.aload_n 1, 1) := by decide +kernel
theorem dX1_pieceFact_55 : decode cX1_pieceFact 55 = .ok (.getfield 110, 3) := by decide +kernel
theorem dX1_pieceFact_58 : decode cX1_pieceFact 58 = .ok (.ireturn, 1) := by decide +kernel
theorem dX1_pieceFact_59 : decode cX1_pieceFact 59 = .ok (.aload_n 1, 1) := by decide +kernel
theorem dX1_pieceFact_60 : decode cX1_pieceFact 60 = .ok (.getfield 127, 3) := by decide +kernel
theorem dX1_pieceFact_63 : decode cX1_pieceFact 63 = .ok (.ifCond .eq 7, 3) := by decide +kernel
theorem dX1_pieceFact_66 : decode cX1_pieceFact 66 = .ok (.iconst 1, 1) := by decide +kernel
theorem dX1_pieceFact_67 : decode cX1_pieceFact 67 = .ok (.goto 4, 3) := by decide +kernel
theorem dX1_pieceFact_70 : decode cX1_pieceFact 70 = .ok (.iconst 0, 1) := by decide +kernel
theorem dX1_pieceFact_71 : decode cX1_pieceFact 71 = .ok (.ireturn, 1) := by decide +kernel
theorem dX1_pieceFact_72 : decode cX1_pieceFact 72 = .ok (.aload_n 1, 1) := by decide +kernel
theorem dX1_pieceFact_73 : decode cX1_pieceFact 73 = .ok (.invokevirtual 117, 3) := by decide +kernel
theorem dX1_pieceFact_76 : decode cX1_pieceFact 76 = .ok (.ireturn, 1) := by decide +kernel
theorem dX1_pieceFact_77 : decode cX1_pieceFact 77 = .ok (.aload_n 1, 1) := by decide +kernel
theorem dX1_pieceFact_78 : decode cX1_pieceFact 78 = .ok (.invokevirtual 220, 3) := by decide +kernel
theorem dX1_pieceFact_81 : decode cX1_pieceFact 81 = .ok (.ireturn, 1) := by decide +kernel
theorem dX1_pieceFact_82 : decode cX1_pieceFact 82 = .ok (.aload_n 1, 1) := by decide +kernel
theorem dX1_pieceFact_83 : decode cX1_pieceFact 83 = .ok (.aload_n 0, 1) := by decide +kernel
theorem dX1_pieceFact_84 : decode cX1_pieceFact 84 = .ok (.getfield 9, 3) := by decide +kernel
theorem dX1_pieceFact_87 : decode cX1_pieceFact 87 = .ok (.invokestatic 100, 3) := by decide +kernel
theorem dX1_pieceFact_90 : decode cX1_pieceFact 90 = .ok (.ifCond .eq 7, 3) := by decide +kernel
theorem dX1_pieceFact_93 : decode cX1_pieceFact 93 = .ok (.iconst 1, 1) := by decide +kernel
theorem dX1_pieceFact_94 : decode cX1_pieceFact 94 = .ok (.goto 4, 3) := by decide +kernel
theorem dX1_pieceFact_97 : decode cX1_pieceFact 97 = .ok (.iconst 0, 1) := by decide +kernel
theorem dX1_pieceFact_98 : decode cX1_pieceFact 98 = .ok (.ireturn, 1) := by decide +kernel
theorem dX1_pieceFact_99 : decode cX1_pieceFact 99 = .ok (.aload_n 1, 1) := by decide +kernel
theorem dX1_pieceFact_100 : decode cX1_pieceFact 100 = .ok (.getfield 132, 3) := by decide +kernel
theorem dX1_pieceFact_103 : decode cX1_pieceFact 103 = .ok (.ifCond .eq 7, 3) := by decide +kernel
theorem dX1_pieceFact_106 : decode cX1_pieceFact 106 = .ok (.iconst 1, 1) := by decide +kernel
theorem dX1_pieceFact_107 : decode cX1_pieceFact 107 = .ok (.goto 4, 3) := by decide +kernel
theorem dX1_pieceFact_110 : decode cX1_pieceFact 110 = .ok (.iconst 0, 1) := by decide +kernel
theorem dX1_pieceFact_111 : decode cX1_pieceFact 111 = .ok (.ireturn, 1) := by decide +kernel
set_option maxRecDepth 20000 in
theorem ggX1_countFact_X1_piecesIn : GoodIn wsX1_countFact wsX1_piecesIn := goodIn_r _ [9, 2, 10, 11, 12, 13, 8, 14, 15, 16, 17, 18, 68, 69, 70, 71, 72, 73, 74, 75, 76, 77, 78, 79, 80, 81, 82, 83, 84] (by decide +kernel) (by decide +kernel)
set_option maxRecDepth 20000 in
theorem gX1_countFact_X1_piecesIn : GoodIn wsX1_countFact (wsV RX1 223 RX1 yX1_piecesIn wsX1_piecesIn) := goodIn_app (goodIn_of _ (by decide +kernel)) ggX1_countFact_X1_piecesIn
set_option maxRecDepth 20000 in
theorem ggX1_countFact_X1_loosePieces : GoodIn wsX1_countFact wsX1_loosePieces := goodIn_r _ [22, 2, 3, 11, 12, 13, 8, 14, 15, 16, 17, 18, 23, 24, 25, 10, 26, 27, 28, 29, 30, 31, 32, 33, 34, 35, 36, 37, 38, 39, 68, 69, 70, 71, 72, 73, 74, 75, 76, 77, 78, 79, 80, 81, 82, 83, 84] (by decide +kernel) (by decide +kernel)
set_option maxRecDepth 20000 in
theorem gX1_countFact_X1_loosePieces : GoodIn wsX1_countFact (wsV RX1 188 RX1 yX1_loosePieces wsX1_loosePieces) := goodIn_app (goodIn_of _ (by decide +kernel)) ggX1_countFact_X1_loosePieces
set_option maxRecDepth 20000 in
theorem ggX1_countFact_X1_cellsFrom : GoodIn wsX1_countFact wsX1_cellsFrom := goodIn_r _ [42] (by decide +kernel) (by decide +kernel)
set_option maxRecDepth 20000 in
theorem gX1_countFact_X1_cellsFrom : GoodIn wsX1_countFact (va_wsS RX1 197 yX1_cellsFrom wsX1_cellsFrom) := goodIn_app (goodIn_of _ (by decide +kernel)) ggX1_countFact_X1_cellsFrom
set_option maxRecDepth 20000 in
theorem ggX1_countFact_X1_gaps : GoodIn wsX1_countFact wsX1_gaps := goodIn_r _ [46, 47, 48, 49, 8, 50, 51, 52, 53, 54, 55, 56, 57, 58, 59, 60, 4, 61, 35, 36, 62, 63, 64, 16, 17, 18, 37, 38, 39, 65, 66, 67, 68, 69, 70, 71, 72, 73, 74, 75, 76] (by decide +kernel) (by decide +kernel)
set_option maxRecDepth 20000 in
theorem gX1_countFact_X1_gaps : GoodIn wsX1_countFact (wsV RX1 226 RX1 yX1_gaps wsX1_gaps) := goodIn_app (goodIn_of _ (by decide +kernel)) ggX1_countFact_X1_gaps
theorem dX1_countFact_0 : decode cX1_countFact 0 = .ok (.iload_n 1, 1) := by decide +kernel
theorem dX1_countFact_1 : decode cX1_countFact 1 = .ok (.tableswitch 90 0 6 #[43, 48, 53, 58, 63, 72, 81], 43) := by decide +kernel
theorem dX1_countFact_44 : decode cX1_countFact 44 = .ok (.aload_n 0, 1) := by decide +kernel
theorem dX1_countFact_45 : decode cX1_countFact 45 = .ok (.getfield 181, 3) := by decide +kernel
theorem dX1_countFact_48 : decode cX1_countFact 48 = .ok (.ireturn, 1) := by decide +kernel
theorem dX1_countFact_49 : decode cX1_countFact 49 = .ok (.aload_n 0, 1) := by decide +kernel
theorem dX1_countFact_50 : decode cX1_countFact 50 = .ok (.getfield 74, 3) := by decide +kernel
theorem dX1_countFact_53 : decode cX1_countFact 53 = .ok (.ireturn, 1) := by decide +kernel
theorem dX1_countFact_54 : decode cX1_countFact 54 = .ok (.aload_n 0, 1) := by decide +kernel
theorem dX1_countFact_55 : decode cX1_countFact 55 = .ok (.invokevirtual 223, 3) := by decide +kernel
theorem dX1_countFact_58 : decode cX1_countFact 58 = .ok (.ireturn, 1) := by decide +kernel
theorem dX1_countFact_59 : decode cX1_countFact 59 = .ok (.aload_n 0, 1) := by decide +kernel
theorem dX1_countFact_60 : decode cX1_countFact 60 = .ok (.invokevirtual 188, 3) := by decide +kernel
theorem dX1_countFact_63 : decode cX1_countFact 63 = .ok (.ireturn, 1) := by decide +kernel
theorem dX1_countFact_64 : decode cX1_countFact 64 = .ok (.aload_n 0, 1) := by decide +kernel
theorem dX1_countFact_65 : decode cX1_countFact 65 = .ok (.getfield 9, 3) := by decide +kernel
theorem dX1_countFact_68 : decode cX1_countFact 68 = .ok (.iconst 0, 1) := by decide +kernel
theorem dX1_countFact_69 : decode cX1_countFact 69 = .ok (.invokestatic 197, 3) := by decide +kernel
theorem dX1_countFact_72 : decode cX1_countFact 72 = .ok (.ireturn, 1) := by decide +kernel
theorem dX1_countFact_73 : decode cX1_countFact 73 = .ok (.aload_n 0, 1) := by decide +kernel
theorem dX1_countFact_74 : decode cX1_countFact 74 = .ok (.getfield 9, 3) := by decide +kernel
theorem dX1_countFact_77 : decode cX1_countFact 77 = .ok (.iconst 1, 1) := by decide +kernel
theorem dX1_countFact_78 : decode cX1_countFact 78 = .ok (.invokestatic 197, 3) := by decide +kernel
theorem dX1_countFact_81 : decode cX1_countFact 81 = .ok (.ireturn, 1) := by decide +kernel
theorem dX1_countFact_82 : decode cX1_countFact 82 = .ok (.aload_n 0, 1) := by decide +kernel
theorem dX1_countFact_83 : decode cX1_countFact 83 = .ok (.getfield 13, 3) := by decide +kernel
theorem dX1_countFact_86 : decode cX1_countFact 86 = .ok (.iconst 0, 1) := by decide +kernel
theorem dX1_countFact_87 : decode cX1_countFact 87 = .ok (.invokestatic 197, 3) := by decide +kernel
theorem dX1_countFact_90 : decode cX1_countFact 90 = .ok (.ireturn, 1) := by decide +kernel
theorem dX1_countFact_91 : decode cX1_countFact 91 = .ok (.aload_n 0, 1) := by decide +kernel
theorem dX1_countFact_92 : decode cX1_countFact 92 = .ok (.invokevirtual 226, 3) := by decide +kernel
theorem dX1_countFact_95 : decode cX1_countFact 95 = .ok (.ireturn, 1) := by decide +kernel
set_option maxRecDepth 20000 in
theorem ggX1_fits_X1_cellOf : GoodIn wsX1_fits wsX1_cellOf := goodIn_r _ [4] (by decide +kernel) (by decide +kernel)
set_option maxRecDepth 20000 in
theorem gX1_fits_X1_cellOf : GoodIn wsX1_fits (va_wsS RX1 49 yX1_cellOf wsX1_cellOf) := goodIn_app (goodIn_of _ (by decide +kernel)) ggX1_fits_X1_cellOf
set_option maxRecDepth 20000 in
theorem ggX1_fits_X1_colourAt : GoodIn wsX1_fits wsX1_colourAt := goodIn_r _ [8, 9, 10, 11, 3, 12, 13, 14, 15, 16, 17, 18, 19, 20, 21, 22, 23, 24, 25, 26, 27, 28, 29, 30, 31, 32, 33, 34, 35, 36, 37, 38, 39, 40, 41, 42, 43, 44, 45, 46] (by decide +kernel) (by decide +kernel)
set_option maxRecDepth 20000 in
theorem gX1_fits_X1_colourAt : GoodIn wsX1_fits (wsV RX1 217 RX1 yX1_colourAt wsX1_colourAt) := goodIn_app (goodIn_of _ (by decide +kernel)) ggX1_fits_X1_colourAt
theorem dX1_fits_0 : decode cX1_fits 0 = .ok (.aload_n 0, 1) := by decide +kernel
theorem dX1_fits_1 : decode cX1_fits 1 = .ok (.iload_n 1, 1) := by decide +kernel
theorem dX1_fits_2 : decode cX1_fits 2 = .ok (.iload_n 2, 1) := by decide +kernel
theorem dX1_fits_3 : decode cX1_fits 3 = .ok (.invokestatic 49, 3) := by decide +kernel
theorem dX1_fits_6 : decode cX1_fits 6 = .ok (.invokevirtual 217, 3) := by decide +kernel
theorem dX1_fits_9 : decode cX1_fits 9 = .ok (.istore 6, 2) := by decide +kernel
theorem dX1_fits_11 : decode cX1_fits 11 = .ok (.iload_n 3, 1) := by decide +kernel
theorem dX1_fits_12 : decode cX1_fits 12 = .ok (.tableswitch 91 0 2 #[28, 41, 65], 28) := by decide +kernel
theorem dX1_fits_40 : decode cX1_fits 40 = .ok (.iload 6, 2) := by decide +kernel
theorem dX1_fits_42 : decode cX1_fits 42 = .ok (.iload 4, 2) := by decide +kernel
theorem dX1_fits_44 : decode cX1_fits 44 = .ok (.if_icmp .ne 7, 3) := by decide +kernel
theorem dX1_fits_47 : decode cX1_fits 47 = .ok (.iconst 1, 1) := by decide +kernel
theorem dX1_fits_48 : decode cX1_fits 48 = .ok (.goto 4, 3) := by decide +kernel
theorem dX1_fits_51 : decode cX1_fits 51 = .ok (.iconst 0, 1) := by decide +kernel
theorem dX1_fits_52 : decode cX1_fits 52 = .ok (.ireturn, 1) := by decide +kernel
theorem dX1_fits_53 : decode cX1_fits 53 = .ok (.iload 6, 2) := by decide +kernel
theorem dX1_fits_55 : decode cX1_fits 55 = .ok (.iload_n 2, 1) := by decide +kernel
theorem dX1_fits_56 : decode cX1_fits 56 = .ok (.iconst 2, 1) := by decide +kernel
theorem dX1_fits_57 : decode cX1_fits 57 = .ok (.irem, 1) := by decide +kernel
theorem dX1_fits_58 : decode cX1_fits 58 = .ok (.ifCond .ne 8, 3) := by decide +kernel
theorem dX1_fits_61 : decode cX1_fits 61 = .ok (.iload 4, 2) := by decide +kernel
theorem dX1_fits_63 : decode cX1_fits 63 = .ok (.goto 5, 3) := by decide +kernel
theorem dX1_fits_66 : decode cX1_fits 66 = .ok (.iload 5, 2) := by decide +kernel
theorem dX1_fits_68 : decode cX1_fits 68 = .ok (.if_icmp .ne 7, 3) := by decide +kernel
theorem dX1_fits_71 : decode cX1_fits 71 = .ok (.iconst 1, 1) := by decide +kernel
theorem dX1_fits_72 : decode cX1_fits 72 = .ok (.goto 4, 3) := by decide +kernel
theorem dX1_fits_75 : decode cX1_fits 75 = .ok (.iconst 0, 1) := by decide +kernel
theorem dX1_fits_76 : decode cX1_fits 76 = .ok (.ireturn, 1) := by decide +kernel
theorem dX1_fits_77 : decode cX1_fits 77 = .ok (.iload 6, 2) := by decide +kernel
theorem dX1_fits_79 : decode cX1_fits 79 = .ok (.iload_n 1, 1) := by decide +kernel
theorem dX1_fits_80 : decode cX1_fits 80 = .ok (.iload_n 2, 1) := by decide +kernel
theorem dX1_fits_81 : decode cX1_fits 81 = .ok (.iadd, 1) := by decide +kernel
theorem dX1_fits_82 : decode cX1_fits 82 = .ok (.iconst 2, 1) := by decide +kernel
theorem dX1_fits_83 : decode cX1_fits 83 = .ok (.irem, 1) := by decide +kernel
theorem dX1_fits_84 : decode cX1_fits 84 = .ok (.ifCond .ne 8, 3) := by decide +kernel
theorem dX1_fits_87 : decode cX1_fits 87 = .ok (.iload 4, 2) := by decide +kernel
theorem dX1_fits_89 : decode cX1_fits 89 = .ok (.goto 5, 3) := by decide +kernel
theorem dX1_fits_92 : decode cX1_fits 92 = .ok (.iload 5, 2) := by decide +kernel
theorem dX1_fits_94 : decode cX1_fits 94 = .ok (.if_icmp .ne 7, 3) := by decide +kernel
theorem dX1_fits_97 : decode cX1_fits 97 = .ok (.iconst 1, 1) := by decide +kernel
theorem dX1_fits_98 : decode cX1_fits 98 = .ok (.goto 4, 3) := by decide +kernel
theorem dX1_fits_101 : decode cX1_fits 101 = .ok (.iconst 0, 1) := by decide +kernel
theorem dX1_fits_102 : decode cX1_fits 102 = .ok (.ireturn, 1) := by decide +kernel
theorem dX1_fits_103 : decode cX1_fits 103 = .ok (.iload 6, 2) := by decide +kernel
theorem dX1_fits_105 : decode cX1_fits 105 = .ok (.aload_n 0, 1) := by decide +kernel
theorem dX1_fits_106 : decode cX1_fits 106 = .ok (.bipush 9, 2) := by decide +kernel
theorem dX1_fits_108 : decode cX1_fits 108 = .ok (.iload_n 1, 1) := by decide +kernel
theorem dX1_fits_109 : decode cX1_fits 109 = .ok (.isub, 1) := by decide +kernel
theorem dX1_fits_110 : decode cX1_fits 110 = .ok (.iload_n 2, 1) := by decide +kernel
theorem dX1_fits_111 : decode cX1_fits 111 = .ok (.invokestatic 49, 3) := by decide +kernel
theorem dX1_fits_114 : decode cX1_fits 114 = .ok (.invokevirtual 217, 3) := by decide +kernel
theorem dX1_fits_117 : decode cX1_fits 117 = .ok (.if_icmp .ne 7, 3) := by decide +kernel
theorem dX1_fits_120 : decode cX1_fits 120 = .ok (.iconst 1, 1) := by decide +kernel
theorem dX1_fits_121 : decode cX1_fits 121 = .ok (.goto 4, 3) := by decide +kernel
theorem dX1_fits_124 : decode cX1_fits 124 = .ok (.iconst 0, 1) := by decide +kernel
theorem dX1_fits_125 : decode cX1_fits 125 = .ok (.ireturn, 1) := by decide +kernel
set_option maxRecDepth 20000 in
theorem ggX1_cellsOff_X1_fits : GoodIn wsX1_cellsOff wsX1_fits := goodIn_r _ [5, 6, 7, 4, 8, 9, 10, 11, 12, 13, 14, 15, 16, 17, 18, 19, 20, 21, 22, 23, 24, 25, 26, 27, 28, 29, 30, 31, 32, 33, 34, 35, 36, 37, 38, 39, 40, 41, 42, 43, 44, 45, 46, 47, 48, 49, 50] (by decide +kernel) (by decide +kernel)
set_option maxRecDepth 20000 in
theorem gX1_cellsOff_X1_fits : GoodIn wsX1_cellsOff (wsV RX1 229 RX1 yX1_fits wsX1_fits) := goodIn_app (goodIn_of _ (by decide +kernel)) ggX1_cellsOff_X1_fits
theorem dX1_cellsOff_0 : decode cX1_cellsOff 0 = .ok (.iconst 0, 1) := by decide +kernel
theorem dX1_cellsOff_1 : decode cX1_cellsOff 1 = .ok (.istore 4, 2) := by decide +kernel
theorem dX1_cellsOff_3 : decode cX1_cellsOff 3 = .ok (.iconst 0, 1) := by decide +kernel
theorem dX1_cellsOff_4 : decode cX1_cellsOff 4 = .ok (.istore 5, 2) := by decide +kernel
theorem dX1_cellsOff_6 : decode cX1_cellsOff 6 = .ok (.iload 5, 2) := by decide +kernel
theorem dX1_cellsOff_8 : decode cX1_cellsOff 8 = .ok (.bipush 8, 2) := by decide +kernel
theorem dX1_cellsOff_10 : decode cX1_cellsOff 10 = .ok (.if_icmp .ge 42, 3) := by decide +kernel
theorem dX1_cellsOff_13 : decode cX1_cellsOff 13 = .ok (.iconst 0, 1) := by decide +kernel
theorem dX1_cellsOff_14 : decode cX1_cellsOff 14 = .ok (.istore 6, 2) := by decide +kernel
theorem dX1_cellsOff_16 : decode cX1_cellsOff 16 = .ok (.iload 6, 2) := by decide +kernel
theorem dX1_cellsOff_18 : decode cX1_cellsOff 18 = .ok (.bipush 10, 2) := by decide +kernel
theorem dX1_cellsOff_20 : decode cX1_cellsOff 20 = .ok (.if_icmp .ge 26, 3) := by decide +kernel
theorem dX1_cellsOff_23 : decode cX1_cellsOff 23 = .ok (.aload_n 0, 1) := by decide +kernel
theorem dX1_cellsOff_24 : decode cX1_cellsOff 24 = .ok (.iload 6, 2) := by decide +kernel
theorem dX1_cellsOff_26 : decode cX1_cellsOff 26 = .ok (.iload 5, 2) := by decide +kernel
theorem dX1_cellsOff_28 : decode cX1_cellsOff 28 = .ok (.iload_n 1, 1) := by decide +kernel
theorem dX1_cellsOff_29 : decode cX1_cellsOff 29 = .ok (.iload_n 2, 1) := by decide +kernel
theorem dX1_cellsOff_30 : decode cX1_cellsOff 30 = .ok (.iload_n 3, 1) := by decide +kernel
theorem dX1_cellsOff_31 : decode cX1_cellsOff 31 = .ok (.invokevirtual 229, 3) := by decide +kernel
theorem dX1_cellsOff_34 : decode cX1_cellsOff 34 = .ok (.ifCond .ne 6, 3) := by decide +kernel
theorem dX1_cellsOff_37 : decode cX1_cellsOff 37 = .ok (.iinc 4 1, 3) := by decide +kernel
theorem dX1_cellsOff_40 : decode cX1_cellsOff 40 = .ok (.iinc 6 1, 3) := by decide +kernel
theorem dX1_cellsOff_43 : decode cX1_cellsOff 43 = .ok (.goto (-27), 3) := by decide +kernel
theorem dX1_cellsOff_46 : decode cX1_cellsOff 46 = .ok (.iinc 5 1, 3) := by decide +kernel
theorem dX1_cellsOff_49 : decode cX1_cellsOff 49 = .ok (.goto (-43), 3) := by decide +kernel
theorem dX1_cellsOff_52 : decode cX1_cellsOff 52 = .ok (.iload 4, 2) := by decide +kernel
theorem dX1_cellsOff_54 : decode cX1_cellsOff 54 = .ok (.ireturn, 1) := by decide +kernel
set_option maxRecDepth 20000 in
theorem ggX1_cellsOffFlipped_X1_cellsOff : GoodIn wsX1_cellsOffFlipped wsX1_cellsOff := goodIn_r _ [6, 7, 8, 9, 5, 10, 11, 12, 13, 14, 15, 16, 17, 18, 19, 20, 21, 22, 23, 24, 25, 26, 27, 28, 29, 30, 31, 32, 33, 34, 35, 36, 37, 38, 47, 48, 49, 50, 51, 52, 53, 54, 55, 39, 40, 41, 42, 43, 44, 45, 46] (by decide +kernel) (by decide +kernel)
set_option maxRecDepth 20000 in
theorem gX1_cellsOffFlipped_X1_cellsOff : GoodIn wsX1_cellsOffFlipped (wsV RX1 161 RX1 yX1_cellsOff wsX1_cellsOff) := goodIn_app (goodIn_of _ (by decide +kernel)) ggX1_cellsOffFlipped_X1_cellsOff
theorem dX1_cellsOffFlipped_0 : decode cX1_cellsOffFlipped 0 = .ok (.aload_n 1, 1) := by decide +kernel
theorem dX1_cellsOffFlipped_1 : decode cX1_cellsOffFlipped 1 = .ok (.aload_n 1, 1) := by decide +kernel
theorem dX1_cellsOffFlipped_2 : decode cX1_cellsOffFlipped 2 = .ok (.getfield 106, 3) := by decide +kernel
theorem dX1_cellsOffFlipped_5 : decode cX1_cellsOffFlipped 5 = .ok (.ifCond .ne 7, 3) := by decide +kernel
theorem dX1_cellsOffFlipped_8 : decode cX1_cellsOffFlipped 8 = .ok (.iconst 1, 1) := by decide +kernel
theorem dX1_cellsOffFlipped_9 : decode cX1_cellsOffFlipped 9 = .ok (.goto 4, 3) := by decide +kernel
theorem dX1_cellsOffFlipped_12 : decode cX1_cellsOffFlipped 12 = .ok (.iconst 0, 1) := by decide +kernel
theorem dX1_cellsOffFlipped_13 : decode cX1_cellsOffFlipped 13 = .ok (.putfield 106, 3) := by decide +kernel
theorem dX1_cellsOffFlipped_16 : decode cX1_cellsOffFlipped 16 = .ok (.aload_n 0, 1) := by decide +kernel
theorem dX1_cellsOffFlipped_17 : decode cX1_cellsOffFlipped 17 = .ok (.iload_n 2, 1) := by decide +kernel
theorem dX1_cellsOffFlipped_18 : decode cX1_cellsOffFlipped 18 = .ok (.iload_n 3, 1) := by decide +kernel
theorem dX1_cellsOffFlipped_19 : decode cX1_cellsOffFlipped 19 = .ok (.iload 4, 2) := by decide +kernel
theorem dX1_cellsOffFlipped_21 : decode cX1_cellsOffFlipped 21 = .ok (.invokevirtual 161, 3) := by decide +kernel
theorem dX1_cellsOffFlipped_24 : decode cX1_cellsOffFlipped 24 = .ok (.istore 5, 2) := by decide +kernel
theorem dX1_cellsOffFlipped_26 : decode cX1_cellsOffFlipped 26 = .ok (.aload_n 1, 1) := by decide +kernel
theorem dX1_cellsOffFlipped_27 : decode cX1_cellsOffFlipped 27 = .ok (.aload_n 1, 1) := by decide +kernel
theorem dX1_cellsOffFlipped_28 : decode cX1_cellsOffFlipped 28 = .ok (.getfield 106, 3) := by decide +kernel
theorem dX1_cellsOffFlipped_31 : decode cX1_cellsOffFlipped 31 = .ok (.ifCond .ne 7, 3) := by decide +kernel
theorem dX1_cellsOffFlipped_34 : decode cX1_cellsOffFlipped 34 = .ok (.iconst 1, 1) := by decide +kernel
theorem dX1_cellsOffFlipped_35 : decode cX1_cellsOffFlipped 35 = .ok (.goto 4, 3) := by decide +kernel
theorem dX1_cellsOffFlipped_38 : decode cX1_cellsOffFlipped 38 = .ok (.iconst 0, 1) := by decide +kernel
theorem dX1_cellsOffFlipped_39 : decode cX1_cellsOffFlipped 39 = .ok (.putfield 106, 3) := by decide +kernel
theorem dX1_cellsOffFlipped_42 : decode cX1_cellsOffFlipped 42 = .ok (.iload 5, 2) := by decide +kernel
theorem dX1_cellsOffFlipped_44 : decode cX1_cellsOffFlipped 44 = .ok (.ireturn, 1) := by decide +kernel
theorem dX1_clearMarks_0 : decode cX1_clearMarks 0 = .ok (.iconst 0, 1) := by decide +kernel
theorem dX1_clearMarks_1 : decode cX1_clearMarks 1 = .ok (.istore_n 1, 1) := by decide +kernel
theorem dX1_clearMarks_2 : decode cX1_clearMarks 2 = .ok (.iload_n 1, 1) := by decide +kernel
theorem dX1_clearMarks_3 : decode cX1_clearMarks 3 = .ok (.bipush 80, 2) := by decide +kernel
theorem dX1_clearMarks_5 : decode cX1_clearMarks 5 = .ok (.if_icmp .ge 16, 3) := by decide +kernel
theorem dX1_clearMarks_8 : decode cX1_clearMarks 8 = .ok (.aload_n 0, 1) := by decide +kernel
theorem dX1_clearMarks_9 : decode cX1_clearMarks 9 = .ok (.getfield 28, 3) := by decide +kernel
theorem dX1_clearMarks_12 : decode cX1_clearMarks 12 = .ok (.iload_n 1, 1) := by decide +kernel
theorem dX1_clearMarks_13 : decode cX1_clearMarks 13 = .ok (.iconst 0, 1) := by decide +kernel
theorem dX1_clearMarks_14 : decode cX1_clearMarks 14 = .ok (.iastore, 1) := by decide +kernel
theorem dX1_clearMarks_15 : decode cX1_clearMarks 15 = .ok (.iinc 1 1, 3) := by decide +kernel
theorem dX1_clearMarks_18 : decode cX1_clearMarks 18 = .ok (.goto (-16), 3) := by decide +kernel
theorem dX1_clearMarks_21 : decode cX1_clearMarks 21 = .ok (.return_, 1) := by decide +kernel
set_option maxRecDepth 20000 in
theorem ggX1_gaps_X1_clearMarks : GoodIn wsX1_gaps wsX1_clearMarks := goodIn_r _ [5, 6, 32, 33, 34, 35, 36, 37, 38, 39, 40] (by decide +kernel) (by decide +kernel)
set_option maxRecDepth 20000 in
theorem gX1_gaps_X1_clearMarks : GoodIn wsX1_gaps (wsV RX1 169 RX1 yX1_clearMarks wsX1_clearMarks) := goodIn_app (goodIn_of _ (by decide +kernel)) ggX1_gaps_X1_clearMarks
set_option maxRecDepth 20000 in
theorem ggX1_gaps_X1_markGap : GoodIn wsX1_gaps wsX1_markGap := goodIn_r _ [10, 11, 12, 13, 14, 4, 15, 16, 6, 17, 18, 19, 20, 21, 22, 23, 24, 25, 26, 27, 28, 29, 30, 31, 32, 33, 34, 35, 36, 37, 38, 39, 40] (by decide +kernel) (by decide +kernel)
set_option maxRecDepth 20000 in
theorem gX1_gaps_X1_markGap : GoodIn wsX1_gaps (wsV RX1 172 RX1 yX1_markGap wsX1_markGap) := goodIn_app (goodIn_of _ (by decide +kernel)) ggX1_gaps_X1_markGap
theorem dX1_gaps_0 : decode cX1_gaps 0 = .ok (.aload_n 0, 1) := by decide +kernel
theorem dX1_gaps_1 : decode cX1_gaps 1 = .ok (.invokevirtual 169, 3) := by decide +kernel
theorem dX1_gaps_4 : decode cX1_gaps 4 = .ok (.iconst 0, 1) := by decide +kernel
theorem dX1_gaps_5 : decode cX1_gaps 5 = .ok (.istore_n 1, 1) := by decide +kernel
theorem dX1_gaps_6 : decode cX1_gaps 6 = .ok (.iconst 0, 1) := by decide +kernel
theorem dX1_gaps_7 : decode cX1_gaps 7 = .ok (.istore_n 2, 1) := by decide +kernel
theorem dX1_gaps_8 : decode cX1_gaps 8 = .ok (.iload_n 2, 1) := by decide +kernel
theorem dX1_gaps_9 : decode cX1_gaps 9 = .ok (.bipush 8, 2) := by decide +kernel
theorem dX1_gaps_11 : decode cX1_gaps 11 = .ok (.if_icmp .ge 35, 3) := by decide +kernel
theorem dX1_gaps_14 : decode cX1_gaps 14 = .ok (.iconst 0, 1) := by decide +kernel
theorem dX1_gaps_15 : decode cX1_gaps 15 = .ok (.istore_n 3, 1) := by decide +kernel
theorem dX1_gaps_16 : decode cX1_gaps 16 = .ok (.iload_n 3, 1) := by decide +kernel
theorem dX1_gaps_17 : decode cX1_gaps 17 = .ok (.bipush 10, 2) := by decide +kernel
theorem dX1_gaps_19 : decode cX1_gaps 19 = .ok (.if_icmp .ge 21, 3) := by decide +kernel
theorem dX1_gaps_22 : decode cX1_gaps 22 = .ok (.aload_n 0, 1) := by decide +kernel
theorem dX1_gaps_23 : decode cX1_gaps 23 = .ok (.iload_n 3, 1) := by decide +kernel
theorem dX1_gaps_24 : decode cX1_gaps 24 = .ok (.iload_n 2, 1) := by decide +kernel
theorem dX1_gaps_25 : decode cX1_gaps 25 = .ok (.invokevirtual 172, 3) := by decide +kernel
theorem dX1_gaps_28 : decode cX1_gaps 28 = .ok (.ifCond .le 6, 3) := by decide +kernel
theorem dX1_gaps_31 : decode cX1_gaps 31 = .ok (.iinc 1 1, 3) := by decide +kernel
theorem dX1_gaps_34 : decode cX1_gaps 34 = .ok (.iinc 3 1, 3) := by decide +kernel
theorem dX1_gaps_37 : decode cX1_gaps 37 = .ok (.goto (-21), 3) := by decide +kernel
theorem dX1_gaps_40 : decode cX1_gaps 40 = .ok (.iinc 2 1, 3) := by decide +kernel
theorem dX1_gaps_43 : decode cX1_gaps 43 = .ok (.goto (-35), 3) := by decide +kernel
theorem dX1_gaps_46 : decode cX1_gaps 46 = .ok (.iload_n 1, 1) := by decide +kernel
theorem dX1_gaps_47 : decode cX1_gaps 47 = .ok (.ireturn, 1) := by decide +kernel
set_option maxRecDepth 20000 in
theorem ggX1_markGap_X1_reach : GoodIn wsX1_markGap wsX1_reach := goodIn_r _ [6, 7, 8, 1, 9, 10, 5, 11, 12, 13, 14, 15, 16, 17, 18, 19, 20, 21, 22, 23, 24, 25, 26, 27, 28, 29, 30, 31, 32] (by decide +kernel) (by decide +kernel)
set_option maxRecDepth 20000 in
theorem gX1_markGap_X1_reach : GoodIn wsX1_markGap (wsV RX1 233 RX1 yX1_reach wsX1_reach) := goodIn_app (goodIn_of _ (by decide +kernel)) ggX1_markGap_X1_reach
theorem dX1_markGap_0 : decode cX1_markGap 0 = .ok (.aload_n 0, 1) := by decide +kernel
theorem dX1_markGap_1 : decode cX1_markGap 1 = .ok (.iload_n 1, 1) := by decide +kernel
theorem dX1_markGap_2 : decode cX1_markGap 2 = .ok (.iload_n 2, 1) := by decide +kernel
theorem dX1_markGap_3 : decode cX1_markGap 3 = .ok (.iconst 0, 1) := by decide +kernel
theorem dX1_markGap_4 : decode cX1_markGap 4 = .ok (.invokevirtual 233, 3) := by decide +kernel
theorem dX1_markGap_7 : decode cX1_markGap 7 = .ok (.istore_n 3, 1) := by decide +kernel
theorem dX1_markGap_8 : decode cX1_markGap 8 = .ok (.iconst 0, 1) := by decide +kernel
theorem dX1_markGap_9 : decode cX1_markGap 9 = .ok (.istore 4, 2) := by decide +kernel
theorem dX1_markGap_11 : decode cX1_markGap 11 = .ok (.iload 4, 2) := by decide +kernel
theorem dX1_markGap_13 : decode cX1_markGap 13 = .ok (.iload_n 3, 1) := by decide +kernel
theorem dX1_markGap_14 : decode cX1_markGap 14 = .ok (.if_icmp .ge 97, 3) := by decide +kernel
theorem dX1_markGap_17 : decode cX1_markGap 17 = .ok (.iload 4, 2) := by decide +kernel
theorem dX1_markGap_19 : decode cX1_markGap 19 = .ok (.bipush 80, 2) := by decide +kernel
theorem dX1_markGap_21 : decode cX1_markGap 21 = .ok (.if_icmp .ge 90, 3) := by decide +kernel
theorem dX1_markGap_24 : decode cX1_markGap 24 = .ok (.aload_n 0, 1) := by decide +kernel
theorem dX1_markGap_25 : decode cX1_markGap 25 = .ok (.getfield 31, 3) := by decide +kernel
theorem dX1_markGap_28 : decode cX1_markGap 28 = .ok (.iload 4, 2) := by decide +kernel
theorem dX1_markGap_30 : decode cX1_markGap 30 = .ok (.iaload, 1) := by decide +kernel
theorem dX1_markGap_31 : decode cX1_markGap 31 = .ok (.istore 5, 2) := by decide +kernel
theorem dX1_markGap_33 : decode cX1_markGap 33 = .ok (.aload_n 0, 1) := by decide +kernel
theorem dX1_markGap_34 : decode cX1_markGap 34 = .ok (.iload 5, 2) := by decide +kernel
theorem dX1_markGap_36 : decode cX1_markGap 36 = .ok (.bipush 10, 2) := by decide +kernel
theorem dX1_markGap_38 : decode cX1_markGap 38 = .ok (.irem, 1) := by decide +kernel
theorem dX1_markGap_39 : decode cX1_markGap 39 = .ok (.iconst 1, 1) := by decide +kernel
theorem dX1_markGap_40 : decode cX1_markGap 40 = .ok (.isub, 1) := by decide +kernel
theorem dX1_markGap_41 : decode cX1_markGap 41 = .ok (.iload 5, 2) := by decide +kernel
theorem dX1_markGap_43 : decode cX1_markGap 43 = .ok (.bipush 10, 2) := by decide +kernel
theorem dX1_markGap_45 : decode cX1_markGap 45 = .ok (.idiv, 1) := by decide +kernel
theorem dX1_markGap_46 : decode cX1_markGap 46 = .ok (.iload_n 3, 1) := by decide +kernel
theorem dX1_markGap_47 : decode cX1_markGap 47 = .ok (.invokevirtual 233, 3) := by decide +kernel
theorem dX1_markGap_50 : decode cX1_markGap 50 = .ok (.istore_n 3, 1) := by decide +kernel
theorem dX1_markGap_51 : decode cX1_markGap 51 = .ok (.aload_n 0, 1) := by decide +kernel
theorem dX1_markGap_52 : decode cX1_markGap 52 = .ok (.iload 5, 2) := by decide +kernel
theorem dX1_markGap_54 : decode cX1_markGap 54 = .ok (.bipush 10, 2) := by decide +kernel
theorem dX1_markGap_56 : decode cX1_markGap 56 = .ok (.irem, 1) := by decide +kernel
theorem dX1_markGap_57 : decode cX1_markGap 57 = .ok (.iconst 1, 1) := by decide +kernel
theorem dX1_markGap_58 : decode cX1_markGap 58 = .ok (.iadd, 1) := by decide +kernel
theorem dX1_markGap_59 : decode cX1_markGap 59 = .ok (.iload 5, 2) := by decide +kernel
theorem dX1_markGap_61 : decode cX1_markGap 61 = .ok (.bipush 10, 2) := by decide +kernel
theorem dX1_markGap_63 : decode cX1_markGap 63 = .ok (.idiv, 1) := by decide +kernel
theorem dX1_markGap_64 : decode cX1_markGap 64 = .ok (.iload_n 3, 1) := by decide +kernel
theorem dX1_markGap_65 : decode cX1_markGap 65 = .ok (.invokevirtual 233, 3) := by decide +kernel
theorem dX1_markGap_68 : decode cX1_markGap 68 = .ok (.istore_n 3, 1) := by decide +kernel
theorem dX1_markGap_69 : decode cX1_markGap 69 = .ok (.aload_n 0, 1) := by decide +kernel
theorem dX1_markGap_70 : decode cX1_markGap 70 = .ok (.iload 5, 2) := by decide +kernel
theorem dX1_markGap_72 : decode cX1_markGap 72 = .ok (.bipush 10, 2) := by decide +kernel
theorem dX1_markGap_74 : decode cX1_markGap 74 = .ok (.irem, 1) := by decide +kernel
theorem dX1_markGap_75 : decode cX1_markGap 75 = .ok (.iload 5, 2) := by decide +kernel
theorem dX1_markGap_77 : decode cX1_markGap 77 = .ok (.bipush 10, 2) := by decide +kernel
theorem dX1_markGap_79 : decode cX1_markGap 79 = .ok (.idiv, 1) := by decide +kernel
theorem dX1_markGap_80 : decode cX1_markGap 80 = .ok (.iconst 1, 1) := by decide +kernel
theorem dX1_markGap_81 : decode cX1_markGap 81 = .ok (.isub, 1) := by decide +kernel
theorem dX1_markGap_82 : decode cX1_markGap 82 = .ok (.iload_n 3, 1) := by decide +kernel
theorem dX1_markGap_83 : decode cX1_markGap 83 = .ok (.invokevirtual 233, 3) := by decide +kernel
theorem dX1_markGap_86 : decode cX1_markGap 86 = .ok (.istore_n 3, 1) := by decide +kernel
theorem dX1_markGap_87 : decode cX1_markGap 87 = .ok (.aload_n 0, 1) := by decide +kernel
theorem dX1_markGap_88 : decode cX1_markGap 88 = .ok (.iload 5, 2) := by decide +kernel
theorem dX1_markGap_90 : decode cX1_markGap 90 = .ok (.bipush 10, 2) := by decide +kernel
theorem dX1_markGap_92 : decode cX1_markGap 92 = .ok (.irem, 1) := by decide +kernel
theorem dX1_markGap_93 : decode cX1_markGap 93 = .ok (.iload 5, 2) := by decide +kernel
theorem dX1_markGap_95 : decode cX1_markGap 95 = .ok (.bipush 10, 2) := by decide +kernel
theorem dX1_markGap_97 : decode cX1_markGap 97 = .ok (.idiv, 1) := by decide +kernel
theorem dX1_markGap_98 : decode cX1_markGap 98 = .ok (.iconst 1, 1) := by decide +kernel
theorem dX1_markGap_99 : decode cX1_markGap 99 = .ok (.iadd, 1) := by decide +kernel
theorem dX1_markGap_100 : decode cX1_markGap 100 = .ok (.iload_n 3, 1) := by decide +kernel
end
section
theorem dX1_markGap_101 : decode cX1_markGap 101 = .ok (.invokevirtual 233, 3) := by decide +kernel
theorem dX1_markGap_104 : decode cX1_markGap 104 = .ok (.istore_n 3, 1) := by decide +kernel
theorem dX1_markGap_105 : decode cX1_markGap 105 = .ok (.iinc 4 1, 3) := by decide +kernel
theorem dX1_markGap_108 : decode cX1_markGap 108 = .ok (.goto (-97), 3) := by decide +kernel
theorem dX1_markGap_111 : decode cX1_markGap 111 = .ok (.iload_n 3, 1) := by decide +kernel
theorem dX1_markGap_112 : decode cX1_markGap 112 = .ok (.ireturn, 1) := by decide +kernel
set_option maxRecDepth 20000 in
theorem ggX1_reach_X1_cellOf : GoodIn wsX1_reach wsX1_cellOf := goodIn_r _ [7] (by decide +kernel) (by decide +kernel)
set_option maxRecDepth 20000 in
theorem gX1_reach_X1_cellOf : GoodIn wsX1_reach (va_wsS RX1 49 yX1_cellOf wsX1_cellOf) := goodIn_app (goodIn_of _ (by decide +kernel)) ggX1_reach_X1_cellOf
set_option maxRecDepth 20000 in
theorem ggX1_reach_X1_isOnWall : GoodIn wsX1_reach wsX1_isOnWall := goodIn_r _ [10, 11, 12, 6, 13] (by decide +kernel) (by decide +kernel)
set_option maxRecDepth 20000 in
theorem gX1_reach_X1_isOnWall : GoodIn wsX1_reach (va_wsS RX1 206 yX1_isOnWall wsX1_isOnWall) := goodIn_app (goodIn_of _ (by decide +kernel)) ggX1_reach_X1_isOnWall
set_option maxRecDepth 20000 in
theorem ggX1_reach_X1_at : GoodIn wsX1_reach wsX1_at := goodIn_r _ [16, 11, 12, 6, 13] (by decide +kernel) (by decide +kernel)
set_option maxRecDepth 20000 in
theorem gX1_reach_X1_at : GoodIn wsX1_reach (va_wsS RX1 53 yX1_at wsX1_at) := goodIn_app (goodIn_of _ (by decide +kernel)) ggX1_reach_X1_at
set_option maxRecDepth 20000 in
theorem ggX1_reach_X1_put : GoodIn wsX1_reach wsX1_put := goodIn_r _ [19, 11, 12, 6, 13] (by decide +kernel) (by decide +kernel)
set_option maxRecDepth 20000 in
theorem gX1_reach_X1_put : GoodIn wsX1_reach (va_wsS RX1 57 yX1_put wsX1_put) := goodIn_app (goodIn_of _ (by decide +kernel)) ggX1_reach_X1_put
theorem dX1_reach_0 : decode cX1_reach 0 = .ok (.iload_n 1, 1) := by decide +kernel
theorem dX1_reach_1 : decode cX1_reach 1 = .ok (.iload_n 2, 1) := by decide +kernel
theorem dX1_reach_2 : decode cX1_reach 2 = .ok (.invokestatic 49, 3) := by decide +kernel
theorem dX1_reach_5 : decode cX1_reach 5 = .ok (.istore 4, 2) := by decide +kernel
theorem dX1_reach_7 : decode cX1_reach 7 = .ok (.iload_n 1, 1) := by decide +kernel
theorem dX1_reach_8 : decode cX1_reach 8 = .ok (.iload_n 2, 1) := by decide +kernel
theorem dX1_reach_9 : decode cX1_reach 9 = .ok (.invokestatic 206, 3) := by decide +kernel
theorem dX1_reach_12 : decode cX1_reach 12 = .ok (.ifCond .eq 28, 3) := by decide +kernel
theorem dX1_reach_15 : decode cX1_reach 15 = .ok (.aload_n 0, 1) := by decide +kernel
theorem dX1_reach_16 : decode cX1_reach 16 = .ok (.getfield 13, 3) := by decide +kernel
theorem dX1_reach_19 : decode cX1_reach 19 = .ok (.iload 4, 2) := by decide +kernel
theorem dX1_reach_21 : decode cX1_reach 21 = .ok (.invokestatic 53, 3) := by decide +kernel
theorem dX1_reach_24 : decode cX1_reach 24 = .ok (.iconst (-1), 1) := by decide +kernel
theorem dX1_reach_25 : decode cX1_reach 25 = .ok (.if_icmp .ne 15, 3) := by decide +kernel
theorem dX1_reach_28 : decode cX1_reach 28 = .ok (.aload_n 0, 1) := by decide +kernel
theorem dX1_reach_29 : decode cX1_reach 29 = .ok (.getfield 28, 3) := by decide +kernel
theorem dX1_reach_32 : decode cX1_reach 32 = .ok (.iload 4, 2) := by decide +kernel
theorem dX1_reach_34 : decode cX1_reach 34 = .ok (.invokestatic 53, 3) := by decide +kernel
theorem dX1_reach_37 : decode cX1_reach 37 = .ok (.ifCond .eq 5, 3) := by decide +kernel
theorem dX1_reach_40 : decode cX1_reach 40 = .ok (.iload_n 3, 1) := by decide +kernel
theorem dX1_reach_41 : decode cX1_reach 41 = .ok (.ireturn, 1) := by decide +kernel
theorem dX1_reach_42 : decode cX1_reach 42 = .ok (.aload_n 0, 1) := by decide +kernel
theorem dX1_reach_43 : decode cX1_reach 43 = .ok (.getfield 28, 3) := by decide +kernel
theorem dX1_reach_46 : decode cX1_reach 46 = .ok (.iload 4, 2) := by decide +kernel
theorem dX1_reach_48 : decode cX1_reach 48 = .ok (.iconst 1, 1) := by decide +kernel
theorem dX1_reach_49 : decode cX1_reach 49 = .ok (.invokestatic 57, 3) := by decide +kernel
theorem dX1_reach_52 : decode cX1_reach 52 = .ok (.aload_n 0, 1) := by decide +kernel
theorem dX1_reach_53 : decode cX1_reach 53 = .ok (.getfield 31, 3) := by decide +kernel
theorem dX1_reach_56 : decode cX1_reach 56 = .ok (.iload_n 3, 1) := by decide +kernel
theorem dX1_reach_57 : decode cX1_reach 57 = .ok (.iload 4, 2) := by decide +kernel
theorem dX1_reach_59 : decode cX1_reach 59 = .ok (.invokestatic 57, 3) := by decide +kernel
theorem dX1_reach_62 : decode cX1_reach 62 = .ok (.iload_n 3, 1) := by decide +kernel
theorem dX1_reach_63 : decode cX1_reach 63 = .ok (.iconst 1, 1) := by decide +kernel
theorem dX1_reach_64 : decode cX1_reach 64 = .ok (.iadd, 1) := by decide +kernel
theorem dX1_reach_65 : decode cX1_reach 65 = .ok (.ireturn, 1) := by decide +kernel
set_option maxRecDepth 20000 in
theorem ggX1_piecesForMarks_X1_cellOf : GoodIn wsX1_piecesForMarks wsX1_cellOf := goodIn_r _ [5] (by decide +kernel) (by decide +kernel)
set_option maxRecDepth 20000 in
theorem gX1_piecesForMarks_X1_cellOf : GoodIn wsX1_piecesForMarks (va_wsS RX1 49 yX1_cellOf wsX1_cellOf) := goodIn_app (goodIn_of _ (by decide +kernel)) ggX1_piecesForMarks_X1_cellOf
set_option maxRecDepth 20000 in
theorem ggX1_piecesForMarks_X1_at : GoodIn wsX1_piecesForMarks wsX1_at := goodIn_r _ [8, 9, 10, 4, 11] (by decide +kernel) (by decide +kernel)
set_option maxRecDepth 20000 in
theorem gX1_piecesForMarks_X1_at : GoodIn wsX1_piecesForMarks (va_wsS RX1 53 yX1_at wsX1_at) := goodIn_app (goodIn_of _ (by decide +kernel)) ggX1_piecesForMarks_X1_at
theorem dX1_piecesForMarks_0 : decode cX1_piecesForMarks 0 = .ok (.iload_n 1, 1) := by decide +kernel
theorem dX1_piecesForMarks_1 : decode cX1_piecesForMarks 1 = .ok (.ifCond .eq 8, 3) := by decide +kernel
theorem dX1_piecesForMarks_4 : decode cX1_piecesForMarks 4 = .ok (.bipush 8, 2) := by decide +kernel
theorem dX1_piecesForMarks_6 : decode cX1_piecesForMarks 6 = .ok (.goto 5, 3) := by decide +kernel
theorem dX1_piecesForMarks_9 : decode cX1_piecesForMarks 9 = .ok (.bipush 10, 2) := by decide +kernel
theorem dX1_piecesForMarks_11 : decode cX1_piecesForMarks 11 = .ok (.istore_n 2, 1) := by decide +kernel
theorem dX1_piecesForMarks_12 : decode cX1_piecesForMarks 12 = .ok (.iload_n 1, 1) := by decide +kernel
theorem dX1_piecesForMarks_13 : decode cX1_piecesForMarks 13 = .ok (.ifCond .eq 8, 3) := by decide +kernel
theorem dX1_piecesForMarks_16 : decode cX1_piecesForMarks 16 = .ok (.bipush 10, 2) := by decide +kernel
theorem dX1_piecesForMarks_18 : decode cX1_piecesForMarks 18 = .ok (.goto 5, 3) := by decide +kernel
theorem dX1_piecesForMarks_21 : decode cX1_piecesForMarks 21 = .ok (.bipush 8, 2) := by decide +kernel
theorem dX1_piecesForMarks_23 : decode cX1_piecesForMarks 23 = .ok (.istore_n 3, 1) := by decide +kernel
theorem dX1_piecesForMarks_24 : decode cX1_piecesForMarks 24 = .ok (.iconst 0, 1) := by decide +kernel
theorem dX1_piecesForMarks_25 : decode cX1_piecesForMarks 25 = .ok (.istore 4, 2) := by decide +kernel
theorem dX1_piecesForMarks_27 : decode cX1_piecesForMarks 27 = .ok (.iconst 0, 1) := by decide +kernel
theorem dX1_piecesForMarks_28 : decode cX1_piecesForMarks 28 = .ok (.istore 5, 2) := by decide +kernel
theorem dX1_piecesForMarks_30 : decode cX1_piecesForMarks 30 = .ok (.iload 5, 2) := by decide +kernel
theorem dX1_piecesForMarks_32 : decode cX1_piecesForMarks 32 = .ok (.iload_n 2, 1) := by decide +kernel
theorem dX1_piecesForMarks_33 : decode cX1_piecesForMarks 33 = .ok (.if_icmp .ge 84, 3) := by decide +kernel
theorem dX1_piecesForMarks_36 : decode cX1_piecesForMarks 36 = .ok (.iconst 0, 1) := by decide +kernel
theorem dX1_piecesForMarks_37 : decode cX1_piecesForMarks 37 = .ok (.istore 6, 2) := by decide +kernel
theorem dX1_piecesForMarks_39 : decode cX1_piecesForMarks 39 = .ok (.iconst 0, 1) := by decide +kernel
theorem dX1_piecesForMarks_40 : decode cX1_piecesForMarks 40 = .ok (.istore 7, 2) := by decide +kernel
theorem dX1_piecesForMarks_42 : decode cX1_piecesForMarks 42 = .ok (.iload 7, 2) := by decide +kernel
theorem dX1_piecesForMarks_44 : decode cX1_piecesForMarks 44 = .ok (.iload_n 3, 1) := by decide +kernel
theorem dX1_piecesForMarks_45 : decode cX1_piecesForMarks 45 = .ok (.if_icmp .ge 66, 3) := by decide +kernel
theorem dX1_piecesForMarks_48 : decode cX1_piecesForMarks 48 = .ok (.aload_n 0, 1) := by decide +kernel
theorem dX1_piecesForMarks_49 : decode cX1_piecesForMarks 49 = .ok (.getfield 28, 3) := by decide +kernel
theorem dX1_piecesForMarks_52 : decode cX1_piecesForMarks 52 = .ok (.iload_n 1, 1) := by decide +kernel
theorem dX1_piecesForMarks_53 : decode cX1_piecesForMarks 53 = .ok (.ifCond .eq 13, 3) := by decide +kernel
theorem dX1_piecesForMarks_56 : decode cX1_piecesForMarks 56 = .ok (.iload 7, 2) := by decide +kernel
theorem dX1_piecesForMarks_58 : decode cX1_piecesForMarks 58 = .ok (.iload 5, 2) := by decide +kernel
theorem dX1_piecesForMarks_60 : decode cX1_piecesForMarks 60 = .ok (.invokestatic 49, 3) := by decide +kernel
theorem dX1_piecesForMarks_63 : decode cX1_piecesForMarks 63 = .ok (.goto 10, 3) := by decide +kernel
theorem dX1_piecesForMarks_66 : decode cX1_piecesForMarks 66 = .ok (.iload 5, 2) := by decide +kernel
theorem dX1_piecesForMarks_68 : decode cX1_piecesForMarks 68 = .ok (.iload 7, 2) := by decide +kernel
theorem dX1_piecesForMarks_70 : decode cX1_piecesForMarks 70 = .ok (.invokestatic 49, 3) := by decide +kernel
theorem dX1_piecesForMarks_73 : decode cX1_piecesForMarks 73 = .ok (.invokestatic 53, 3) := by decide +kernel
theorem dX1_piecesForMarks_76 : decode cX1_piecesForMarks 76 = .ok (.ifCond .ne 9, 3) := by decide +kernel
theorem dX1_piecesForMarks_79 : decode cX1_piecesForMarks 79 = .ok (.iconst 0, 1) := by decide +kernel
theorem dX1_piecesForMarks_80 : decode cX1_piecesForMarks 80 = .ok (.istore 6, 2) := by decide +kernel
theorem dX1_piecesForMarks_82 : decode cX1_piecesForMarks 82 = .ok (.goto 23, 3) := by decide +kernel
theorem dX1_piecesForMarks_85 : decode cX1_piecesForMarks 85 = .ok (.iload 4, 2) := by decide +kernel
theorem dX1_piecesForMarks_87 : decode cX1_piecesForMarks 87 = .ok (.iload 6, 2) := by decide +kernel
theorem dX1_piecesForMarks_89 : decode cX1_piecesForMarks 89 = .ok (.iconst 3, 1) := by decide +kernel
theorem dX1_piecesForMarks_90 : decode cX1_piecesForMarks 90 = .ok (.irem, 1) := by decide +kernel
theorem dX1_piecesForMarks_91 : decode cX1_piecesForMarks 91 = .ok (.ifCond .ne 7, 3) := by decide +kernel
theorem dX1_piecesForMarks_94 : decode cX1_piecesForMarks 94 = .ok (.iconst 1, 1) := by decide +kernel
theorem dX1_piecesForMarks_95 : decode cX1_piecesForMarks 95 = .ok (.goto 4, 3) := by decide +kernel
theorem dX1_piecesForMarks_98 : decode cX1_piecesForMarks 98 = .ok (.iconst 0, 1) := by decide +kernel
theorem dX1_piecesForMarks_99 : decode cX1_piecesForMarks 99 = .ok (.iadd, 1) := by decide +kernel
theorem dX1_piecesForMarks_100 : decode cX1_piecesForMarks 100 = .ok (.istore 4, 2) := by decide +kernel
theorem dX1_piecesForMarks_102 : decode cX1_piecesForMarks 102 = .ok (.iinc 6 1, 3) := by decide +kernel
theorem dX1_piecesForMarks_105 : decode cX1_piecesForMarks 105 = .ok (.iinc 7 1, 3) := by decide +kernel
theorem dX1_piecesForMarks_108 : decode cX1_piecesForMarks 108 = .ok (.goto (-66), 3) := by decide +kernel
theorem dX1_piecesForMarks_111 : decode cX1_piecesForMarks 111 = .ok (.iinc 5 1, 3) := by decide +kernel
theorem dX1_piecesForMarks_114 : decode cX1_piecesForMarks 114 = .ok (.goto (-84), 3) := by decide +kernel
theorem dX1_piecesForMarks_117 : decode cX1_piecesForMarks 117 = .ok (.iload 4, 2) := by decide +kernel
theorem dX1_piecesForMarks_119 : decode cX1_piecesForMarks 119 = .ok (.ireturn, 1) := by decide +kernel
set_option maxRecDepth 20000 in
theorem ggX1_dryOneHour_J9_floorMod_7cf53 : GoodIn wsX1_dryOneHour wsJ9_floorMod_7cf53 := goodIn_r _ [10] (by decide +kernel) (by decide +kernel)
set_option maxRecDepth 20000 in
theorem gX1_dryOneHour_J9_floorMod_7cf53 : GoodIn wsX1_dryOneHour (va_wsS RX1 236 yJ9_floorMod_7cf53 wsJ9_floorMod_7cf53) := goodIn_app (goodIn_of _ (by decide +kernel)) ggX1_dryOneHour_J9_floorMod_7cf53
set_option maxRecDepth 20000 in
theorem ggX1_dryOneHour_X1_at : GoodIn wsX1_dryOneHour wsX1_at := goodIn_r _ [14, 15, 16, 13, 17] (by decide +kernel) (by decide +kernel)
set_option maxRecDepth 20000 in
theorem gX1_dryOneHour_X1_at : GoodIn wsX1_dryOneHour (va_wsS RX1 53 yX1_at wsX1_at) := goodIn_app (goodIn_of _ (by decide +kernel)) ggX1_dryOneHour_X1_at
set_option maxRecDepth 20000 in
theorem ggX1_dryOneHour_X1_put : GoodIn wsX1_dryOneHour wsX1_put := goodIn_r _ [20, 15, 16, 13, 17] (by decide +kernel) (by decide +kernel)
set_option maxRecDepth 20000 in
theorem gX1_dryOneHour_X1_put : GoodIn wsX1_dryOneHour (va_wsS RX1 57 yX1_put wsX1_put) := goodIn_app (goodIn_of _ (by decide +kernel)) ggX1_dryOneHour_X1_put
theorem dX1_dryOneHour_0 : decode cX1_dryOneHour 0 = .ok (.aload_n 0, 1) := by decide +kernel
theorem dX1_dryOneHour_1 : decode cX1_dryOneHour 1 = .ok (.getfield 16, 3) := by decide +kernel
theorem dX1_dryOneHour_4 : decode cX1_dryOneHour 4 = .ok (.iload_n 2, 1) := by decide +kernel
theorem dX1_dryOneHour_5 : decode cX1_dryOneHour 5 = .ok (.bipush 8, 2) := by decide +kernel
theorem dX1_dryOneHour_7 : decode cX1_dryOneHour 7 = .ok (.invokestatic 236, 3) := by decide +kernel
theorem dX1_dryOneHour_10 : decode cX1_dryOneHour 10 = .ok (.invokestatic 53, 3) := by decide +kernel
theorem dX1_dryOneHour_13 : decode cX1_dryOneHour 13 = .ok (.istore_n 3, 1) := by decide +kernel
theorem dX1_dryOneHour_14 : decode cX1_dryOneHour 14 = .ok (.iload_n 2, 1) := by decide +kernel
theorem dX1_dryOneHour_15 : decode cX1_dryOneHour 15 = .ok (.iconst 2, 1) := by decide +kernel
theorem dX1_dryOneHour_16 : decode cX1_dryOneHour 16 = .ok (.irem, 1) := by decide +kernel
theorem dX1_dryOneHour_17 : decode cX1_dryOneHour 17 = .ok (.ifCond .ne 7, 3) := by decide +kernel
theorem dX1_dryOneHour_20 : decode cX1_dryOneHour 20 = .ok (.iconst 1, 1) := by decide +kernel
theorem dX1_dryOneHour_21 : decode cX1_dryOneHour 21 = .ok (.goto 4, 3) := by decide +kernel
theorem dX1_dryOneHour_24 : decode cX1_dryOneHour 24 = .ok (.iconst 0, 1) := by decide +kernel
theorem dX1_dryOneHour_25 : decode cX1_dryOneHour 25 = .ok (.istore 4, 2) := by decide +kernel
theorem dX1_dryOneHour_27 : decode cX1_dryOneHour 27 = .ok (.iconst 0, 1) := by decide +kernel
theorem dX1_dryOneHour_28 : decode cX1_dryOneHour 28 = .ok (.istore 5, 2) := by decide +kernel
theorem dX1_dryOneHour_30 : decode cX1_dryOneHour 30 = .ok (.iload 5, 2) := by decide +kernel
theorem dX1_dryOneHour_32 : decode cX1_dryOneHour 32 = .ok (.bipush 80, 2) := by decide +kernel
theorem dX1_dryOneHour_34 : decode cX1_dryOneHour 34 = .ok (.if_icmp .ge 67, 3) := by decide +kernel
theorem dX1_dryOneHour_37 : decode cX1_dryOneHour 37 = .ok (.aload_n 0, 1) := by decide +kernel
theorem dX1_dryOneHour_38 : decode cX1_dryOneHour 38 = .ok (.getfield 13, 3) := by decide +kernel
theorem dX1_dryOneHour_41 : decode cX1_dryOneHour 41 = .ok (.iload 5, 2) := by decide +kernel
theorem dX1_dryOneHour_43 : decode cX1_dryOneHour 43 = .ok (.invokestatic 53, 3) := by decide +kernel
theorem dX1_dryOneHour_46 : decode cX1_dryOneHour 46 = .ok (.iconst (-1), 1) := by decide +kernel
theorem dX1_dryOneHour_47 : decode cX1_dryOneHour 47 = .ok (.if_icmp .ne 7, 3) := by decide +kernel
theorem dX1_dryOneHour_50 : decode cX1_dryOneHour 50 = .ok (.iconst 1, 1) := by decide +kernel
theorem dX1_dryOneHour_51 : decode cX1_dryOneHour 51 = .ok (.goto 4, 3) := by decide +kernel
theorem dX1_dryOneHour_54 : decode cX1_dryOneHour 54 = .ok (.iconst 0, 1) := by decide +kernel
theorem dX1_dryOneHour_55 : decode cX1_dryOneHour 55 = .ok (.istore 6, 2) := by decide +kernel
theorem dX1_dryOneHour_57 : decode cX1_dryOneHour 57 = .ok (.aload_n 1, 1) := by decide +kernel
theorem dX1_dryOneHour_58 : decode cX1_dryOneHour 58 = .ok (.iload 5, 2) := by decide +kernel
theorem dX1_dryOneHour_60 : decode cX1_dryOneHour 60 = .ok (.invokestatic 53, 3) := by decide +kernel
theorem dX1_dryOneHour_63 : decode cX1_dryOneHour 63 = .ok (.iconst 1, 1) := by decide +kernel
theorem dX1_dryOneHour_64 : decode cX1_dryOneHour 64 = .ok (.if_icmp .lt 31, 3) := by decide +kernel
theorem dX1_dryOneHour_67 : decode cX1_dryOneHour 67 = .ok (.iload 6, 2) := by decide +kernel
theorem dX1_dryOneHour_69 : decode cX1_dryOneHour 69 = .ok (.ifCond .ne 8, 3) := by decide +kernel
theorem dX1_dryOneHour_72 : decode cX1_dryOneHour 72 = .ok (.iload 4, 2) := by decide +kernel
theorem dX1_dryOneHour_74 : decode cX1_dryOneHour 74 = .ok (.ifCond .eq 21, 3) := by decide +kernel
theorem dX1_dryOneHour_77 : decode cX1_dryOneHour 77 = .ok (.aload_n 1, 1) := by decide +kernel
theorem dX1_dryOneHour_78 : decode cX1_dryOneHour 78 = .ok (.iload 5, 2) := by decide +kernel
theorem dX1_dryOneHour_80 : decode cX1_dryOneHour 80 = .ok (.iconst 0, 1) := by decide +kernel
theorem dX1_dryOneHour_81 : decode cX1_dryOneHour 81 = .ok (.aload_n 1, 1) := by decide +kernel
theorem dX1_dryOneHour_82 : decode cX1_dryOneHour 82 = .ok (.iload 5, 2) := by decide +kernel
theorem dX1_dryOneHour_84 : decode cX1_dryOneHour 84 = .ok (.invokestatic 53, 3) := by decide +kernel
theorem dX1_dryOneHour_87 : decode cX1_dryOneHour 87 = .ok (.iload_n 3, 1) := by decide +kernel
theorem dX1_dryOneHour_88 : decode cX1_dryOneHour 88 = .ok (.isub, 1) := by decide +kernel
theorem dX1_dryOneHour_89 : decode cX1_dryOneHour 89 = .ok (.invokestatic 241, 3) := by decide +kernel
theorem dX1_dryOneHour_92 : decode cX1_dryOneHour 92 = .ok (.invokestatic 57, 3) := by decide +kernel
theorem dX1_dryOneHour_95 : decode cX1_dryOneHour 95 = .ok (.iinc 5 1, 3) := by decide +kernel
theorem dX1_dryOneHour_98 : decode cX1_dryOneHour 98 = .ok (.goto (-68), 3) := by decide +kernel
theorem dX1_dryOneHour_101 : decode cX1_dryOneHour 101 = .ok (.return_, 1) := by decide +kernel
theorem dX2_init_0 : decode cX2_init 0 = .ok (.aload_n 0, 1) := by decide +kernel
theorem dX2_init_1 : decode cX2_init 1 = .ok (.aload_n 1, 1) := by decide +kernel
theorem dX2_init_2 : decode cX2_init 2 = .ok (.putfield 3, 3) := by decide +kernel
theorem dX2_init_5 : decode cX2_init 5 = .ok (.aload_n 0, 1) := by decide +kernel
theorem dX2_init_6 : decode cX2_init 6 = .ok (.invokespecial 9, 3) := by decide +kernel
theorem dX2_init_9 : decode cX2_init 9 = .ok (.aload_n 0, 1) := by decide +kernel
theorem dX2_init_10 : decode cX2_init 10 = .ok (.bipush 80, 2) := by decide +kernel
theorem dX2_init_12 : decode cX2_init 12 = .ok (.newarray .int, 2) := by decide +kernel
theorem dX2_init_14 : decode cX2_init 14 = .ok (.putfield 15, 3) := by decide +kernel
theorem dX2_init_17 : decode cX2_init 17 = .ok (.return_, 1) := by decide +kernel
theorem dX2_become_0 : decode cX2_become 0 = .ok (.aload_n 0, 1) := by decide +kernel
theorem dX2_become_1 : decode cX2_become 1 = .ok (.aload_n 1, 1) := by decide +kernel
theorem dX2_become_2 : decode cX2_become 2 = .ok (.getfield 19, 3) := by decide +kernel
theorem dX2_become_5 : decode cX2_become 5 = .ok (.putfield 19, 3) := by decide +kernel
theorem dX2_become_8 : decode cX2_become 8 = .ok (.aload_n 1, 1) := by decide +kernel
theorem dX2_become_9 : decode cX2_become 9 = .ok (.getfield 15, 3) := by decide +kernel
theorem dX2_become_12 : decode cX2_become 12 = .ok (.iconst 0, 1) := by decide +kernel
theorem dX2_become_13 : decode cX2_become 13 = .ok (.aload_n 0, 1) := by decide +kernel
theorem dX2_become_14 : decode cX2_become 14 = .ok (.getfield 15, 3) := by decide +kernel
theorem dX2_become_17 : decode cX2_become 17 = .ok (.iconst 0, 1) := by decide +kernel
theorem dX2_become_18 : decode cX2_become 18 = .ok (.bipush 80, 2) := by decide +kernel
theorem dX2_become_20 : decode cX2_become 20 = .ok (.invokestatic 23, 3) := by decide +kernel
theorem dX2_become_23 : decode cX2_become 23 = .ok (.return_, 1) := by decide +kernel
theorem dX2_pass_0 : decode cX2_pass 0 = .ok (.aload_n 0, 1) := by decide +kernel
theorem dX2_pass_1 : decode cX2_pass 1 = .ok (.getfield 3, 3) := by decide +kernel
theorem dX2_pass_4 : decode cX2_pass 4 = .ok (.getfield 29, 3) := by decide +kernel
theorem dX2_pass_7 : decode cX2_pass 7 = .ok (.aload_n 0, 1) := by decide +kernel
theorem dX2_pass_8 : decode cX2_pass 8 = .ok (.getfield 19, 3) := by decide +kernel
theorem dX2_pass_11 : decode cX2_pass 11 = .ok (.bipush 8, 2) := by decide +kernel
theorem dX2_pass_13 : decode cX2_pass 13 = .ok (.irem, 1) := by decide +kernel
theorem dX2_pass_14 : decode cX2_pass 14 = .ok (.iaload, 1) := by decide +kernel
theorem dX2_pass_15 : decode cX2_pass 15 = .ok (.istore_n 1, 1) := by decide +kernel
theorem dX2_pass_16 : decode cX2_pass 16 = .ok (.iconst 0, 1) := by decide +kernel
theorem dX2_pass_17 : decode cX2_pass 17 = .ok (.istore_n 2, 1) := by decide +kernel
theorem dX2_pass_18 : decode cX2_pass 18 = .ok (.iload_n 2, 1) := by decide +kernel
theorem dX2_pass_19 : decode cX2_pass 19 = .ok (.bipush 80, 2) := by decide +kernel
theorem dX2_pass_21 : decode cX2_pass 21 = .ok (.if_icmp .ge 58, 3) := by decide +kernel
theorem dX2_pass_24 : decode cX2_pass 24 = .ok (.aload_n 0, 1) := by decide +kernel
theorem dX2_pass_25 : decode cX2_pass 25 = .ok (.getfield 15, 3) := by decide +kernel
theorem dX2_pass_28 : decode cX2_pass 28 = .ok (.iload_n 2, 1) := by decide +kernel
theorem dX2_pass_29 : decode cX2_pass 29 = .ok (.iaload, 1) := by decide +kernel
theorem dX2_pass_30 : decode cX2_pass 30 = .ok (.ifCond .le 43, 3) := by decide +kernel
theorem dX2_pass_33 : decode cX2_pass 33 = .ok (.aload_n 0, 1) := by decide +kernel
theorem dX2_pass_34 : decode cX2_pass 34 = .ok (.getfield 3, 3) := by decide +kernel
theorem dX2_pass_37 : decode cX2_pass 37 = .ok (.getfield 32, 3) := by decide +kernel
theorem dX2_pass_40 : decode cX2_pass 40 = .ok (.iload_n 2, 1) := by decide +kernel
theorem dX2_pass_41 : decode cX2_pass 41 = .ok (.iaload, 1) := by decide +kernel
theorem dX2_pass_42 : decode cX2_pass 42 = .ok (.iconst (-1), 1) := by decide +kernel
theorem dX2_pass_43 : decode cX2_pass 43 = .ok (.if_icmp .eq 12, 3) := by decide +kernel
theorem dX2_pass_46 : decode cX2_pass 46 = .ok (.aload_n 0, 1) := by decide +kernel
theorem dX2_pass_47 : decode cX2_pass 47 = .ok (.getfield 19, 3) := by decide +kernel
theorem dX2_pass_50 : decode cX2_pass 50 = .ok (.iconst 2, 1) := by decide +kernel
theorem dX2_pass_51 : decode cX2_pass 51 = .ok (.irem, 1) := by decide +kernel
theorem dX2_pass_52 : decode cX2_pass 52 = .ok (.ifCond .ne 21, 3) := by decide +kernel
theorem dX2_pass_55 : decode cX2_pass 55 = .ok (.aload_n 0, 1) := by decide +kernel
theorem dX2_pass_56 : decode cX2_pass 56 = .ok (.getfield 15, 3) := by decide +kernel
theorem dX2_pass_59 : decode cX2_pass 59 = .ok (.iload_n 2, 1) := by decide +kernel
theorem dX2_pass_60 : decode cX2_pass 60 = .ok (.iconst 0, 1) := by decide +kernel
theorem dX2_pass_61 : decode cX2_pass 61 = .ok (.aload_n 0, 1) := by decide +kernel
theorem dX2_pass_62 : decode cX2_pass 62 = .ok (.getfield 15, 3) := by decide +kernel
theorem dX2_pass_65 : decode cX2_pass 65 = .ok (.iload_n 2, 1) := by decide +kernel
theorem dX2_pass_66 : decode cX2_pass 66 = .ok (.iaload, 1) := by decide +kernel
theorem dX2_pass_67 : decode cX2_pass 67 = .ok (.iload_n 1, 1) := by decide +kernel
theorem dX2_pass_68 : decode cX2_pass 68 = .ok (.isub, 1) := by decide +kernel
theorem dX2_pass_69 : decode cX2_pass 69 = .ok (.invokestatic 35, 3) := by decide +kernel
theorem dX2_pass_72 : decode cX2_pass 72 = .ok (.iastore, 1) := by decide +kernel
theorem dX2_pass_73 : decode cX2_pass 73 = .ok (.iinc 2 1, 3) := by decide +kernel
theorem dX2_pass_76 : decode cX2_pass 76 = .ok (.goto (-58), 3) := by decide +kernel
theorem dX2_pass_79 : decode cX2_pass 79 = .ok (.aload_n 0, 1) := by decide +kernel
theorem dX2_pass_80 : decode cX2_pass 80 = .ok (.dup, 1) := by decide +kernel
theorem dX2_pass_81 : decode cX2_pass 81 = .ok (.getfield 19, 3) := by decide +kernel
theorem dX2_pass_84 : decode cX2_pass 84 = .ok (.iconst 1, 1) := by decide +kernel
theorem dX2_pass_85 : decode cX2_pass 85 = .ok (.iadd, 1) := by decide +kernel
theorem dX2_pass_86 : decode cX2_pass 86 = .ok (.putfield 19, 3) := by decide +kernel
theorem dX2_pass_89 : decode cX2_pass 89 = .ok (.return_, 1) := by decide +kernel
theorem dX2_wetOnes_0 : decode cX2_wetOnes 0 = .ok (.iconst 0, 1) := by decide +kernel
theorem dX2_wetOnes_1 : decode cX2_wetOnes 1 = .ok (.istore_n 1, 1) := by decide +kernel
theorem dX2_wetOnes_2 : decode cX2_wetOnes 2 = .ok (.aload_n 0, 1) := by decide +kernel
theorem dX2_wetOnes_3 : decode cX2_wetOnes 3 = .ok (.getfield 15, 3) := by decide +kernel
theorem dX2_wetOnes_6 : decode cX2_wetOnes 6 = .ok (.astore_n 2, 1) := by decide +kernel
theorem dX2_wetOnes_7 : decode cX2_wetOnes 7 = .ok (.aload_n 2, 1) := by decide +kernel
theorem dX2_wetOnes_8 : decode cX2_wetOnes 8 = .ok (.arraylength, 1) := by decide +kernel
theorem dX2_wetOnes_9 : decode cX2_wetOnes 9 = .ok (.istore_n 3, 1) := by decide +kernel
theorem dX2_wetOnes_10 : decode cX2_wetOnes 10 = .ok (.iconst 0, 1) := by decide +kernel
theorem dX2_wetOnes_11 : decode cX2_wetOnes 11 = .ok (.istore 4, 2) := by decide +kernel
theorem dX2_wetOnes_13 : decode cX2_wetOnes 13 = .ok (.iload 4, 2) := by decide +kernel
theorem dX2_wetOnes_15 : decode cX2_wetOnes 15 = .ok (.iload_n 3, 1) := by decide +kernel
theorem dX2_wetOnes_16 : decode cX2_wetOnes 16 = .ok (.if_icmp .ge 28, 3) := by decide +kernel
theorem dX2_wetOnes_19 : decode cX2_wetOnes 19 = .ok (.aload_n 2, 1) := by decide +kernel
theorem dX2_wetOnes_20 : decode cX2_wetOnes 20 = .ok (.iload 4, 2) := by decide +kernel
theorem dX2_wetOnes_22 : decode cX2_wetOnes 22 = .ok (.iaload, 1) := by decide +kernel
theorem dX2_wetOnes_23 : decode cX2_wetOnes 23 = .ok (.istore 5, 2) := by decide +kernel
theorem dX2_wetOnes_25 : decode cX2_wetOnes 25 = .ok (.iload_n 1, 1) := by decide +kernel
theorem dX2_wetOnes_26 : decode cX2_wetOnes 26 = .ok (.iload 5, 2) := by decide +kernel
theorem dX2_wetOnes_28 : decode cX2_wetOnes 28 = .ok (.ifCond .le 7, 3) := by decide +kernel
theorem dX2_wetOnes_31 : decode cX2_wetOnes 31 = .ok (.iconst 1, 1) := by decide +kernel
theorem dX2_wetOnes_32 : decode cX2_wetOnes 32 = .ok (.goto 4, 3) := by decide +kernel
theorem dX2_wetOnes_35 : decode cX2_wetOnes 35 = .ok (.iconst 0, 1) := by decide +kernel
theorem dX2_wetOnes_36 : decode cX2_wetOnes 36 = .ok (.iadd, 1) := by decide +kernel
theorem dX2_wetOnes_37 : decode cX2_wetOnes 37 = .ok (.istore_n 1, 1) := by decide +kernel
theorem dX2_wetOnes_38 : decode cX2_wetOnes 38 = .ok (.iinc 4 1, 3) := by decide +kernel
theorem dX2_wetOnes_41 : decode cX2_wetOnes 41 = .ok (.goto (-28), 3) := by decide +kernel
theorem dX2_wetOnes_44 : decode cX2_wetOnes 44 = .ok (.iload_n 1, 1) := by decide +kernel
theorem dX2_wetOnes_45 : decode cX2_wetOnes 45 = .ok (.ireturn, 1) := by decide +kernel
theorem dX2_isLoose_0 : decode cX2_isLoose 0 = .ok (.aload_n 0, 1) := by decide +kernel
theorem dX2_isLoose_1 : decode cX2_isLoose 1 = .ok (.getfield 3, 3) := by decide +kernel
theorem dX2_isLoose_4 : decode cX2_isLoose 4 = .ok (.getfield 41, 3) := by decide +kernel
theorem dX2_isLoose_7 : decode cX2_isLoose 7 = .ok (.iload_n 1, 1) := by decide +kernel
theorem dX2_isLoose_8 : decode cX2_isLoose 8 = .ok (.iaload, 1) := by decide +kernel
theorem dX2_isLoose_9 : decode cX2_isLoose 9 = .ok (.iconst 1, 1) := by decide +kernel
theorem dX2_isLoose_10 : decode cX2_isLoose 10 = .ok (.if_icmp .ne 5, 3) := by decide +kernel
theorem dX2_isLoose_13 : decode cX2_isLoose 13 = .ok (.iconst 0, 1) := by decide +kernel
theorem dX2_isLoose_14 : decode cX2_isLoose 14 = .ok (.ireturn, 1) := by decide +kernel
theorem dX2_isLoose_15 : decode cX2_isLoose 15 = .ok (.aload_n 0, 1) := by decide +kernel
theorem dX2_isLoose_16 : decode cX2_isLoose 16 = .ok (.getfield 3, 3) := by decide +kernel
theorem dX2_isLoose_19 : decode cX2_isLoose 19 = .ok (.getfield 44, 3) := by decide +kernel
theorem dX2_isLoose_22 : decode cX2_isLoose 22 = .ok (.iload_n 1, 1) := by decide +kernel
theorem dX2_isLoose_23 : decode cX2_isLoose 23 = .ok (.iaload, 1) := by decide +kernel
theorem dX2_isLoose_24 : decode cX2_isLoose 24 = .ok (.iconst 1, 1) := by decide +kernel
theorem dX2_isLoose_25 : decode cX2_isLoose 25 = .ok (.if_icmp .ne 7, 3) := by decide +kernel
theorem dX2_isLoose_28 : decode cX2_isLoose 28 = .ok (.iconst 1, 1) := by decide +kernel
theorem dX2_isLoose_29 : decode cX2_isLoose 29 = .ok (.goto 5, 3) := by decide +kernel
theorem dX2_isLoose_32 : decode cX2_isLoose 32 = .ok (.bipush 10, 2) := by decide +kernel
theorem dX2_isLoose_34 : decode cX2_isLoose 34 = .ok (.istore_n 2, 1) := by decide +kernel
theorem dX2_isLoose_35 : decode cX2_isLoose 35 = .ok (.iconst 0, 1) := by decide +kernel
theorem dX2_isLoose_36 : decode cX2_isLoose 36 = .ok (.istore_n 3, 1) := by decide +kernel
theorem dX2_isLoose_37 : decode cX2_isLoose 37 = .ok (.iload_n 3, 1) := by decide +kernel
theorem dX2_isLoose_38 : decode cX2_isLoose 38 = .ok (.aload_n 0, 1) := by decide +kernel
theorem dX2_isLoose_39 : decode cX2_isLoose 39 = .ok (.getfield 3, 3) := by decide +kernel
theorem dX2_isLoose_42 : decode cX2_isLoose 42 = .ok (.getfield 47, 3) := by decide +kernel
theorem dX2_isLoose_45 : decode cX2_isLoose 45 = .ok (.iload_n 1, 1) := by decide +kernel
theorem dX2_isLoose_46 : decode cX2_isLoose 46 = .ok (.iaload, 1) := by decide +kernel
theorem dX2_isLoose_47 : decode cX2_isLoose 47 = .ok (.if_icmp .ge 33, 3) := by decide +kernel
theorem dX2_isLoose_50 : decode cX2_isLoose 50 = .ok (.aload_n 0, 1) := by decide +kernel
theorem dX2_isLoose_51 : decode cX2_isLoose 51 = .ok (.getfield 15, 3) := by decide +kernel
theorem dX2_isLoose_54 : decode cX2_isLoose 54 = .ok (.aload_n 0, 1) := by decide +kernel
theorem dX2_isLoose_55 : decode cX2_isLoose 55 = .ok (.getfield 3, 3) := by decide +kernel
theorem dX2_isLoose_58 : decode cX2_isLoose 58 = .ok (.getfield 50, 3) := by decide +kernel
theorem dX2_isLoose_61 : decode cX2_isLoose 61 = .ok (.iload_n 1, 1) := by decide +kernel
theorem dX2_isLoose_62 : decode cX2_isLoose 62 = .ok (.iaload, 1) := by decide +kernel
theorem dX2_isLoose_63 : decode cX2_isLoose 63 = .ok (.iload_n 3, 1) := by decide +kernel
theorem dX2_isLoose_64 : decode cX2_isLoose 64 = .ok (.iload_n 2, 1) := by decide +kernel
theorem dX2_isLoose_65 : decode cX2_isLoose 65 = .ok (.imul, 1) := by decide +kernel
theorem dX2_isLoose_66 : decode cX2_isLoose 66 = .ok (.iadd, 1) := by decide +kernel
theorem dX2_isLoose_67 : decode cX2_isLoose 67 = .ok (.iaload, 1) := by decide +kernel
theorem dX2_isLoose_68 : decode cX2_isLoose 68 = .ok (.iconst 1, 1) := by decide +kernel
theorem dX2_isLoose_69 : decode cX2_isLoose 69 = .ok (.if_icmp .ge 5, 3) := by decide +kernel
theorem dX2_isLoose_72 : decode cX2_isLoose 72 = .ok (.iconst 0, 1) := by decide +kernel
theorem dX2_isLoose_73 : decode cX2_isLoose 73 = .ok (.ireturn, 1) := by decide +kernel
theorem dX2_isLoose_74 : decode cX2_isLoose 74 = .ok (.iinc 3 1, 3) := by decide +kernel
theorem dX2_isLoose_77 : decode cX2_isLoose 77 = .ok (.goto (-40), 3) := by decide +kernel
theorem dX2_isLoose_80 : decode cX2_isLoose 80 = .ok (.iconst 1, 1) := by decide +kernel
theorem dX2_isLoose_81 : decode cX2_isLoose 81 = .ok (.ireturn, 1) := by decide +kernel
set_option maxRecDepth 20000 in
theorem ggX3_init_X2_init : GoodIn wsX3_init wsX2_init := goodIn_r _ [21, 22, 23, 2, 3, 4, 24, 39, 40, 41] (by decide +kernel) (by decide +kernel)
set_option maxRecDepth 20000 in
theorem gX3_init_X2_init_n42 : GoodIn wsX3_init (wsX2_init) := ggX3_init_X2_init
theorem dX3_init_0 : decode cX3_init 0 = .ok (.aload_n 0, 1) := by decide +kernel
theorem dX3_init_1 : decode cX3_init 1 = .ok (.invokespecial 3, 3) := by decide +kernel
theorem dX3_init_4 : decode cX3_init 4 = .ok (.aload_n 0, 1) := by decide +kernel
theorem dX3_init_5 : decode cX3_init 5 = .ok (.bipush 100, 2) := by decide +kernel
theorem dX3_init_7 : decode cX3_init 7 = .ok (.newarray .int, 2) := by decide +kernel
theorem dX3_init_9 : decode cX3_init 9 = .ok (.putfield 9, 3) := by decide +kernel
theorem dX3_init_12 : decode cX3_init 12 = .ok (.aload_n 0, 1) := by decide +kernel
theorem dX3_init_13 : decode cX3_init 13 = .ok (.bipush 100, 2) := by decide +kernel
theorem dX3_init_15 : decode cX3_init 15 = .ok (.newarray .int, 2) := by decide +kernel
theorem dX3_init_17 : decode cX3_init 17 = .ok (.putfield 13, 3) := by decide +kernel
theorem dX3_init_20 : decode cX3_init 20 = .ok (.aload_n 0, 1) := by decide +kernel
theorem dX3_init_21 : decode cX3_init 21 = .ok (.bipush 100, 2) := by decide +kernel
theorem dX3_init_23 : decode cX3_init 23 = .ok (.newarray .int, 2) := by decide +kernel
theorem dX3_init_25 : decode cX3_init 25 = .ok (.putfield 16, 3) := by decide +kernel
theorem dX3_init_28 : decode cX3_init 28 = .ok (.aload_n 0, 1) := by decide +kernel
theorem dX3_init_29 : decode cX3_init 29 = .ok (.bipush 100, 2) := by decide +kernel
theorem dX3_init_31 : decode cX3_init 31 = .ok (.newarray .int, 2) := by decide +kernel
theorem dX3_init_33 : decode cX3_init 33 = .ok (.putfield 19, 3) := by decide +kernel
theorem dX3_init_36 : decode cX3_init 36 = .ok (.aload_n 0, 1) := by decide +kernel
theorem dX3_init_37 : decode cX3_init 37 = .ok (.bipush 100, 2) := by decide +kernel
theorem dX3_init_39 : decode cX3_init 39 = .ok (.newarray .int, 2) := by decide +kernel
theorem dX3_init_41 : decode cX3_init 41 = .ok (.putfield 22, 3) := by decide +kernel
theorem dX3_init_44 : decode cX3_init 44 = .ok (.aload_n 0, 1) := by decide +kernel
theorem dX3_init_45 : decode cX3_init 45 = .ok (.bipush 100, 2) := by decide +kernel
theorem dX3_init_47 : decode cX3_init 47 = .ok (.newarray .int, 2) := by decide +kernel
theorem dX3_init_49 : decode cX3_init 49 = .ok (.putfield 25, 3) := by decide +kernel
theorem dX3_init_52 : decode cX3_init 52 = .ok (.aload_n 0, 1) := by decide +kernel
theorem dX3_init_53 : decode cX3_init 53 = .ok (.bipush 80, 2) := by decide +kernel
theorem dX3_init_55 : decode cX3_init 55 = .ok (.newarray .int, 2) := by decide +kernel
theorem dX3_init_57 : decode cX3_init 57 = .ok (.putfield 28, 3) := by decide +kernel
theorem dX3_init_60 : decode cX3_init 60 = .ok (.aload_n 0, 1) := by decide +kernel
theorem dX3_init_61 : decode cX3_init 61 = .ok (.bipush 8, 2) := by decide +kernel
theorem dX3_init_63 : decode cX3_init 63 = .ok (.newarray .int, 2) := by decide +kernel
theorem dX3_init_65 : decode cX3_init 65 = .ok (.putfield 31, 3) := by decide +kernel
theorem dX3_init_68 : decode cX3_init 68 = .ok (.aload_n 0, 1) := by decide +kernel
theorem dX3_init_69 : decode cX3_init 69 = .ok (.bipush 80, 2) := by decide +kernel
theorem dX3_init_71 : decode cX3_init 71 = .ok (.newarray .int, 2) := by decide +kernel
theorem dX3_init_73 : decode cX3_init 73 = .ok (.putfield 34, 3) := by decide +kernel
theorem dX3_init_76 : decode cX3_init 76 = .ok (.aload_n 0, 1) := by decide +kernel
theorem dX3_init_77 : decode cX3_init 77 = .ok (.bipush 80, 2) := by decide +kernel
theorem dX3_init_79 : decode cX3_init 79 = .ok (.newarray .int, 2) := by decide +kernel
theorem dX3_init_81 : decode cX3_init 81 = .ok (.putfield 37, 3) := by decide +kernel
theorem dX3_init_84 : decode cX3_init 84 = .ok (.aload_n 0, 1) := by decide +kernel
theorem dX3_init_85 : decode cX3_init 85 = .ok (.new 40, 3) := by decide +kernel
theorem dX3_init_88 : decode cX3_init 88 = .ok (.dup, 1) := by decide +kernel
theorem dX3_init_89 : decode cX3_init 89 = .ok (.aload_n 0, 1) := by decide +kernel
theorem dX3_init_90 : decode cX3_init 90 = .ok (.invokespecial 42, 3) := by decide +kernel
theorem dX3_init_93 : decode cX3_init 93 = .ok (.putfield 45, 3) := by decide +kernel
theorem dX3_init_96 : decode cX3_init 96 = .ok (.aload_n 0, 1) := by decide +kernel
theorem dX3_init_97 : decode cX3_init 97 = .ok (.new 40, 3) := by decide +kernel
theorem dX3_init_100 : decode cX3_init 100 = .ok (.dup, 1) := by decide +kernel
theorem dX3_init_101 : decode cX3_init 101 = .ok (.aload_n 0, 1) := by decide +kernel
theorem dX3_init_102 : decode cX3_init 102 = .ok (.invokespecial 42, 3) := by decide +kernel
theorem dX3_init_105 : decode cX3_init 105 = .ok (.putfield 49, 3) := by decide +kernel
theorem dX3_init_108 : decode cX3_init 108 = .ok (.iconst 0, 1) := by decide +kernel
theorem dX3_init_109 : decode cX3_init 109 = .ok (.istore_n 1, 1) := by decide +kernel
theorem dX3_init_110 : decode cX3_init 110 = .ok (.iload_n 1, 1) := by decide +kernel
theorem dX3_init_111 : decode cX3_init 111 = .ok (.bipush 80, 2) := by decide +kernel
theorem dX3_init_113 : decode cX3_init 113 = .ok (.if_icmp .ge 26, 3) := by decide +kernel
theorem dX3_init_116 : decode cX3_init 116 = .ok (.aload_n 0, 1) := by decide +kernel
theorem dX3_init_117 : decode cX3_init 117 = .ok (.getfield 28, 3) := by decide +kernel
theorem dX3_init_120 : decode cX3_init 120 = .ok (.iload_n 1, 1) := by decide +kernel
theorem dX3_init_121 : decode cX3_init 121 = .ok (.iconst (-1), 1) := by decide +kernel
theorem dX3_init_122 : decode cX3_init 122 = .ok (.iastore, 1) := by decide +kernel
theorem dX3_init_123 : decode cX3_init 123 = .ok (.aload_n 0, 1) := by decide +kernel
theorem dX3_init_124 : decode cX3_init 124 = .ok (.getfield 45, 3) := by decide +kernel
theorem dX3_init_127 : decode cX3_init 127 = .ok (.getfield 52, 3) := by decide +kernel
theorem dX3_init_130 : decode cX3_init 130 = .ok (.iload_n 1, 1) := by decide +kernel
theorem dX3_init_131 : decode cX3_init 131 = .ok (.iconst (-1), 1) := by decide +kernel
theorem dX3_init_132 : decode cX3_init 132 = .ok (.iastore, 1) := by decide +kernel
theorem dX3_init_133 : decode cX3_init 133 = .ok (.iinc 1 1, 3) := by decide +kernel
theorem dX3_init_136 : decode cX3_init 136 = .ok (.goto (-26), 3) := by decide +kernel
theorem dX3_init_139 : decode cX3_init 139 = .ok (.iconst 0, 1) := by decide +kernel
theorem dX3_init_140 : decode cX3_init 140 = .ok (.istore_n 1, 1) := by decide +kernel
theorem dX3_init_141 : decode cX3_init 141 = .ok (.iload_n 1, 1) := by decide +kernel
theorem dX3_init_142 : decode cX3_init 142 = .ok (.bipush 8, 2) := by decide +kernel
theorem dX3_init_144 : decode cX3_init 144 = .ok (.if_icmp .ge 16, 3) := by decide +kernel
theorem dX3_init_147 : decode cX3_init 147 = .ok (.aload_n 0, 1) := by decide +kernel
theorem dX3_init_148 : decode cX3_init 148 = .ok (.getfield 31, 3) := by decide +kernel
theorem dX3_init_151 : decode cX3_init 151 = .ok (.iload_n 1, 1) := by decide +kernel
theorem dX3_init_152 : decode cX3_init 152 = .ok (.iconst 1, 1) := by decide +kernel
theorem dX3_init_153 : decode cX3_init 153 = .ok (.iastore, 1) := by decide +kernel
theorem dX3_init_154 : decode cX3_init 154 = .ok (.iinc 1 1, 3) := by decide +kernel
theorem dX3_init_157 : decode cX3_init 157 = .ok (.goto (-16), 3) := by decide +kernel
theorem dX3_init_160 : decode cX3_init 160 = .ok (.return_, 1) := by decide +kernel
theorem dX3_thrown_0 : decode cX3_thrown 0 = .ok (.aload_n 0, 1) := by decide +kernel
theorem dX3_thrown_1 : decode cX3_thrown 1 = .ok (.getfield 55, 3) := by decide +kernel
theorem dX3_thrown_4 : decode cX3_thrown 4 = .ok (.ireturn, 1) := by decide +kernel
theorem dX3_no_0 : decode cX3_no 0 = .ok (.aload_n 0, 1) := by decide +kernel
theorem dX3_no_1 : decode cX3_no 1 = .ok (.iload_n 1, 1) := by decide +kernel
theorem dX3_no_2 : decode cX3_no 2 = .ok (.putfield 55, 3) := by decide +kernel
theorem dX3_no_5 : decode cX3_no 5 = .ok (.iconst 0, 1) := by decide +kernel
theorem dX3_no_6 : decode cX3_no 6 = .ok (.ireturn, 1) := by decide +kernel
theorem dX3_isIn_0 : decode cX3_isIn 0 = .ok (.iload_n 0, 1) := by decide +kernel
theorem dX3_isIn_1 : decode cX3_isIn 1 = .ok (.iload_n 1, 1) := by decide +kernel
theorem dX3_isIn_2 : decode cX3_isIn 2 = .ok (.if_icmp .lt 12, 3) := by decide +kernel
theorem dX3_isIn_5 : decode cX3_isIn 5 = .ok (.iload_n 0, 1) := by decide +kernel
theorem dX3_isIn_6 : decode cX3_isIn 6 = .ok (.iload_n 2, 1) := by decide +kernel
theorem dX3_isIn_7 : decode cX3_isIn 7 = .ok (.if_icmp .gt 7, 3) := by decide +kernel
theorem dX3_isIn_10 : decode cX3_isIn 10 = .ok (.iconst 1, 1) := by decide +kernel
theorem dX3_isIn_11 : decode cX3_isIn 11 = .ok (.goto 4, 3) := by decide +kernel
theorem dX3_isIn_14 : decode cX3_isIn 14 = .ok (.iconst 0, 1) := by decide +kernel
theorem dX3_isIn_15 : decode cX3_isIn 15 = .ok (.ireturn, 1) := by decide +kernel
set_option maxRecDepth 20000 in
theorem ggX3_isCell_X3_isIn : GoodIn wsX3_isCell wsX3_isIn := goodIn_r _ [4] (by decide +kernel) (by decide +kernel)
set_option maxRecDepth 20000 in
theorem gX3_isCell_X3_isIn : GoodIn wsX3_isCell (va_wsS RX3 59 yX3_isIn wsX3_isIn) := goodIn_app (goodIn_of _ (by decide +kernel)) ggX3_isCell_X3_isIn
theorem dX3_isCell_0 : decode cX3_isCell 0 = .ok (.iload_n 0, 1) := by decide +kernel
theorem dX3_isCell_1 : decode cX3_isCell 1 = .ok (.iconst 0, 1) := by decide +kernel
theorem dX3_isCell_2 : decode cX3_isCell 2 = .ok (.bipush 9, 2) := by decide +kernel
theorem dX3_isCell_4 : decode cX3_isCell 4 = .ok (.invokestatic 59, 3) := by decide +kernel
theorem dX3_isCell_7 : decode cX3_isCell 7 = .ok (.ifCond .eq 17, 3) := by decide +kernel
theorem dX3_isCell_10 : decode cX3_isCell 10 = .ok (.iload_n 1, 1) := by decide +kernel
theorem dX3_isCell_11 : decode cX3_isCell 11 = .ok (.iconst 0, 1) := by decide +kernel
theorem dX3_isCell_12 : decode cX3_isCell 12 = .ok (.bipush 7, 2) := by decide +kernel
theorem dX3_isCell_14 : decode cX3_isCell 14 = .ok (.invokestatic 59, 3) := by decide +kernel
theorem dX3_isCell_17 : decode cX3_isCell 17 = .ok (.ifCond .eq 7, 3) := by decide +kernel
theorem dX3_isCell_20 : decode cX3_isCell 20 = .ok (.iconst 1, 1) := by decide +kernel
theorem dX3_isCell_21 : decode cX3_isCell 21 = .ok (.goto 4, 3) := by decide +kernel
theorem dX3_isCell_24 : decode cX3_isCell 24 = .ok (.iconst 0, 1) := by decide +kernel
theorem dX3_isCell_25 : decode cX3_isCell 25 = .ok (.ireturn, 1) := by decide +kernel
set_option maxRecDepth 20000 in
theorem ggX3_isColour_X3_isIn : GoodIn wsX3_isColour wsX3_isIn := goodIn_r _ [4] (by decide +kernel) (by decide +kernel)
set_option maxRecDepth 20000 in
theorem gX3_isColour_X3_isIn : GoodIn wsX3_isColour (va_wsS RX3 59 yX3_isIn wsX3_isIn) := goodIn_app (goodIn_of _ (by decide +kernel)) ggX3_isColour_X3_isIn
theorem dX3_isColour_0 : decode cX3_isColour 0 = .ok (.iload_n 0, 1) := by decide +kernel
theorem dX3_isColour_1 : decode cX3_isColour 1 = .ok (.iconst 0, 1) := by decide +kernel
theorem dX3_isColour_2 : decode cX3_isColour 2 = .ok (.bipush 6, 2) := by decide +kernel
theorem dX3_isColour_4 : decode cX3_isColour 4 = .ok (.invokestatic 59, 3) := by decide +kernel
theorem dX3_isColour_7 : decode cX3_isColour 7 = .ok (.ireturn, 1) := by decide +kernel
set_option maxRecDepth 20000 in
theorem ggX3_isPiece_X3_isIn : GoodIn wsX3_isPiece wsX3_isIn := goodIn_r _ [5] (by decide +kernel) (by decide +kernel)
set_option maxRecDepth 20000 in
theorem gX3_isPiece_X3_isIn : GoodIn wsX3_isPiece (va_wsS RX3 59 yX3_isIn wsX3_isIn) := goodIn_app (goodIn_of _ (by decide +kernel)) ggX3_isPiece_X3_isIn
theorem dX3_isPiece_0 : decode cX3_isPiece 0 = .ok (.iload_n 1, 1) := by decide +kernel
theorem dX3_isPiece_1 : decode cX3_isPiece 1 = .ok (.iconst 0, 1) := by decide +kernel
theorem dX3_isPiece_2 : decode cX3_isPiece 2 = .ok (.aload_n 0, 1) := by decide +kernel
theorem dX3_isPiece_3 : decode cX3_isPiece 3 = .ok (.getfield 63, 3) := by decide +kernel
theorem dX3_isPiece_6 : decode cX3_isPiece 6 = .ok (.iconst 1, 1) := by decide +kernel
theorem dX3_isPiece_7 : decode cX3_isPiece 7 = .ok (.isub, 1) := by decide +kernel
theorem dX3_isPiece_8 : decode cX3_isPiece 8 = .ok (.invokestatic 59, 3) := by decide +kernel
theorem dX3_isPiece_11 : decode cX3_isPiece 11 = .ok (.ireturn, 1) := by decide +kernel
set_option maxRecDepth 20000 in
theorem ggX3_spread_X3_isCell : GoodIn wsX3_spread wsX3_isCell := goodIn_r _ [7, 8, 9, 6, 10] (by decide +kernel) (by decide +kernel)
set_option maxRecDepth 20000 in
theorem gX3_spread_X3_isCell : GoodIn wsX3_spread (va_wsS RX3 66 yX3_isCell wsX3_isCell) := goodIn_app (goodIn_of _ (by decide +kernel)) ggX3_spread_X3_isCell
set_option maxRecDepth 20000 in
theorem ggX3_spread_X3_no : GoodIn wsX3_spread wsX3_no := goodIn_r _ [14, 1, 15, 16, 17, 18, 19, 20, 21, 22, 23, 24, 25, 26, 27, 28] (by decide +kernel) (by decide +kernel)
set_option maxRecDepth 20000 in
theorem gX3_spread_X3_no : GoodIn wsX3_spread (wsV RX3 70 RX3 yX3_no wsX3_no) := goodIn_app (goodIn_of _ (by decide +kernel)) ggX3_spread_X3_no
set_option maxRecDepth 20000 in
theorem ggX3_spread_X3_isIn : GoodIn wsX3_spread wsX3_isIn := goodIn_r _ [10] (by decide +kernel) (by decide +kernel)
set_option maxRecDepth 20000 in
theorem gX3_spread_X3_isIn : GoodIn wsX3_spread (va_wsS RX3 59 yX3_isIn wsX3_isIn) := goodIn_app (goodIn_of _ (by decide +kernel)) ggX3_spread_X3_isIn
theorem dX3_spread_0 : decode cX3_spread 0 = .ok (.aload_n 0, 1) := by decide +kernel
theorem dX3_spread_1 : decode cX3_spread 1 = .ok (.iconst 0, 1) := by decide +kernel
theorem dX3_spread_2 : decode cX3_spread 2 = .ok (.putfield 55, 3) := by decide +kernel
theorem dX3_spread_5 : decode cX3_spread 5 = .ok (.iload_n 1, 1) := by decide +kernel
theorem dX3_spread_6 : decode cX3_spread 6 = .ok (.iload_n 2, 1) := by decide +kernel
theorem dX3_spread_7 : decode cX3_spread 7 = .ok (.invokestatic 66, 3) := by decide +kernel
theorem dX3_spread_10 : decode cX3_spread 10 = .ok (.ifCond .ne 9, 3) := by decide +kernel
theorem dX3_spread_13 : decode cX3_spread 13 = .ok (.aload_n 0, 1) := by decide +kernel
theorem dX3_spread_14 : decode cX3_spread 14 = .ok (.iconst 1, 1) := by decide +kernel
theorem dX3_spread_15 : decode cX3_spread 15 = .ok (.invokevirtual 70, 3) := by decide +kernel
theorem dX3_spread_18 : decode cX3_spread 18 = .ok (.ireturn, 1) := by decide +kernel
theorem dX3_spread_19 : decode cX3_spread 19 = .ok (.iload_n 3, 1) := by decide +kernel
theorem dX3_spread_20 : decode cX3_spread 20 = .ok (.iconst 1, 1) := by decide +kernel
theorem dX3_spread_21 : decode cX3_spread 21 = .ok (.bipush 10, 2) := by decide +kernel
theorem dX3_spread_23 : decode cX3_spread 23 = .ok (.iload_n 1, 1) := by decide +kernel
theorem dX3_spread_24 : decode cX3_spread 24 = .ok (.isub, 1) := by decide +kernel
theorem dX3_spread_25 : decode cX3_spread 25 = .ok (.invokestatic 59, 3) := by decide +kernel
theorem dX3_spread_28 : decode cX3_spread 28 = .ok (.ifCond .eq 16, 3) := by decide +kernel
theorem dX3_spread_31 : decode cX3_spread 31 = .ok (.iload 4, 2) := by decide +kernel
theorem dX3_spread_33 : decode cX3_spread 33 = .ok (.iconst 1, 1) := by decide +kernel
theorem dX3_spread_34 : decode cX3_spread 34 = .ok (.bipush 8, 2) := by decide +kernel
theorem dX3_spread_36 : decode cX3_spread 36 = .ok (.iload_n 2, 1) := by decide +kernel
theorem dX3_spread_37 : decode cX3_spread 37 = .ok (.isub, 1) := by decide +kernel
theorem dX3_spread_38 : decode cX3_spread 38 = .ok (.invokestatic 59, 3) := by decide +kernel
theorem dX3_spread_41 : decode cX3_spread 41 = .ok (.ifCond .ne 9, 3) := by decide +kernel
theorem dX3_spread_44 : decode cX3_spread 44 = .ok (.aload_n 0, 1) := by decide +kernel
theorem dX3_spread_45 : decode cX3_spread 45 = .ok (.iconst 2, 1) := by decide +kernel
theorem dX3_spread_46 : decode cX3_spread 46 = .ok (.invokevirtual 70, 3) := by decide +kernel
theorem dX3_spread_49 : decode cX3_spread 49 = .ok (.ireturn, 1) := by decide +kernel
theorem dX3_spread_50 : decode cX3_spread 50 = .ok (.iconst 0, 1) := by decide +kernel
theorem dX3_spread_51 : decode cX3_spread 51 = .ok (.istore 5, 2) := by decide +kernel
theorem dX3_spread_53 : decode cX3_spread 53 = .ok (.iconst 0, 1) := by decide +kernel
theorem dX3_spread_54 : decode cX3_spread 54 = .ok (.istore 6, 2) := by decide +kernel
theorem dX3_spread_56 : decode cX3_spread 56 = .ok (.iload 6, 2) := by decide +kernel
theorem dX3_spread_58 : decode cX3_spread 58 = .ok (.iload_n 3, 1) := by decide +kernel
theorem dX3_spread_59 : decode cX3_spread 59 = .ok (.iload 4, 2) := by decide +kernel
theorem dX3_spread_61 : decode cX3_spread 61 = .ok (.imul, 1) := by decide +kernel
theorem dX3_spread_62 : decode cX3_spread 62 = .ok (.if_icmp .ge 56, 3) := by decide +kernel
theorem dX3_spread_65 : decode cX3_spread 65 = .ok (.bipush 10, 2) := by decide +kernel
theorem dX3_spread_67 : decode cX3_spread 67 = .ok (.iload_n 2, 1) := by decide +kernel
theorem dX3_spread_68 : decode cX3_spread 68 = .ok (.iload 6, 2) := by decide +kernel
theorem dX3_spread_70 : decode cX3_spread 70 = .ok (.iload_n 3, 1) := by decide +kernel
theorem dX3_spread_71 : decode cX3_spread 71 = .ok (.idiv, 1) := by decide +kernel
theorem dX3_spread_72 : decode cX3_spread 72 = .ok (.iadd, 1) := by decide +kernel
theorem dX3_spread_73 : decode cX3_spread 73 = .ok (.imul, 1) := by decide +kernel
theorem dX3_spread_74 : decode cX3_spread 74 = .ok (.iload_n 1, 1) := by decide +kernel
theorem dX3_spread_75 : decode cX3_spread 75 = .ok (.iadd, 1) := by decide +kernel
theorem dX3_spread_76 : decode cX3_spread 76 = .ok (.iload 6, 2) := by decide +kernel
theorem dX3_spread_78 : decode cX3_spread 78 = .ok (.iload_n 3, 1) := by decide +kernel
theorem dX3_spread_79 : decode cX3_spread 79 = .ok (.irem, 1) := by decide +kernel
theorem dX3_spread_80 : decode cX3_spread 80 = .ok (.iadd, 1) := by decide +kernel
theorem dX3_spread_81 : decode cX3_spread 81 = .ok (.istore 7, 2) := by decide +kernel
theorem dX3_spread_83 : decode cX3_spread 83 = .ok (.aload_n 0, 1) := by decide +kernel
theorem dX3_spread_84 : decode cX3_spread 84 = .ok (.getfield 28, 3) := by decide +kernel
theorem dX3_spread_87 : decode cX3_spread 87 = .ok (.iload 7, 2) := by decide +kernel
theorem dX3_spread_89 : decode cX3_spread 89 = .ok (.iaload, 1) := by decide +kernel
theorem dX3_spread_90 : decode cX3_spread 90 = .ok (.iconst (-1), 1) := by decide +kernel
theorem dX3_spread_91 : decode cX3_spread 91 = .ok (.if_icmp .eq 6, 3) := by decide +kernel
theorem dX3_spread_94 : decode cX3_spread 94 = .ok (.goto 18, 3) := by decide +kernel
theorem dX3_spread_97 : decode cX3_spread 97 = .ok (.aload_n 0, 1) := by decide +kernel
theorem dX3_spread_98 : decode cX3_spread 98 = .ok (.getfield 45, 3) := by decide +kernel
theorem dX3_spread_101 : decode cX3_spread 101 = .ok (.getfield 52, 3) := by decide +kernel
theorem dX3_spread_104 : decode cX3_spread 104 = .ok (.iload 7, 2) := by decide +kernel
theorem dX3_spread_106 : decode cX3_spread 106 = .ok (.bipush 12, 2) := by decide +kernel
theorem dX3_spread_108 : decode cX3_spread 108 = .ok (.iastore, 1) := by decide +kernel
theorem dX3_spread_109 : decode cX3_spread 109 = .ok (.iinc 5 1, 3) := by decide +kernel
theorem dX3_spread_112 : decode cX3_spread 112 = .ok (.iinc 6 1, 3) := by decide +kernel
theorem dX3_spread_115 : decode cX3_spread 115 = .ok (.goto (-59), 3) := by decide +kernel
theorem dX3_spread_118 : decode cX3_spread 118 = .ok (.iload 5, 2) := by decide +kernel
theorem dX3_spread_120 : decode cX3_spread 120 = .ok (.ireturn, 1) := by decide +kernel
set_option maxRecDepth 20000 in
theorem ggX3_setSun_X3_isIn : GoodIn wsX3_setSun wsX3_isIn := goodIn_r _ [6] (by decide +kernel) (by decide +kernel)
set_option maxRecDepth 20000 in
theorem gX3_setSun_X3_isIn : GoodIn wsX3_setSun (va_wsS RX3 59 yX3_isIn wsX3_isIn) := goodIn_app (goodIn_of _ (by decide +kernel)) ggX3_setSun_X3_isIn
set_option maxRecDepth 20000 in
theorem ggX3_setSun_X3_no : GoodIn wsX3_setSun wsX3_no := goodIn_r _ [10, 1, 11, 12, 13, 14, 15, 16, 17, 18, 19, 20, 21, 22, 23, 24] (by decide +kernel) (by decide +kernel)
set_option maxRecDepth 20000 in
theorem gX3_setSun_X3_no : GoodIn wsX3_setSun (wsV RX3 70 RX3 yX3_no wsX3_no) := goodIn_app (goodIn_of _ (by decide +kernel)) ggX3_setSun_X3_no
theorem dX3_setSun_0 : decode cX3_setSun 0 = .ok (.aload_n 0, 1) := by decide +kernel
theorem dX3_setSun_1 : decode cX3_setSun 1 = .ok (.iconst 0, 1) := by decide +kernel
theorem dX3_setSun_2 : decode cX3_setSun 2 = .ok (.putfield 55, 3) := by decide +kernel
theorem dX3_setSun_5 : decode cX3_setSun 5 = .ok (.iload_n 1, 1) := by decide +kernel
theorem dX3_setSun_6 : decode cX3_setSun 6 = .ok (.iconst 0, 1) := by decide +kernel
theorem dX3_setSun_7 : decode cX3_setSun 7 = .ok (.bipush 7, 2) := by decide +kernel
theorem dX3_setSun_9 : decode cX3_setSun 9 = .ok (.invokestatic 59, 3) := by decide +kernel
theorem dX3_setSun_12 : decode cX3_setSun 12 = .ok (.ifCond .ne 9, 3) := by decide +kernel
theorem dX3_setSun_15 : decode cX3_setSun 15 = .ok (.aload_n 0, 1) := by decide +kernel
theorem dX3_setSun_16 : decode cX3_setSun 16 = .ok (.iconst 1, 1) := by decide +kernel
theorem dX3_setSun_17 : decode cX3_setSun 17 = .ok (.invokevirtual 70, 3) := by decide +kernel
theorem dX3_setSun_20 : decode cX3_setSun 20 = .ok (.ireturn, 1) := by decide +kernel
theorem dX3_setSun_21 : decode cX3_setSun 21 = .ok (.iload_n 2, 1) := by decide +kernel
theorem dX3_setSun_22 : decode cX3_setSun 22 = .ok (.iconst 0, 1) := by decide +kernel
theorem dX3_setSun_23 : decode cX3_setSun 23 = .ok (.iconst 4, 1) := by decide +kernel
theorem dX3_setSun_24 : decode cX3_setSun 24 = .ok (.invokestatic 59, 3) := by decide +kernel
theorem dX3_setSun_27 : decode cX3_setSun 27 = .ok (.ifCond .ne 9, 3) := by decide +kernel
theorem dX3_setSun_30 : decode cX3_setSun 30 = .ok (.aload_n 0, 1) := by decide +kernel
theorem dX3_setSun_31 : decode cX3_setSun 31 = .ok (.iconst 2, 1) := by decide +kernel
theorem dX3_setSun_32 : decode cX3_setSun 32 = .ok (.invokevirtual 70, 3) := by decide +kernel
theorem dX3_setSun_35 : decode cX3_setSun 35 = .ok (.ireturn, 1) := by decide +kernel
theorem dX3_setSun_36 : decode cX3_setSun 36 = .ok (.aload_n 0, 1) := by decide +kernel
theorem dX3_setSun_37 : decode cX3_setSun 37 = .ok (.getfield 31, 3) := by decide +kernel
theorem dX3_setSun_40 : decode cX3_setSun 40 = .ok (.iload_n 1, 1) := by decide +kernel
theorem dX3_setSun_41 : decode cX3_setSun 41 = .ok (.iaload, 1) := by decide +kernel
theorem dX3_setSun_42 : decode cX3_setSun 42 = .ok (.istore_n 3, 1) := by decide +kernel
theorem dX3_setSun_43 : decode cX3_setSun 43 = .ok (.aload_n 0, 1) := by decide +kernel
theorem dX3_setSun_44 : decode cX3_setSun 44 = .ok (.getfield 31, 3) := by decide +kernel
theorem dX3_setSun_47 : decode cX3_setSun 47 = .ok (.iload_n 1, 1) := by decide +kernel
theorem dX3_setSun_48 : decode cX3_setSun 48 = .ok (.iload_n 2, 1) := by decide +kernel
theorem dX3_setSun_49 : decode cX3_setSun 49 = .ok (.iastore, 1) := by decide +kernel
theorem dX3_setSun_50 : decode cX3_setSun 50 = .ok (.iload_n 3, 1) := by decide +kernel
theorem dX3_setSun_51 : decode cX3_setSun 51 = .ok (.ireturn, 1) := by decide +kernel
theorem dX3_canLie_0 : decode cX3_canLie 0 = .ok (.iload_n 3, 1) := by decide +kernel
theorem dX3_canLie_1 : decode cX3_canLie 1 = .ok (.ifCond .eq 17, 3) := by decide +kernel
theorem dX3_canLie_4 : decode cX3_canLie 4 = .ok (.iload_n 1, 1) := by decide +kernel
theorem dX3_canLie_5 : decode cX3_canLie 5 = .ok (.bipush 10, 2) := by decide +kernel
theorem dX3_canLie_7 : decode cX3_canLie 7 = .ok (.irem, 1) := by decide +kernel
theorem dX3_canLie_8 : decode cX3_canLie 8 = .ok (.iload_n 2, 1) := by decide +kernel
theorem dX3_canLie_9 : decode cX3_canLie 9 = .ok (.iadd, 1) := by decide +kernel
theorem dX3_canLie_10 : decode cX3_canLie 10 = .ok (.bipush 10, 2) := by decide +kernel
theorem dX3_canLie_12 : decode cX3_canLie 12 = .ok (.if_icmp .le 19, 3) := by decide +kernel
theorem dX3_canLie_15 : decode cX3_canLie 15 = .ok (.goto 14, 3) := by decide +kernel
theorem dX3_canLie_18 : decode cX3_canLie 18 = .ok (.iload_n 1, 1) := by decide +kernel
theorem dX3_canLie_19 : decode cX3_canLie 19 = .ok (.bipush 10, 2) := by decide +kernel
theorem dX3_canLie_21 : decode cX3_canLie 21 = .ok (.idiv, 1) := by decide +kernel
theorem dX3_canLie_22 : decode cX3_canLie 22 = .ok (.iload_n 2, 1) := by decide +kernel
theorem dX3_canLie_23 : decode cX3_canLie 23 = .ok (.iadd, 1) := by decide +kernel
theorem dX3_canLie_24 : decode cX3_canLie 24 = .ok (.bipush 8, 2) := by decide +kernel
theorem dX3_canLie_26 : decode cX3_canLie 26 = .ok (.if_icmp .le 5, 3) := by decide +kernel
theorem dX3_canLie_29 : decode cX3_canLie 29 = .ok (.iconst 0, 1) := by decide +kernel
theorem dX3_canLie_30 : decode cX3_canLie 30 = .ok (.ireturn, 1) := by decide +kernel
theorem dX3_canLie_31 : decode cX3_canLie 31 = .ok (.iload_n 3, 1) := by decide +kernel
theorem dX3_canLie_32 : decode cX3_canLie 32 = .ok (.ifCond .eq 7, 3) := by decide +kernel
theorem dX3_canLie_35 : decode cX3_canLie 35 = .ok (.iconst 1, 1) := by decide +kernel
theorem dX3_canLie_36 : decode cX3_canLie 36 = .ok (.goto 5, 3) := by decide +kernel
theorem dX3_canLie_39 : decode cX3_canLie 39 = .ok (.bipush 10, 2) := by decide +kernel
theorem dX3_canLie_41 : decode cX3_canLie 41 = .ok (.istore 5, 2) := by decide +kernel
theorem dX3_canLie_43 : decode cX3_canLie 43 = .ok (.iconst 0, 1) := by decide +kernel
theorem dX3_canLie_44 : decode cX3_canLie 44 = .ok (.istore 6, 2) := by decide +kernel
theorem dX3_canLie_46 : decode cX3_canLie 46 = .ok (.iload 6, 2) := by decide +kernel
theorem dX3_canLie_48 : decode cX3_canLie 48 = .ok (.iload_n 2, 1) := by decide +kernel
theorem dX3_canLie_49 : decode cX3_canLie 49 = .ok (.if_icmp .ge 57, 3) := by decide +kernel
theorem dX3_canLie_52 : decode cX3_canLie 52 = .ok (.iload_n 1, 1) := by decide +kernel
theorem dX3_canLie_53 : decode cX3_canLie 53 = .ok (.iload 6, 2) := by decide +kernel
theorem dX3_canLie_55 : decode cX3_canLie 55 = .ok (.iload 5, 2) := by decide +kernel
theorem dX3_canLie_57 : decode cX3_canLie 57 = .ok (.imul, 1) := by decide +kernel
theorem dX3_canLie_58 : decode cX3_canLie 58 = .ok (.iadd, 1) := by decide +kernel
theorem dX3_canLie_59 : decode cX3_canLie 59 = .ok (.istore 7, 2) := by decide +kernel
theorem dX3_canLie_61 : decode cX3_canLie 61 = .ok (.aload_n 0, 1) := by decide +kernel
theorem dX3_canLie_62 : decode cX3_canLie 62 = .ok (.getfield 45, 3) := by decide +kernel
theorem dX3_canLie_65 : decode cX3_canLie 65 = .ok (.getfield 52, 3) := by decide +kernel
theorem dX3_canLie_68 : decode cX3_canLie 68 = .ok (.iload 7, 2) := by decide +kernel
theorem dX3_canLie_70 : decode cX3_canLie 70 = .ok (.iaload, 1) := by decide +kernel
theorem dX3_canLie_71 : decode cX3_canLie 71 = .ok (.iconst 1, 1) := by decide +kernel
theorem dX3_canLie_72 : decode cX3_canLie 72 = .ok (.if_icmp .lt 26, 3) := by decide +kernel
theorem dX3_canLie_75 : decode cX3_canLie 75 = .ok (.aload_n 0, 1) := by decide +kernel
theorem dX3_canLie_76 : decode cX3_canLie 76 = .ok (.getfield 28, 3) := by decide +kernel
theorem dX3_canLie_79 : decode cX3_canLie 79 = .ok (.iload 7, 2) := by decide +kernel
theorem dX3_canLie_81 : decode cX3_canLie 81 = .ok (.iaload, 1) := by decide +kernel
theorem dX3_canLie_82 : decode cX3_canLie 82 = .ok (.iconst (-1), 1) := by decide +kernel
theorem dX3_canLie_83 : decode cX3_canLie 83 = .ok (.if_icmp .eq 17, 3) := by decide +kernel
theorem dX3_canLie_86 : decode cX3_canLie 86 = .ok (.aload_n 0, 1) := by decide +kernel
theorem dX3_canLie_87 : decode cX3_canLie 87 = .ok (.getfield 28, 3) := by decide +kernel
theorem dX3_canLie_90 : decode cX3_canLie 90 = .ok (.iload 7, 2) := by decide +kernel
theorem dX3_canLie_92 : decode cX3_canLie 92 = .ok (.iaload, 1) := by decide +kernel
theorem dX3_canLie_93 : decode cX3_canLie 93 = .ok (.iload 4, 2) := by decide +kernel
theorem dX3_canLie_95 : decode cX3_canLie 95 = .ok (.if_icmp .eq 5, 3) := by decide +kernel
theorem dX3_canLie_98 : decode cX3_canLie 98 = .ok (.iconst 0, 1) := by decide +kernel
theorem dX3_canLie_99 : decode cX3_canLie 99 = .ok (.ireturn, 1) := by decide +kernel
theorem dX3_canLie_100 : decode cX3_canLie 100 = .ok (.iinc 6 1, 3) := by decide +kernel
theorem dX3_canLie_103 : decode cX3_canLie 103 = .ok (.goto (-57), 3) := by decide +kernel
theorem dX3_canLie_106 : decode cX3_canLie 106 = .ok (.iconst 1, 1) := by decide +kernel
theorem dX3_canLie_107 : decode cX3_canLie 107 = .ok (.ireturn, 1) := by decide +kernel
theorem dX3_coverBy_0 : decode cX3_coverBy 0 = .ok (.aload_n 0, 1) := by decide +kernel
theorem dX3_coverBy_1 : decode cX3_coverBy 1 = .ok (.getfield 16, 3) := by decide +kernel
theorem dX3_coverBy_4 : decode cX3_coverBy 4 = .ok (.iload_n 1, 1) := by decide +kernel
theorem dX3_coverBy_5 : decode cX3_coverBy 5 = .ok (.iaload, 1) := by decide +kernel
theorem dX3_coverBy_6 : decode cX3_coverBy 6 = .ok (.iconst 1, 1) := by decide +kernel
theorem dX3_coverBy_7 : decode cX3_coverBy 7 = .ok (.if_icmp .ne 7, 3) := by decide +kernel
theorem dX3_coverBy_10 : decode cX3_coverBy 10 = .ok (.iconst 1, 1) := by decide +kernel
theorem dX3_coverBy_11 : decode cX3_coverBy 11 = .ok (.goto 5, 3) := by decide +kernel
theorem dX3_coverBy_14 : decode cX3_coverBy 14 = .ok (.bipush 10, 2) := by decide +kernel
theorem dX3_coverBy_16 : decode cX3_coverBy 16 = .ok (.istore_n 3, 1) := by decide +kernel
theorem dX3_coverBy_17 : decode cX3_coverBy 17 = .ok (.iconst 0, 1) := by decide +kernel
theorem dX3_coverBy_18 : decode cX3_coverBy 18 = .ok (.istore 4, 2) := by decide +kernel
theorem dX3_coverBy_20 : decode cX3_coverBy 20 = .ok (.iload 4, 2) := by decide +kernel
theorem dX3_coverBy_22 : decode cX3_coverBy 22 = .ok (.aload_n 0, 1) := by decide +kernel
theorem dX3_coverBy_23 : decode cX3_coverBy 23 = .ok (.getfield 13, 3) := by decide +kernel
theorem dX3_coverBy_26 : decode cX3_coverBy 26 = .ok (.iload_n 1, 1) := by decide +kernel
theorem dX3_coverBy_27 : decode cX3_coverBy 27 = .ok (.iaload, 1) := by decide +kernel
theorem dX3_coverBy_28 : decode cX3_coverBy 28 = .ok (.if_icmp .ge 26, 3) := by decide +kernel
theorem dX3_coverBy_31 : decode cX3_coverBy 31 = .ok (.aload_n 0, 1) := by decide +kernel
theorem dX3_coverBy_32 : decode cX3_coverBy 32 = .ok (.getfield 28, 3) := by decide +kernel
theorem dX3_coverBy_35 : decode cX3_coverBy 35 = .ok (.aload_n 0, 1) := by decide +kernel
theorem dX3_coverBy_36 : decode cX3_coverBy 36 = .ok (.getfield 9, 3) := by decide +kernel
theorem dX3_coverBy_39 : decode cX3_coverBy 39 = .ok (.iload_n 1, 1) := by decide +kernel
theorem dX3_coverBy_40 : decode cX3_coverBy 40 = .ok (.iaload, 1) := by decide +kernel
theorem dX3_coverBy_41 : decode cX3_coverBy 41 = .ok (.iload 4, 2) := by decide +kernel
theorem dX3_coverBy_43 : decode cX3_coverBy 43 = .ok (.iload_n 3, 1) := by decide +kernel
theorem dX3_coverBy_44 : decode cX3_coverBy 44 = .ok (.imul, 1) := by decide +kernel
theorem dX3_coverBy_45 : decode cX3_coverBy 45 = .ok (.iadd, 1) := by decide +kernel
theorem dX3_coverBy_46 : decode cX3_coverBy 46 = .ok (.iload_n 2, 1) := by decide +kernel
theorem dX3_coverBy_47 : decode cX3_coverBy 47 = .ok (.iastore, 1) := by decide +kernel
theorem dX3_coverBy_48 : decode cX3_coverBy 48 = .ok (.iinc 4 1, 3) := by decide +kernel
theorem dX3_coverBy_51 : decode cX3_coverBy 51 = .ok (.goto (-31), 3) := by decide +kernel
theorem dX3_coverBy_54 : decode cX3_coverBy 54 = .ok (.return_, 1) := by decide +kernel
theorem dX3_change_0 : decode cX3_change 0 = .ok (.aload_n 0, 1) := by decide +kernel
theorem dX3_change_1 : decode cX3_change 1 = .ok (.getfield 16, 3) := by decide +kernel
theorem dX3_change_4 : decode cX3_change 4 = .ok (.iload_n 1, 1) := by decide +kernel
theorem dX3_change_5 : decode cX3_change 5 = .ok (.iaload, 1) := by decide +kernel
theorem dX3_change_6 : decode cX3_change 6 = .ok (.iconst 1, 1) := by decide +kernel
theorem dX3_change_7 : decode cX3_change 7 = .ok (.if_icmp .ne 7, 3) := by decide +kernel
theorem dX3_change_10 : decode cX3_change 10 = .ok (.iconst 1, 1) := by decide +kernel
theorem dX3_change_11 : decode cX3_change 11 = .ok (.goto 5, 3) := by decide +kernel
theorem dX3_change_14 : decode cX3_change 14 = .ok (.bipush 10, 2) := by decide +kernel
theorem dX3_change_16 : decode cX3_change 16 = .ok (.istore_n 3, 1) := by decide +kernel
theorem dX3_change_17 : decode cX3_change 17 = .ok (.iconst 0, 1) := by decide +kernel
theorem dX3_change_18 : decode cX3_change 18 = .ok (.istore 4, 2) := by decide +kernel
theorem dX3_change_20 : decode cX3_change 20 = .ok (.iload 4, 2) := by decide +kernel
theorem dX3_change_22 : decode cX3_change 22 = .ok (.aload_n 0, 1) := by decide +kernel
theorem dX3_change_23 : decode cX3_change 23 = .ok (.getfield 13, 3) := by decide +kernel
theorem dX3_change_26 : decode cX3_change 26 = .ok (.iload_n 1, 1) := by decide +kernel
theorem dX3_change_27 : decode cX3_change 27 = .ok (.iaload, 1) := by decide +kernel
theorem dX3_change_28 : decode cX3_change 28 = .ok (.if_icmp .ge 52, 3) := by decide +kernel
theorem dX3_change_31 : decode cX3_change 31 = .ok (.aload_n 0, 1) := by decide +kernel
theorem dX3_change_32 : decode cX3_change 32 = .ok (.getfield 9, 3) := by decide +kernel
theorem dX3_change_35 : decode cX3_change 35 = .ok (.iload_n 1, 1) := by decide +kernel
theorem dX3_change_36 : decode cX3_change 36 = .ok (.iaload, 1) := by decide +kernel
theorem dX3_change_37 : decode cX3_change 37 = .ok (.iload 4, 2) := by decide +kernel
theorem dX3_change_39 : decode cX3_change 39 = .ok (.iload_n 3, 1) := by decide +kernel
theorem dX3_change_40 : decode cX3_change 40 = .ok (.imul, 1) := by decide +kernel
theorem dX3_change_41 : decode cX3_change 41 = .ok (.iadd, 1) := by decide +kernel
theorem dX3_change_42 : decode cX3_change 42 = .ok (.istore 5, 2) := by decide +kernel
theorem dX3_change_44 : decode cX3_change 44 = .ok (.aload_n 0, 1) := by decide +kernel
theorem dX3_change_45 : decode cX3_change 45 = .ok (.getfield 45, 3) := by decide +kernel
theorem dX3_change_48 : decode cX3_change 48 = .ok (.getfield 52, 3) := by decide +kernel
theorem dX3_change_51 : decode cX3_change 51 = .ok (.iload 5, 2) := by decide +kernel
theorem dX3_change_53 : decode cX3_change 53 = .ok (.iload_n 2, 1) := by decide +kernel
theorem dX3_change_54 : decode cX3_change 54 = .ok (.ifCond .eq 7, 3) := by decide +kernel
theorem dX3_change_57 : decode cX3_change 57 = .ok (.iconst (-1), 1) := by decide +kernel
theorem dX3_change_58 : decode cX3_change 58 = .ok (.goto 15, 3) := by decide +kernel
theorem dX3_change_61 : decode cX3_change 61 = .ok (.aload_n 0, 1) := by decide +kernel
theorem dX3_change_62 : decode cX3_change 62 = .ok (.getfield 45, 3) := by decide +kernel
theorem dX3_change_65 : decode cX3_change 65 = .ok (.getfield 52, 3) := by decide +kernel
theorem dX3_change_68 : decode cX3_change 68 = .ok (.iload 5, 2) := by decide +kernel
theorem dX3_change_70 : decode cX3_change 70 = .ok (.iaload, 1) := by decide +kernel
theorem dX3_change_71 : decode cX3_change 71 = .ok (.iconst 1, 1) := by decide +kernel
theorem dX3_change_72 : decode cX3_change 72 = .ok (.isub, 1) := by decide +kernel
theorem dX3_change_73 : decode cX3_change 73 = .ok (.iastore, 1) := by decide +kernel
theorem dX3_change_74 : decode cX3_change 74 = .ok (.iinc 4 1, 3) := by decide +kernel
theorem dX3_change_77 : decode cX3_change 77 = .ok (.goto (-57), 3) := by decide +kernel
theorem dX3_change_80 : decode cX3_change 80 = .ok (.return_, 1) := by decide +kernel
set_option maxRecDepth 20000 in
theorem ggX3_press_X3_isCell : GoodIn wsX3_press wsX3_isCell := goodIn_r _ [11, 12, 13, 10, 14] (by decide +kernel) (by decide +kernel)
set_option maxRecDepth 20000 in
theorem gX3_press_X3_isCell : GoodIn wsX3_press (va_wsS RX3 66 yX3_isCell wsX3_isCell) := goodIn_app (goodIn_of _ (by decide +kernel)) ggX3_press_X3_isCell
set_option maxRecDepth 20000 in
theorem ggX3_press_X3_no : GoodIn wsX3_press wsX3_no := goodIn_r _ [18, 1, 32, 33, 34, 35, 36, 37, 38, 39, 40, 41, 42, 43, 44, 45] (by decide +kernel) (by decide +kernel)
set_option maxRecDepth 20000 in
theorem gX3_press_X3_no : GoodIn wsX3_press (wsV RX3 70 RX3 yX3_no wsX3_no) := goodIn_app (goodIn_of _ (by decide +kernel)) ggX3_press_X3_no
set_option maxRecDepth 20000 in
theorem ggX3_press_X3_isIn : GoodIn wsX3_press wsX3_isIn := goodIn_r _ [14] (by decide +kernel) (by decide +kernel)
set_option maxRecDepth 20000 in
theorem gX3_press_X3_isIn : GoodIn wsX3_press (va_wsS RX3 59 yX3_isIn wsX3_isIn) := goodIn_app (goodIn_of _ (by decide +kernel)) ggX3_press_X3_isIn
set_option maxRecDepth 20000 in
theorem ggX3_press_X3_isColour : GoodIn wsX3_press wsX3_isColour := goodIn_r _ [21, 12, 13, 10, 14] (by decide +kernel) (by decide +kernel)
set_option maxRecDepth 20000 in
theorem gX3_press_X3_isColour : GoodIn wsX3_press (va_wsS RX3 74 yX3_isColour wsX3_isColour) := goodIn_app (goodIn_of _ (by decide +kernel)) ggX3_press_X3_isColour
set_option maxRecDepth 20000 in
theorem ggX3_press_X3_canLie : GoodIn wsX3_press wsX3_canLie := goodIn_r _ [25, 26, 27, 32, 33, 34, 35, 36, 37, 38, 39, 40, 41, 42, 43, 44, 45, 46, 47, 48] (by decide +kernel) (by decide +kernel)
set_option maxRecDepth 20000 in
theorem gX3_press_X3_canLie : GoodIn wsX3_press (wsV RX3 78 RX3 yX3_canLie wsX3_canLie) := goodIn_app (goodIn_of _ (by decide +kernel)) ggX3_press_X3_canLie
set_option maxRecDepth 20000 in
theorem ggX3_press_X3_coverBy : GoodIn wsX3_press wsX3_coverBy := goodIn_r _ [31, 5, 4, 27, 3, 32, 33, 34, 35, 36, 37, 38, 39, 40, 41, 42, 43, 44, 45] (by decide +kernel) (by decide +kernel)
set_option maxRecDepth 20000 in
theorem gX3_press_X3_coverBy : GoodIn wsX3_press (wsV RX3 82 RX3 yX3_coverBy wsX3_coverBy) := goodIn_app (goodIn_of _ (by decide +kernel)) ggX3_press_X3_coverBy
theorem dX3_press_0 : decode cX3_press 0 = .ok (.aload_n 0, 1) := by decide +kernel
theorem dX3_press_1 : decode cX3_press 1 = .ok (.iconst 0, 1) := by decide +kernel
theorem dX3_press_2 : decode cX3_press 2 = .ok (.putfield 55, 3) := by decide +kernel
theorem dX3_press_5 : decode cX3_press 5 = .ok (.iload_n 1, 1) := by decide +kernel
theorem dX3_press_6 : decode cX3_press 6 = .ok (.iload_n 2, 1) := by decide +kernel
theorem dX3_press_7 : decode cX3_press 7 = .ok (.invokestatic 66, 3) := by decide +kernel
theorem dX3_press_10 : decode cX3_press 10 = .ok (.ifCond .ne 9, 3) := by decide +kernel
theorem dX3_press_13 : decode cX3_press 13 = .ok (.aload_n 0, 1) := by decide +kernel
theorem dX3_press_14 : decode cX3_press 14 = .ok (.iconst 1, 1) := by decide +kernel
theorem dX3_press_15 : decode cX3_press 15 = .ok (.invokevirtual 70, 3) := by decide +kernel
theorem dX3_press_18 : decode cX3_press 18 = .ok (.ireturn, 1) := by decide +kernel
theorem dX3_press_19 : decode cX3_press 19 = .ok (.iload_n 3, 1) := by decide +kernel
theorem dX3_press_20 : decode cX3_press 20 = .ok (.iconst 1, 1) := by decide +kernel
theorem dX3_press_21 : decode cX3_press 21 = .ok (.iconst 3, 1) := by decide +kernel
theorem dX3_press_22 : decode cX3_press 22 = .ok (.invokestatic 59, 3) := by decide +kernel
theorem dX3_press_25 : decode cX3_press 25 = .ok (.ifCond .eq 19, 3) := by decide +kernel
theorem dX3_press_28 : decode cX3_press 28 = .ok (.iload 5, 2) := by decide +kernel
theorem dX3_press_30 : decode cX3_press 30 = .ok (.invokestatic 74, 3) := by decide +kernel
theorem dX3_press_33 : decode cX3_press 33 = .ok (.ifCond .eq 11, 3) := by decide +kernel
theorem dX3_press_36 : decode cX3_press 36 = .ok (.iload 6, 2) := by decide +kernel
theorem dX3_press_38 : decode cX3_press 38 = .ok (.invokestatic 74, 3) := by decide +kernel
theorem dX3_press_41 : decode cX3_press 41 = .ok (.ifCond .ne 9, 3) := by decide +kernel
theorem dX3_press_44 : decode cX3_press 44 = .ok (.aload_n 0, 1) := by decide +kernel
theorem dX3_press_45 : decode cX3_press 45 = .ok (.iconst 2, 1) := by decide +kernel
theorem dX3_press_46 : decode cX3_press 46 = .ok (.invokevirtual 70, 3) := by decide +kernel
theorem dX3_press_49 : decode cX3_press 49 = .ok (.ireturn, 1) := by decide +kernel
theorem dX3_press_50 : decode cX3_press 50 = .ok (.aload_n 0, 1) := by decide +kernel
theorem dX3_press_51 : decode cX3_press 51 = .ok (.getfield 63, 3) := by decide +kernel
theorem dX3_press_54 : decode cX3_press 54 = .ok (.bipush 100, 2) := by decide +kernel
theorem dX3_press_56 : decode cX3_press 56 = .ok (.if_icmp .eq 20, 3) := by decide +kernel
theorem dX3_press_59 : decode cX3_press 59 = .ok (.aload_n 0, 1) := by decide +kernel
theorem dX3_press_60 : decode cX3_press 60 = .ok (.bipush 10, 2) := by decide +kernel
theorem dX3_press_62 : decode cX3_press 62 = .ok (.iload_n 2, 1) := by decide +kernel
theorem dX3_press_63 : decode cX3_press 63 = .ok (.imul, 1) := by decide +kernel
theorem dX3_press_64 : decode cX3_press 64 = .ok (.iload_n 1, 1) := by decide +kernel
theorem dX3_press_65 : decode cX3_press 65 = .ok (.iadd, 1) := by decide +kernel
theorem dX3_press_66 : decode cX3_press 66 = .ok (.iload_n 3, 1) := by decide +kernel
theorem dX3_press_67 : decode cX3_press 67 = .ok (.iload 4, 2) := by decide +kernel
theorem dX3_press_69 : decode cX3_press 69 = .ok (.iconst (-1), 1) := by decide +kernel
theorem dX3_press_70 : decode cX3_press 70 = .ok (.invokevirtual 78, 3) := by decide +kernel
theorem dX3_press_73 : decode cX3_press 73 = .ok (.ifCond .ne 9, 3) := by decide +kernel
theorem dX3_press_76 : decode cX3_press 76 = .ok (.aload_n 0, 1) := by decide +kernel
theorem dX3_press_77 : decode cX3_press 77 = .ok (.iconst 3, 1) := by decide +kernel
theorem dX3_press_78 : decode cX3_press 78 = .ok (.invokevirtual 70, 3) := by decide +kernel
theorem dX3_press_81 : decode cX3_press 81 = .ok (.ireturn, 1) := by decide +kernel
theorem dX3_press_82 : decode cX3_press 82 = .ok (.aload_n 0, 1) := by decide +kernel
theorem dX3_press_83 : decode cX3_press 83 = .ok (.getfield 9, 3) := by decide +kernel
theorem dX3_press_86 : decode cX3_press 86 = .ok (.aload_n 0, 1) := by decide +kernel
theorem dX3_press_87 : decode cX3_press 87 = .ok (.getfield 63, 3) := by decide +kernel
theorem dX3_press_90 : decode cX3_press 90 = .ok (.bipush 10, 2) := by decide +kernel
theorem dX3_press_92 : decode cX3_press 92 = .ok (.iload_n 2, 1) := by decide +kernel
theorem dX3_press_93 : decode cX3_press 93 = .ok (.imul, 1) := by decide +kernel
theorem dX3_press_94 : decode cX3_press 94 = .ok (.iload_n 1, 1) := by decide +kernel
theorem dX3_press_95 : decode cX3_press 95 = .ok (.iadd, 1) := by decide +kernel
theorem dX3_press_96 : decode cX3_press 96 = .ok (.iastore, 1) := by decide +kernel
theorem dX3_press_97 : decode cX3_press 97 = .ok (.aload_n 0, 1) := by decide +kernel
theorem dX3_press_98 : decode cX3_press 98 = .ok (.getfield 13, 3) := by decide +kernel
theorem dX3_press_101 : decode cX3_press 101 = .ok (.aload_n 0, 1) := by decide +kernel
theorem dX3_press_102 : decode cX3_press 102 = .ok (.getfield 63, 3) := by decide +kernel
theorem dX3_press_105 : decode cX3_press 105 = .ok (.iload_n 3, 1) := by decide +kernel
theorem dX3_press_106 : decode cX3_press 106 = .ok (.iastore, 1) := by decide +kernel
theorem dX3_press_107 : decode cX3_press 107 = .ok (.aload_n 0, 1) := by decide +kernel
theorem dX3_press_108 : decode cX3_press 108 = .ok (.getfield 16, 3) := by decide +kernel
theorem dX3_press_111 : decode cX3_press 111 = .ok (.aload_n 0, 1) := by decide +kernel
theorem dX3_press_112 : decode cX3_press 112 = .ok (.getfield 63, 3) := by decide +kernel
theorem dX3_press_115 : decode cX3_press 115 = .ok (.iload 4, 2) := by decide +kernel
theorem dX3_press_117 : decode cX3_press 117 = .ok (.ifCond .eq 7, 3) := by decide +kernel
theorem dX3_press_120 : decode cX3_press 120 = .ok (.iconst 1, 1) := by decide +kernel
theorem dX3_press_121 : decode cX3_press 121 = .ok (.goto 4, 3) := by decide +kernel
theorem dX3_press_124 : decode cX3_press 124 = .ok (.iconst 0, 1) := by decide +kernel
theorem dX3_press_125 : decode cX3_press 125 = .ok (.iastore, 1) := by decide +kernel
theorem dX3_press_126 : decode cX3_press 126 = .ok (.aload_n 0, 1) := by decide +kernel
theorem dX3_press_127 : decode cX3_press 127 = .ok (.getfield 19, 3) := by decide +kernel
theorem dX3_press_130 : decode cX3_press 130 = .ok (.aload_n 0, 1) := by decide +kernel
theorem dX3_press_131 : decode cX3_press 131 = .ok (.getfield 63, 3) := by decide +kernel
theorem dX3_press_134 : decode cX3_press 134 = .ok (.iload 5, 2) := by decide +kernel
theorem dX3_press_136 : decode cX3_press 136 = .ok (.iastore, 1) := by decide +kernel
theorem dX3_press_137 : decode cX3_press 137 = .ok (.aload_n 0, 1) := by decide +kernel
theorem dX3_press_138 : decode cX3_press 138 = .ok (.getfield 22, 3) := by decide +kernel
theorem dX3_press_141 : decode cX3_press 141 = .ok (.aload_n 0, 1) := by decide +kernel
theorem dX3_press_142 : decode cX3_press 142 = .ok (.getfield 63, 3) := by decide +kernel
theorem dX3_press_145 : decode cX3_press 145 = .ok (.iload 6, 2) := by decide +kernel
theorem dX3_press_147 : decode cX3_press 147 = .ok (.iastore, 1) := by decide +kernel
theorem dX3_press_148 : decode cX3_press 148 = .ok (.aload_n 0, 1) := by decide +kernel
theorem dX3_press_149 : decode cX3_press 149 = .ok (.aload_n 0, 1) := by decide +kernel
theorem dX3_press_150 : decode cX3_press 150 = .ok (.getfield 63, 3) := by decide +kernel
theorem dX3_press_153 : decode cX3_press 153 = .ok (.aload_n 0, 1) := by decide +kernel
theorem dX3_press_154 : decode cX3_press 154 = .ok (.getfield 63, 3) := by decide +kernel
theorem dX3_press_157 : decode cX3_press 157 = .ok (.invokevirtual 82, 3) := by decide +kernel
theorem dX3_press_160 : decode cX3_press 160 = .ok (.aload_n 0, 1) := by decide +kernel
theorem dX3_press_161 : decode cX3_press 161 = .ok (.dup, 1) := by decide +kernel
theorem dX3_press_162 : decode cX3_press 162 = .ok (.getfield 63, 3) := by decide +kernel
theorem dX3_press_165 : decode cX3_press 165 = .ok (.iconst 1, 1) := by decide +kernel
theorem dX3_press_166 : decode cX3_press 166 = .ok (.iadd, 1) := by decide +kernel
theorem dX3_press_167 : decode cX3_press 167 = .ok (.putfield 63, 3) := by decide +kernel
theorem dX3_press_170 : decode cX3_press 170 = .ok (.aload_n 0, 1) := by decide +kernel
theorem dX3_press_171 : decode cX3_press 171 = .ok (.getfield 63, 3) := by decide +kernel
theorem dX3_press_174 : decode cX3_press 174 = .ok (.iconst 1, 1) := by decide +kernel
theorem dX3_press_175 : decode cX3_press 175 = .ok (.isub, 1) := by decide +kernel
theorem dX3_press_176 : decode cX3_press 176 = .ok (.ireturn, 1) := by decide +kernel
theorem dX3_swap_0 : decode cX3_swap 0 = .ok (.aload_n 0, 1) := by decide +kernel
theorem dX3_swap_1 : decode cX3_swap 1 = .ok (.getfield 19, 3) := by decide +kernel
theorem dX3_swap_4 : decode cX3_swap 4 = .ok (.iload_n 1, 1) := by decide +kernel
theorem dX3_swap_5 : decode cX3_swap 5 = .ok (.iaload, 1) := by decide +kernel
theorem dX3_swap_6 : decode cX3_swap 6 = .ok (.istore_n 2, 1) := by decide +kernel
theorem dX3_swap_7 : decode cX3_swap 7 = .ok (.aload_n 0, 1) := by decide +kernel
theorem dX3_swap_8 : decode cX3_swap 8 = .ok (.getfield 19, 3) := by decide +kernel
theorem dX3_swap_11 : decode cX3_swap 11 = .ok (.iload_n 1, 1) := by decide +kernel
theorem dX3_swap_12 : decode cX3_swap 12 = .ok (.aload_n 0, 1) := by decide +kernel
theorem dX3_swap_13 : decode cX3_swap 13 = .ok (.getfield 22, 3) := by decide +kernel
theorem dX3_swap_16 : decode cX3_swap 16 = .ok (.iload_n 1, 1) := by decide +kernel
theorem dX3_swap_17 : decode cX3_swap 17 = .ok (.iaload, 1) := by decide +kernel
theorem dX3_swap_18 : decode cX3_swap 18 = .ok (.iastore, 1) := by decide +kernel
theorem dX3_swap_19 : decode cX3_swap 19 = .ok (.aload_n 0, 1) := by decide +kernel
theorem dX3_swap_20 : decode cX3_swap 20 = .ok (.getfield 22, 3) := by decide +kernel
theorem dX3_swap_23 : decode cX3_swap 23 = .ok (.iload_n 1, 1) := by decide +kernel
theorem dX3_swap_24 : decode cX3_swap 24 = .ok (.iload_n 2, 1) := by decide +kernel
theorem dX3_swap_25 : decode cX3_swap 25 = .ok (.iastore, 1) := by decide +kernel
theorem dX3_swap_26 : decode cX3_swap 26 = .ok (.return_, 1) := by decide +kernel
set_option maxRecDepth 20000 in
theorem ggX3_flip_X3_isPiece : GoodIn wsX3_flip wsX3_isPiece := goodIn_r _ [8, 9, 10, 11, 7, 12, 36, 37, 38, 39, 40, 41, 42, 43, 44, 45, 46, 47, 48, 49] (by decide +kernel) (by decide +kernel)
set_option maxRecDepth 20000 in
theorem gX3_flip_X3_isPiece : GoodIn wsX3_flip (wsV RX3 86 RX3 yX3_isPiece wsX3_isPiece) := goodIn_app (goodIn_of _ (by decide +kernel)) ggX3_flip_X3_isPiece
set_option maxRecDepth 20000 in
theorem ggX3_flip_X3_no : GoodIn wsX3_flip wsX3_no := goodIn_r _ [16, 1, 36, 37, 38, 39, 40, 41, 42, 43, 44, 45, 46, 47, 48, 49] (by decide +kernel) (by decide +kernel)
set_option maxRecDepth 20000 in
theorem gX3_flip_X3_no : GoodIn wsX3_flip (wsV RX3 70 RX3 yX3_no wsX3_no) := goodIn_app (goodIn_of _ (by decide +kernel)) ggX3_flip_X3_no
set_option maxRecDepth 20000 in
theorem ggX3_flip_X2_isLoose : GoodIn wsX3_flip wsX2_isLoose := goodIn_r _ [21, 22, 23, 50, 51, 52, 36, 37, 38, 39, 40, 41, 42, 43, 44, 45, 46, 47, 48, 49] (by decide +kernel) (by decide +kernel)
set_option maxRecDepth 20000 in
theorem gX3_flip_X2_isLoose : GoodIn wsX3_flip (wsV RX3 89 RX2 yX2_isLoose wsX2_isLoose) := goodIn_app (goodIn_of _ (by decide +kernel)) ggX3_flip_X2_isLoose
set_option maxRecDepth 20000 in
theorem ggX3_flip_X3_swap : GoodIn wsX3_flip wsX3_swap := goodIn_r _ [27, 3, 28, 36, 37, 38, 39, 40, 41, 42, 43, 44, 45, 46, 47, 48, 49] (by decide +kernel) (by decide +kernel)
set_option maxRecDepth 20000 in
theorem gX3_flip_X3_swap : GoodIn wsX3_flip (wsV RX3 92 RX3 yX3_swap wsX3_swap) := goodIn_app (goodIn_of _ (by decide +kernel)) ggX3_flip_X3_swap
set_option maxRecDepth 20000 in
theorem ggX3_flip_X3_change : GoodIn wsX3_flip wsX3_change := goodIn_r _ [32, 33, 34, 35, 2, 36, 37, 38, 39, 40, 41, 42, 43, 44, 45, 46, 47, 48, 49, 50, 51, 52] (by decide +kernel) (by decide +kernel)
set_option maxRecDepth 20000 in
theorem gX3_flip_X3_change : GoodIn wsX3_flip (wsV RX3 96 RX3 yX3_change wsX3_change) := goodIn_app (goodIn_of _ (by decide +kernel)) ggX3_flip_X3_change
end
section
theorem dX3_flip_0 : decode cX3_flip 0 = .ok (.aload_n 0, 1) := by decide +kernel
theorem dX3_flip_1 : decode cX3_flip 1 = .ok (.iconst 0, 1) := by decide +kernel
theorem dX3_flip_2 : decode cX3_flip 2 = .ok (.putfield 55, 3) := by decide +kernel
theorem dX3_flip_5 : decode cX3_flip 5 = .ok (.aload_n 0, 1) := by decide +kernel
theorem dX3_flip_6 : decode cX3_flip 6 = .ok (.iload_n 1, 1) := by decide +kernel
theorem dX3_flip_7 : decode cX3_flip 7 = .ok (.invokevirtual 86, 3) := by decide +kernel
theorem dX3_flip_10 : decode cX3_flip 10 = .ok (.ifCond .ne 9, 3) := by decide +kernel
theorem dX3_flip_13 : decode cX3_flip 13 = .ok (.aload_n 0, 1) := by decide +kernel
theorem dX3_flip_14 : decode cX3_flip 14 = .ok (.iconst 1, 1) := by decide +kernel
theorem dX3_flip_15 : decode cX3_flip 15 = .ok (.invokevirtual 70, 3) := by decide +kernel
theorem dX3_flip_18 : decode cX3_flip 18 = .ok (.ireturn, 1) := by decide +kernel
theorem dX3_flip_19 : decode cX3_flip 19 = .ok (.aload_n 0, 1) := by decide +kernel
theorem dX3_flip_20 : decode cX3_flip 20 = .ok (.getfield 45, 3) := by decide +kernel
theorem dX3_flip_23 : decode cX3_flip 23 = .ok (.iload_n 1, 1) := by decide +kernel
theorem dX3_flip_24 : decode cX3_flip 24 = .ok (.invokevirtual 89, 3) := by decide +kernel
theorem dX3_flip_27 : decode cX3_flip 27 = .ok (.ifCond .ne 9, 3) := by decide +kernel
theorem dX3_flip_30 : decode cX3_flip 30 = .ok (.aload_n 0, 1) := by decide +kernel
theorem dX3_flip_31 : decode cX3_flip 31 = .ok (.iconst 2, 1) := by decide +kernel
theorem dX3_flip_32 : decode cX3_flip 32 = .ok (.invokevirtual 70, 3) := by decide +kernel
theorem dX3_flip_35 : decode cX3_flip 35 = .ok (.ireturn, 1) := by decide +kernel
theorem dX3_flip_36 : decode cX3_flip 36 = .ok (.aload_n 0, 1) := by decide +kernel
theorem dX3_flip_37 : decode cX3_flip 37 = .ok (.iload_n 1, 1) := by decide +kernel
theorem dX3_flip_38 : decode cX3_flip 38 = .ok (.invokevirtual 92, 3) := by decide +kernel
theorem dX3_flip_41 : decode cX3_flip 41 = .ok (.aload_n 0, 1) := by decide +kernel
theorem dX3_flip_42 : decode cX3_flip 42 = .ok (.iload_n 1, 1) := by decide +kernel
theorem dX3_flip_43 : decode cX3_flip 43 = .ok (.iconst 0, 1) := by decide +kernel
theorem dX3_flip_44 : decode cX3_flip 44 = .ok (.invokevirtual 96, 3) := by decide +kernel
theorem dX3_flip_47 : decode cX3_flip 47 = .ok (.aload_n 0, 1) := by decide +kernel
theorem dX3_flip_48 : decode cX3_flip 48 = .ok (.getfield 19, 3) := by decide +kernel
theorem dX3_flip_51 : decode cX3_flip 51 = .ok (.iload_n 1, 1) := by decide +kernel
theorem dX3_flip_52 : decode cX3_flip 52 = .ok (.iaload, 1) := by decide +kernel
theorem dX3_flip_53 : decode cX3_flip 53 = .ok (.ireturn, 1) := by decide +kernel
set_option maxRecDepth 20000 in
theorem ggX3_turn_X3_isPiece : GoodIn wsX3_turn wsX3_isPiece := goodIn_r _ [10, 11, 12, 13, 9, 14, 35, 36, 37, 38, 39, 40, 41, 42, 43, 44, 45, 46, 47, 48] (by decide +kernel) (by decide +kernel)
set_option maxRecDepth 20000 in
theorem gX3_turn_X3_isPiece : GoodIn wsX3_turn (wsV RX3 86 RX3 yX3_isPiece wsX3_isPiece) := goodIn_app (goodIn_of _ (by decide +kernel)) ggX3_turn_X3_isPiece
set_option maxRecDepth 20000 in
theorem ggX3_turn_X3_no : GoodIn wsX3_turn wsX3_no := goodIn_r _ [18, 1, 35, 36, 37, 38, 39, 40, 41, 42, 43, 44, 45, 46, 47, 48] (by decide +kernel) (by decide +kernel)
set_option maxRecDepth 20000 in
theorem gX3_turn_X3_no : GoodIn wsX3_turn (wsV RX3 70 RX3 yX3_no wsX3_no) := goodIn_app (goodIn_of _ (by decide +kernel)) ggX3_turn_X3_no
set_option maxRecDepth 20000 in
theorem ggX3_turn_X2_isLoose : GoodIn wsX3_turn wsX2_isLoose := goodIn_r _ [23, 24, 25, 49, 50, 51, 35, 36, 37, 38, 39, 40, 41, 42, 43, 44, 45, 46, 47, 48] (by decide +kernel) (by decide +kernel)
set_option maxRecDepth 20000 in
theorem gX3_turn_X2_isLoose : GoodIn wsX3_turn (wsV RX3 89 RX2 yX2_isLoose wsX2_isLoose) := goodIn_app (goodIn_of _ (by decide +kernel)) ggX3_turn_X2_isLoose
set_option maxRecDepth 20000 in
theorem ggX3_turn_X3_canLie : GoodIn wsX3_turn wsX3_canLie := goodIn_r _ [29, 2, 30, 35, 36, 37, 38, 39, 40, 41, 42, 43, 44, 45, 46, 47, 48, 49, 50, 51] (by decide +kernel) (by decide +kernel)
set_option maxRecDepth 20000 in
theorem gX3_turn_X3_canLie : GoodIn wsX3_turn (wsV RX3 78 RX3 yX3_canLie wsX3_canLie) := goodIn_app (goodIn_of _ (by decide +kernel)) ggX3_turn_X3_canLie
set_option maxRecDepth 20000 in
theorem ggX3_turn_X3_coverBy : GoodIn wsX3_turn wsX3_coverBy := goodIn_r _ [34, 5, 4, 30, 3, 35, 36, 37, 38, 39, 40, 41, 42, 43, 44, 45, 46, 47, 48] (by decide +kernel) (by decide +kernel)
set_option maxRecDepth 20000 in
theorem gX3_turn_X3_coverBy : GoodIn wsX3_turn (wsV RX3 82 RX3 yX3_coverBy wsX3_coverBy) := goodIn_app (goodIn_of _ (by decide +kernel)) ggX3_turn_X3_coverBy
theorem dX3_turn_0 : decode cX3_turn 0 = .ok (.aload_n 0, 1) := by decide +kernel
theorem dX3_turn_1 : decode cX3_turn 1 = .ok (.iconst 0, 1) := by decide +kernel
theorem dX3_turn_2 : decode cX3_turn 2 = .ok (.putfield 55, 3) := by decide +kernel
theorem dX3_turn_5 : decode cX3_turn 5 = .ok (.aload_n 0, 1) := by decide +kernel
theorem dX3_turn_6 : decode cX3_turn 6 = .ok (.iload_n 1, 1) := by decide +kernel
theorem dX3_turn_7 : decode cX3_turn 7 = .ok (.invokevirtual 86, 3) := by decide +kernel
theorem dX3_turn_10 : decode cX3_turn 10 = .ok (.ifCond .ne 9, 3) := by decide +kernel
theorem dX3_turn_13 : decode cX3_turn 13 = .ok (.aload_n 0, 1) := by decide +kernel
theorem dX3_turn_14 : decode cX3_turn 14 = .ok (.iconst 1, 1) := by decide +kernel
theorem dX3_turn_15 : decode cX3_turn 15 = .ok (.invokevirtual 70, 3) := by decide +kernel
theorem dX3_turn_18 : decode cX3_turn 18 = .ok (.ireturn, 1) := by decide +kernel
theorem dX3_turn_19 : decode cX3_turn 19 = .ok (.aload_n 0, 1) := by decide +kernel
theorem dX3_turn_20 : decode cX3_turn 20 = .ok (.getfield 45, 3) := by decide +kernel
theorem dX3_turn_23 : decode cX3_turn 23 = .ok (.iload_n 1, 1) := by decide +kernel
theorem dX3_turn_24 : decode cX3_turn 24 = .ok (.invokevirtual 89, 3) := by decide +kernel
theorem dX3_turn_27 : decode cX3_turn 27 = .ok (.ifCond .eq 37, 3) := by decide +kernel
theorem dX3_turn_30 : decode cX3_turn 30 = .ok (.aload_n 0, 1) := by decide +kernel
theorem dX3_turn_31 : decode cX3_turn 31 = .ok (.aload_n 0, 1) := by decide +kernel
theorem dX3_turn_32 : decode cX3_turn 32 = .ok (.getfield 9, 3) := by decide +kernel
theorem dX3_turn_35 : decode cX3_turn 35 = .ok (.iload_n 1, 1) := by decide +kernel
theorem dX3_turn_36 : decode cX3_turn 36 = .ok (.iaload, 1) := by decide +kernel
theorem dX3_turn_37 : decode cX3_turn 37 = .ok (.aload_n 0, 1) := by decide +kernel
theorem dX3_turn_38 : decode cX3_turn 38 = .ok (.getfield 13, 3) := by decide +kernel
theorem dX3_turn_41 : decode cX3_turn 41 = .ok (.iload_n 1, 1) := by decide +kernel
theorem dX3_turn_42 : decode cX3_turn 42 = .ok (.iaload, 1) := by decide +kernel
theorem dX3_turn_43 : decode cX3_turn 43 = .ok (.aload_n 0, 1) := by decide +kernel
theorem dX3_turn_44 : decode cX3_turn 44 = .ok (.getfield 16, 3) := by decide +kernel
theorem dX3_turn_47 : decode cX3_turn 47 = .ok (.iload_n 1, 1) := by decide +kernel
theorem dX3_turn_48 : decode cX3_turn 48 = .ok (.iaload, 1) := by decide +kernel
theorem dX3_turn_49 : decode cX3_turn 49 = .ok (.ifCond .ne 7, 3) := by decide +kernel
theorem dX3_turn_52 : decode cX3_turn 52 = .ok (.iconst 1, 1) := by decide +kernel
theorem dX3_turn_53 : decode cX3_turn 53 = .ok (.goto 4, 3) := by decide +kernel
theorem dX3_turn_56 : decode cX3_turn 56 = .ok (.iconst 0, 1) := by decide +kernel
theorem dX3_turn_57 : decode cX3_turn 57 = .ok (.iload_n 1, 1) := by decide +kernel
theorem dX3_turn_58 : decode cX3_turn 58 = .ok (.invokevirtual 78, 3) := by decide +kernel
theorem dX3_turn_61 : decode cX3_turn 61 = .ok (.ifCond .ne 9, 3) := by decide +kernel
theorem dX3_turn_64 : decode cX3_turn 64 = .ok (.aload_n 0, 1) := by decide +kernel
theorem dX3_turn_65 : decode cX3_turn 65 = .ok (.iconst 2, 1) := by decide +kernel
theorem dX3_turn_66 : decode cX3_turn 66 = .ok (.invokevirtual 70, 3) := by decide +kernel
theorem dX3_turn_69 : decode cX3_turn 69 = .ok (.ireturn, 1) := by decide +kernel
theorem dX3_turn_70 : decode cX3_turn 70 = .ok (.aload_n 0, 1) := by decide +kernel
theorem dX3_turn_71 : decode cX3_turn 71 = .ok (.iload_n 1, 1) := by decide +kernel
theorem dX3_turn_72 : decode cX3_turn 72 = .ok (.iconst (-1), 1) := by decide +kernel
theorem dX3_turn_73 : decode cX3_turn 73 = .ok (.invokevirtual 82, 3) := by decide +kernel
theorem dX3_turn_76 : decode cX3_turn 76 = .ok (.aload_n 0, 1) := by decide +kernel
theorem dX3_turn_77 : decode cX3_turn 77 = .ok (.getfield 16, 3) := by decide +kernel
theorem dX3_turn_80 : decode cX3_turn 80 = .ok (.iload_n 1, 1) := by decide +kernel
theorem dX3_turn_81 : decode cX3_turn 81 = .ok (.iconst 1, 1) := by decide +kernel
theorem dX3_turn_82 : decode cX3_turn 82 = .ok (.aload_n 0, 1) := by decide +kernel
theorem dX3_turn_83 : decode cX3_turn 83 = .ok (.getfield 16, 3) := by decide +kernel
theorem dX3_turn_86 : decode cX3_turn 86 = .ok (.iload_n 1, 1) := by decide +kernel
theorem dX3_turn_87 : decode cX3_turn 87 = .ok (.iaload, 1) := by decide +kernel
theorem dX3_turn_88 : decode cX3_turn 88 = .ok (.isub, 1) := by decide +kernel
theorem dX3_turn_89 : decode cX3_turn 89 = .ok (.iastore, 1) := by decide +kernel
theorem dX3_turn_90 : decode cX3_turn 90 = .ok (.aload_n 0, 1) := by decide +kernel
theorem dX3_turn_91 : decode cX3_turn 91 = .ok (.iload_n 1, 1) := by decide +kernel
theorem dX3_turn_92 : decode cX3_turn 92 = .ok (.iload_n 1, 1) := by decide +kernel
theorem dX3_turn_93 : decode cX3_turn 93 = .ok (.invokevirtual 82, 3) := by decide +kernel
theorem dX3_turn_96 : decode cX3_turn 96 = .ok (.aload_n 0, 1) := by decide +kernel
theorem dX3_turn_97 : decode cX3_turn 97 = .ok (.getfield 13, 3) := by decide +kernel
theorem dX3_turn_100 : decode cX3_turn 100 = .ok (.iload_n 1, 1) := by decide +kernel
theorem dX3_turn_101 : decode cX3_turn 101 = .ok (.iaload, 1) := by decide +kernel
theorem dX3_turn_102 : decode cX3_turn 102 = .ok (.ireturn, 1) := by decide +kernel
set_option maxRecDepth 20000 in
theorem ggX3_take_X3_isPiece : GoodIn wsX3_take wsX3_isPiece := goodIn_r _ [8, 9, 10, 11, 7, 12, 36, 37, 38, 39, 40, 41, 42, 43, 44, 45, 46, 47, 48, 49] (by decide +kernel) (by decide +kernel)
set_option maxRecDepth 20000 in
theorem gX3_take_X3_isPiece : GoodIn wsX3_take (wsV RX3 86 RX3 yX3_isPiece wsX3_isPiece) := goodIn_app (goodIn_of _ (by decide +kernel)) ggX3_take_X3_isPiece
set_option maxRecDepth 20000 in
theorem ggX3_take_X3_no : GoodIn wsX3_take wsX3_no := goodIn_r _ [16, 1, 36, 37, 38, 39, 40, 41, 42, 43, 44, 45, 46, 47, 48, 49] (by decide +kernel) (by decide +kernel)
set_option maxRecDepth 20000 in
theorem gX3_take_X3_no : GoodIn wsX3_take (wsV RX3 70 RX3 yX3_no wsX3_no) := goodIn_app (goodIn_of _ (by decide +kernel)) ggX3_take_X3_no
set_option maxRecDepth 20000 in
theorem ggX3_take_X2_isLoose : GoodIn wsX3_take wsX2_isLoose := goodIn_r _ [21, 22, 23, 50, 51, 52, 36, 37, 38, 39, 40, 41, 42, 43, 44, 45, 46, 47, 48, 49] (by decide +kernel) (by decide +kernel)
set_option maxRecDepth 20000 in
theorem gX3_take_X2_isLoose : GoodIn wsX3_take (wsV RX3 89 RX2 yX2_isLoose wsX2_isLoose) := goodIn_app (goodIn_of _ (by decide +kernel)) ggX3_take_X2_isLoose
set_option maxRecDepth 20000 in
theorem ggX3_take_X3_change : GoodIn wsX3_take wsX3_change := goodIn_r _ [27, 28, 29, 30, 3, 36, 37, 38, 39, 40, 41, 42, 43, 44, 45, 46, 47, 48, 49, 50, 51, 52] (by decide +kernel) (by decide +kernel)
set_option maxRecDepth 20000 in
theorem gX3_take_X3_change : GoodIn wsX3_take (wsV RX3 96 RX3 yX3_change wsX3_change) := goodIn_app (goodIn_of _ (by decide +kernel)) ggX3_take_X3_change
set_option maxRecDepth 20000 in
theorem ggX3_take_X3_coverBy : GoodIn wsX3_take wsX3_coverBy := goodIn_r _ [34, 28, 29, 35, 30, 36, 37, 38, 39, 40, 41, 42, 43, 44, 45, 46, 47, 48, 49] (by decide +kernel) (by decide +kernel)
set_option maxRecDepth 20000 in
theorem gX3_take_X3_coverBy : GoodIn wsX3_take (wsV RX3 82 RX3 yX3_coverBy wsX3_coverBy) := goodIn_app (goodIn_of _ (by decide +kernel)) ggX3_take_X3_coverBy
theorem dX3_take_0 : decode cX3_take 0 = .ok (.aload_n 0, 1) := by decide +kernel
theorem dX3_take_1 : decode cX3_take 1 = .ok (.iconst 0, 1) := by decide +kernel
theorem dX3_take_2 : decode cX3_take 2 = .ok (.putfield 55, 3) := by decide +kernel
theorem dX3_take_5 : decode cX3_take 5 = .ok (.aload_n 0, 1) := by decide +kernel
theorem dX3_take_6 : decode cX3_take 6 = .ok (.iload_n 1, 1) := by decide +kernel
theorem dX3_take_7 : decode cX3_take 7 = .ok (.invokevirtual 86, 3) := by decide +kernel
theorem dX3_take_10 : decode cX3_take 10 = .ok (.ifCond .ne 17, 3) := by decide +kernel
theorem dX3_take_13 : decode cX3_take 13 = .ok (.aload_n 0, 1) := by decide +kernel
theorem dX3_take_14 : decode cX3_take 14 = .ok (.iconst 1, 1) := by decide +kernel
theorem dX3_take_15 : decode cX3_take 15 = .ok (.invokevirtual 70, 3) := by decide +kernel
theorem dX3_take_18 : decode cX3_take 18 = .ok (.ifCond .eq 7, 3) := by decide +kernel
theorem dX3_take_21 : decode cX3_take 21 = .ok (.iconst 1, 1) := by decide +kernel
theorem dX3_take_22 : decode cX3_take 22 = .ok (.goto 4, 3) := by decide +kernel
theorem dX3_take_25 : decode cX3_take 25 = .ok (.iconst 0, 1) := by decide +kernel
theorem dX3_take_26 : decode cX3_take 26 = .ok (.ireturn, 1) := by decide +kernel
theorem dX3_take_27 : decode cX3_take 27 = .ok (.aload_n 0, 1) := by decide +kernel
theorem dX3_take_28 : decode cX3_take 28 = .ok (.getfield 25, 3) := by decide +kernel
theorem dX3_take_31 : decode cX3_take 31 = .ok (.iload_n 1, 1) := by decide +kernel
theorem dX3_take_32 : decode cX3_take 32 = .ok (.iaload, 1) := by decide +kernel
theorem dX3_take_33 : decode cX3_take 33 = .ok (.iconst 1, 1) := by decide +kernel
theorem dX3_take_34 : decode cX3_take 34 = .ok (.if_icmp .ne 17, 3) := by decide +kernel
theorem dX3_take_37 : decode cX3_take 37 = .ok (.aload_n 0, 1) := by decide +kernel
theorem dX3_take_38 : decode cX3_take 38 = .ok (.iconst 2, 1) := by decide +kernel
theorem dX3_take_39 : decode cX3_take 39 = .ok (.invokevirtual 70, 3) := by decide +kernel
theorem dX3_take_42 : decode cX3_take 42 = .ok (.ifCond .eq 7, 3) := by decide +kernel
theorem dX3_take_45 : decode cX3_take 45 = .ok (.iconst 1, 1) := by decide +kernel
theorem dX3_take_46 : decode cX3_take 46 = .ok (.goto 4, 3) := by decide +kernel
theorem dX3_take_49 : decode cX3_take 49 = .ok (.iconst 0, 1) := by decide +kernel
theorem dX3_take_50 : decode cX3_take 50 = .ok (.ireturn, 1) := by decide +kernel
theorem dX3_take_51 : decode cX3_take 51 = .ok (.aload_n 0, 1) := by decide +kernel
theorem dX3_take_52 : decode cX3_take 52 = .ok (.getfield 45, 3) := by decide +kernel
theorem dX3_take_55 : decode cX3_take 55 = .ok (.iload_n 1, 1) := by decide +kernel
theorem dX3_take_56 : decode cX3_take 56 = .ok (.invokevirtual 89, 3) := by decide +kernel
theorem dX3_take_59 : decode cX3_take 59 = .ok (.istore_n 2, 1) := by decide +kernel
theorem dX3_take_60 : decode cX3_take 60 = .ok (.iload_n 2, 1) := by decide +kernel
theorem dX3_take_61 : decode cX3_take 61 = .ok (.ifCond .ne 9, 3) := by decide +kernel
theorem dX3_take_64 : decode cX3_take 64 = .ok (.aload_n 0, 1) := by decide +kernel
theorem dX3_take_65 : decode cX3_take 65 = .ok (.iload_n 1, 1) := by decide +kernel
theorem dX3_take_66 : decode cX3_take 66 = .ok (.iconst 1, 1) := by decide +kernel
theorem dX3_take_67 : decode cX3_take 67 = .ok (.invokevirtual 96, 3) := by decide +kernel
theorem dX3_take_70 : decode cX3_take 70 = .ok (.aload_n 0, 1) := by decide +kernel
theorem dX3_take_71 : decode cX3_take 71 = .ok (.iload_n 1, 1) := by decide +kernel
theorem dX3_take_72 : decode cX3_take 72 = .ok (.iconst (-1), 1) := by decide +kernel
theorem dX3_take_73 : decode cX3_take 73 = .ok (.invokevirtual 82, 3) := by decide +kernel
theorem dX3_take_76 : decode cX3_take 76 = .ok (.aload_n 0, 1) := by decide +kernel
theorem dX3_take_77 : decode cX3_take 77 = .ok (.getfield 25, 3) := by decide +kernel
theorem dX3_take_80 : decode cX3_take 80 = .ok (.iload_n 1, 1) := by decide +kernel
theorem dX3_take_81 : decode cX3_take 81 = .ok (.iconst 1, 1) := by decide +kernel
theorem dX3_take_82 : decode cX3_take 82 = .ok (.iastore, 1) := by decide +kernel
theorem dX3_take_83 : decode cX3_take 83 = .ok (.iload_n 2, 1) := by decide +kernel
theorem dX3_take_84 : decode cX3_take 84 = .ok (.ireturn, 1) := by decide +kernel
theorem dX3_shown_0 : decode cX3_shown 0 = .ok (.aload_n 0, 1) := by decide +kernel
theorem dX3_shown_1 : decode cX3_shown 1 = .ok (.getfield 28, 3) := by decide +kernel
theorem dX3_shown_4 : decode cX3_shown 4 = .ok (.iload_n 1, 1) := by decide +kernel
theorem dX3_shown_5 : decode cX3_shown 5 = .ok (.iaload, 1) := by decide +kernel
theorem dX3_shown_6 : decode cX3_shown 6 = .ok (.iconst (-1), 1) := by decide +kernel
theorem dX3_shown_7 : decode cX3_shown 7 = .ok (.if_icmp .ne 7, 3) := by decide +kernel
theorem dX3_shown_10 : decode cX3_shown 10 = .ok (.iconst (-1), 1) := by decide +kernel
theorem dX3_shown_11 : decode cX3_shown 11 = .ok (.goto 14, 3) := by decide +kernel
theorem dX3_shown_14 : decode cX3_shown 14 = .ok (.aload_n 0, 1) := by decide +kernel
theorem dX3_shown_15 : decode cX3_shown 15 = .ok (.getfield 19, 3) := by decide +kernel
theorem dX3_shown_18 : decode cX3_shown 18 = .ok (.aload_n 0, 1) := by decide +kernel
theorem dX3_shown_19 : decode cX3_shown 19 = .ok (.getfield 28, 3) := by decide +kernel
theorem dX3_shown_22 : decode cX3_shown 22 = .ok (.iload_n 1, 1) := by decide +kernel
theorem dX3_shown_23 : decode cX3_shown 23 = .ok (.iaload, 1) := by decide +kernel
theorem dX3_shown_24 : decode cX3_shown 24 = .ok (.iaload, 1) := by decide +kernel
theorem dX3_shown_25 : decode cX3_shown 25 = .ok (.ireturn, 1) := by decide +kernel
set_option maxRecDepth 20000 in
theorem ggX3_cellTold_X3_shown : GoodIn wsX3_cellTold wsX3_shown := goodIn_r _ [7, 2, 8, 9, 10, 11, 12, 13, 14, 15, 16, 17, 18, 19, 20, 21, 22] (by decide +kernel) (by decide +kernel)
set_option maxRecDepth 20000 in
theorem gX3_cellTold_X3_shown : GoodIn wsX3_cellTold (wsV RX3 100 RX3 yX3_shown wsX3_shown) := goodIn_app (goodIn_of _ (by decide +kernel)) ggX3_cellTold_X3_shown
theorem dX3_cellTold_0 : decode cX3_cellTold 0 = .ok (.iload_n 2, 1) := by decide +kernel
theorem dX3_cellTold_1 : decode cX3_cellTold 1 = .ok (.ifCond .ne 15, 3) := by decide +kernel
theorem dX3_cellTold_4 : decode cX3_cellTold 4 = .ok (.aload_n 0, 1) := by decide +kernel
theorem dX3_cellTold_5 : decode cX3_cellTold 5 = .ok (.getfield 45, 3) := by decide +kernel
theorem dX3_cellTold_8 : decode cX3_cellTold 8 = .ok (.getfield 52, 3) := by decide +kernel
theorem dX3_cellTold_11 : decode cX3_cellTold 11 = .ok (.iload_n 1, 1) := by decide +kernel
theorem dX3_cellTold_12 : decode cX3_cellTold 12 = .ok (.iaload, 1) := by decide +kernel
theorem dX3_cellTold_13 : decode cX3_cellTold 13 = .ok (.goto 22, 3) := by decide +kernel
theorem dX3_cellTold_16 : decode cX3_cellTold 16 = .ok (.iload_n 2, 1) := by decide +kernel
theorem dX3_cellTold_17 : decode cX3_cellTold 17 = .ok (.iconst 1, 1) := by decide +kernel
theorem dX3_cellTold_18 : decode cX3_cellTold 18 = .ok (.if_icmp .ne 12, 3) := by decide +kernel
theorem dX3_cellTold_21 : decode cX3_cellTold 21 = .ok (.aload_n 0, 1) := by decide +kernel
theorem dX3_cellTold_22 : decode cX3_cellTold 22 = .ok (.getfield 28, 3) := by decide +kernel
theorem dX3_cellTold_25 : decode cX3_cellTold 25 = .ok (.iload_n 1, 1) := by decide +kernel
theorem dX3_cellTold_26 : decode cX3_cellTold 26 = .ok (.iaload, 1) := by decide +kernel
theorem dX3_cellTold_27 : decode cX3_cellTold 27 = .ok (.goto 8, 3) := by decide +kernel
theorem dX3_cellTold_30 : decode cX3_cellTold 30 = .ok (.aload_n 0, 1) := by decide +kernel
theorem dX3_cellTold_31 : decode cX3_cellTold 31 = .ok (.iload_n 1, 1) := by decide +kernel
theorem dX3_cellTold_32 : decode cX3_cellTold 32 = .ok (.invokevirtual 100, 3) := by decide +kernel
theorem dX3_cellTold_35 : decode cX3_cellTold 35 = .ok (.ireturn, 1) := by decide +kernel
set_option maxRecDepth 20000 in
theorem ggX3_cell_X3_isCell : GoodIn wsX3_cell wsX3_isCell := goodIn_r _ [5, 6, 7, 4, 8] (by decide +kernel) (by decide +kernel)
set_option maxRecDepth 20000 in
theorem gX3_cell_X3_isCell : GoodIn wsX3_cell (va_wsS RX3 66 yX3_isCell wsX3_isCell) := goodIn_app (goodIn_of _ (by decide +kernel)) ggX3_cell_X3_isCell
set_option maxRecDepth 20000 in
theorem ggX3_cell_X3_isIn : GoodIn wsX3_cell wsX3_isIn := goodIn_r _ [8] (by decide +kernel) (by decide +kernel)
set_option maxRecDepth 20000 in
theorem gX3_cell_X3_isIn : GoodIn wsX3_cell (va_wsS RX3 59 yX3_isIn wsX3_isIn) := goodIn_app (goodIn_of _ (by decide +kernel)) ggX3_cell_X3_isIn
set_option maxRecDepth 20000 in
theorem ggX3_cell_X3_cellTold : GoodIn wsX3_cell wsX3_cellTold := goodIn_r _ [12, 13, 14, 15, 16, 17, 4, 18, 19, 24, 25, 26, 27, 28, 29, 30, 31, 32, 33, 34, 35, 36, 37, 38, 39, 40] (by decide +kernel) (by decide +kernel)
set_option maxRecDepth 20000 in
theorem gX3_cell_X3_cellTold : GoodIn wsX3_cell (wsV RX3 103 RX3 yX3_cellTold wsX3_cellTold) := goodIn_app (goodIn_of _ (by decide +kernel)) ggX3_cell_X3_cellTold
set_option maxRecDepth 20000 in
theorem ggX3_cell_X3_no : GoodIn wsX3_cell wsX3_no := goodIn_r _ [23, 1, 24, 25, 26, 27, 28, 29, 30, 31, 32, 33, 34, 35, 36, 37] (by decide +kernel) (by decide +kernel)
set_option maxRecDepth 20000 in
theorem gX3_cell_X3_no : GoodIn wsX3_cell (wsV RX3 70 RX3 yX3_no wsX3_no) := goodIn_app (goodIn_of _ (by decide +kernel)) ggX3_cell_X3_no
theorem dX3_cell_0 : decode cX3_cell 0 = .ok (.aload_n 0, 1) := by decide +kernel
theorem dX3_cell_1 : decode cX3_cell 1 = .ok (.iconst 0, 1) := by decide +kernel
theorem dX3_cell_2 : decode cX3_cell 2 = .ok (.putfield 55, 3) := by decide +kernel
theorem dX3_cell_5 : decode cX3_cell 5 = .ok (.iload_n 1, 1) := by decide +kernel
theorem dX3_cell_6 : decode cX3_cell 6 = .ok (.iload_n 2, 1) := by decide +kernel
theorem dX3_cell_7 : decode cX3_cell 7 = .ok (.invokestatic 66, 3) := by decide +kernel
theorem dX3_cell_10 : decode cX3_cell 10 = .ok (.ifCond .eq 26, 3) := by decide +kernel
theorem dX3_cell_13 : decode cX3_cell 13 = .ok (.iload_n 3, 1) := by decide +kernel
theorem dX3_cell_14 : decode cX3_cell 14 = .ok (.iconst 0, 1) := by decide +kernel
theorem dX3_cell_15 : decode cX3_cell 15 = .ok (.iconst 2, 1) := by decide +kernel
theorem dX3_cell_16 : decode cX3_cell 16 = .ok (.invokestatic 59, 3) := by decide +kernel
theorem dX3_cell_19 : decode cX3_cell 19 = .ok (.ifCond .eq 17, 3) := by decide +kernel
theorem dX3_cell_22 : decode cX3_cell 22 = .ok (.aload_n 0, 1) := by decide +kernel
theorem dX3_cell_23 : decode cX3_cell 23 = .ok (.bipush 10, 2) := by decide +kernel
theorem dX3_cell_25 : decode cX3_cell 25 = .ok (.iload_n 2, 1) := by decide +kernel
theorem dX3_cell_26 : decode cX3_cell 26 = .ok (.imul, 1) := by decide +kernel
theorem dX3_cell_27 : decode cX3_cell 27 = .ok (.iload_n 1, 1) := by decide +kernel
theorem dX3_cell_28 : decode cX3_cell 28 = .ok (.iadd, 1) := by decide +kernel
theorem dX3_cell_29 : decode cX3_cell 29 = .ok (.iload_n 3, 1) := by decide +kernel
theorem dX3_cell_30 : decode cX3_cell 30 = .ok (.invokevirtual 103, 3) := by decide +kernel
theorem dX3_cell_33 : decode cX3_cell 33 = .ok (.goto 8, 3) := by decide +kernel
theorem dX3_cell_36 : decode cX3_cell 36 = .ok (.aload_n 0, 1) := by decide +kernel
theorem dX3_cell_37 : decode cX3_cell 37 = .ok (.iconst 1, 1) := by decide +kernel
theorem dX3_cell_38 : decode cX3_cell 38 = .ok (.invokevirtual 70, 3) := by decide +kernel
theorem dX3_cell_41 : decode cX3_cell 41 = .ok (.ireturn, 1) := by decide +kernel
set_option maxRecDepth 20000 in
theorem ggX3_pieceTold_X2_isLoose : GoodIn wsX3_pieceTold wsX2_isLoose := goodIn_r _ [12, 13, 14, 29, 30, 31, 15, 16, 17, 18, 19, 20, 21, 22, 23, 24, 25, 26, 27, 28] (by decide +kernel) (by decide +kernel)
set_option maxRecDepth 20000 in
theorem gX3_pieceTold_X2_isLoose : GoodIn wsX3_pieceTold (wsV RX3 89 RX2 yX2_isLoose wsX2_isLoose) := goodIn_app (goodIn_of _ (by decide +kernel)) ggX3_pieceTold_X2_isLoose
theorem dX3_pieceTold_0 : decode cX3_pieceTold 0 = .ok (.iload_n 2, 1) := by decide +kernel
theorem dX3_pieceTold_1 : decode cX3_pieceTold 1 = .ok (.tableswitch 108 0 6 #[43, 53, 63, 70, 77, 84, 91], 43) := by decide +kernel
theorem dX3_pieceTold_44 : decode cX3_pieceTold 44 = .ok (.aload_n 0, 1) := by decide +kernel
theorem dX3_pieceTold_45 : decode cX3_pieceTold 45 = .ok (.getfield 9, 3) := by decide +kernel
theorem dX3_pieceTold_48 : decode cX3_pieceTold 48 = .ok (.iload_n 1, 1) := by decide +kernel
theorem dX3_pieceTold_49 : decode cX3_pieceTold 49 = .ok (.iaload, 1) := by decide +kernel
theorem dX3_pieceTold_50 : decode cX3_pieceTold 50 = .ok (.bipush 10, 2) := by decide +kernel
theorem dX3_pieceTold_52 : decode cX3_pieceTold 52 = .ok (.irem, 1) := by decide +kernel
theorem dX3_pieceTold_53 : decode cX3_pieceTold 53 = .ok (.ireturn, 1) := by decide +kernel
theorem dX3_pieceTold_54 : decode cX3_pieceTold 54 = .ok (.aload_n 0, 1) := by decide +kernel
theorem dX3_pieceTold_55 : decode cX3_pieceTold 55 = .ok (.getfield 9, 3) := by decide +kernel
theorem dX3_pieceTold_58 : decode cX3_pieceTold 58 = .ok (.iload_n 1, 1) := by decide +kernel
theorem dX3_pieceTold_59 : decode cX3_pieceTold 59 = .ok (.iaload, 1) := by decide +kernel
theorem dX3_pieceTold_60 : decode cX3_pieceTold 60 = .ok (.bipush 10, 2) := by decide +kernel
theorem dX3_pieceTold_62 : decode cX3_pieceTold 62 = .ok (.idiv, 1) := by decide +kernel
theorem dX3_pieceTold_63 : decode cX3_pieceTold 63 = .ok (.ireturn, 1) := by decide +kernel
theorem dX3_pieceTold_64 : decode cX3_pieceTold 64 = .ok (.aload_n 0, 1) := by decide +kernel
theorem dX3_pieceTold_65 : decode cX3_pieceTold 65 = .ok (.getfield 13, 3) := by decide +kernel
theorem dX3_pieceTold_68 : decode cX3_pieceTold 68 = .ok (.iload_n 1, 1) := by decide +kernel
theorem dX3_pieceTold_69 : decode cX3_pieceTold 69 = .ok (.iaload, 1) := by decide +kernel
theorem dX3_pieceTold_70 : decode cX3_pieceTold 70 = .ok (.ireturn, 1) := by decide +kernel
theorem dX3_pieceTold_71 : decode cX3_pieceTold 71 = .ok (.aload_n 0, 1) := by decide +kernel
theorem dX3_pieceTold_72 : decode cX3_pieceTold 72 = .ok (.getfield 16, 3) := by decide +kernel
theorem dX3_pieceTold_75 : decode cX3_pieceTold 75 = .ok (.iload_n 1, 1) := by decide +kernel
theorem dX3_pieceTold_76 : decode cX3_pieceTold 76 = .ok (.iaload, 1) := by decide +kernel
theorem dX3_pieceTold_77 : decode cX3_pieceTold 77 = .ok (.ireturn, 1) := by decide +kernel
theorem dX3_pieceTold_78 : decode cX3_pieceTold 78 = .ok (.aload_n 0, 1) := by decide +kernel
theorem dX3_pieceTold_79 : decode cX3_pieceTold 79 = .ok (.getfield 19, 3) := by decide +kernel
theorem dX3_pieceTold_82 : decode cX3_pieceTold 82 = .ok (.iload_n 1, 1) := by decide +kernel
theorem dX3_pieceTold_83 : decode cX3_pieceTold 83 = .ok (.iaload, 1) := by decide +kernel
theorem dX3_pieceTold_84 : decode cX3_pieceTold 84 = .ok (.ireturn, 1) := by decide +kernel
theorem dX3_pieceTold_85 : decode cX3_pieceTold 85 = .ok (.aload_n 0, 1) := by decide +kernel
theorem dX3_pieceTold_86 : decode cX3_pieceTold 86 = .ok (.getfield 22, 3) := by decide +kernel
theorem dX3_pieceTold_89 : decode cX3_pieceTold 89 = .ok (.iload_n 1, 1) := by decide +kernel
theorem dX3_pieceTold_90 : decode cX3_pieceTold 90 = .ok (.iaload, 1) := by decide +kernel
theorem dX3_pieceTold_91 : decode cX3_pieceTold 91 = .ok (.ireturn, 1) := by decide +kernel
theorem dX3_pieceTold_92 : decode cX3_pieceTold 92 = .ok (.aload_n 0, 1) := by decide +kernel
theorem dX3_pieceTold_93 : decode cX3_pieceTold 93 = .ok (.getfield 45, 3) := by decide +kernel
theorem dX3_pieceTold_96 : decode cX3_pieceTold 96 = .ok (.iload_n 1, 1) := by decide +kernel
theorem dX3_pieceTold_97 : decode cX3_pieceTold 97 = .ok (.invokevirtual 89, 3) := by decide +kernel
theorem dX3_pieceTold_100 : decode cX3_pieceTold 100 = .ok (.ifCond .eq 7, 3) := by decide +kernel
theorem dX3_pieceTold_103 : decode cX3_pieceTold 103 = .ok (.iconst 1, 1) := by decide +kernel
theorem dX3_pieceTold_104 : decode cX3_pieceTold 104 = .ok (.goto 4, 3) := by decide +kernel
theorem dX3_pieceTold_107 : decode cX3_pieceTold 107 = .ok (.iconst 0, 1) := by decide +kernel
theorem dX3_pieceTold_108 : decode cX3_pieceTold 108 = .ok (.ireturn, 1) := by decide +kernel
theorem dX3_pieceTold_109 : decode cX3_pieceTold 109 = .ok (.aload_n 0, 1) := by decide +kernel
theorem dX3_pieceTold_110 : decode cX3_pieceTold 110 = .ok (.getfield 25, 3) := by decide +kernel
theorem dX3_pieceTold_113 : decode cX3_pieceTold 113 = .ok (.iload_n 1, 1) := by decide +kernel
theorem dX3_pieceTold_114 : decode cX3_pieceTold 114 = .ok (.iaload, 1) := by decide +kernel
theorem dX3_pieceTold_115 : decode cX3_pieceTold 115 = .ok (.ireturn, 1) := by decide +kernel
set_option maxRecDepth 20000 in
theorem ggX3_piece_X3_isPiece : GoodIn wsX3_piece wsX3_isPiece := goodIn_r _ [6, 7, 8, 9, 5, 10, 33, 34, 35, 36, 37, 38, 39, 40, 41, 42, 43, 44, 45, 46] (by decide +kernel) (by decide +kernel)
set_option maxRecDepth 20000 in
theorem gX3_piece_X3_isPiece : GoodIn wsX3_piece (wsV RX3 86 RX3 yX3_isPiece wsX3_isPiece) := goodIn_app (goodIn_of _ (by decide +kernel)) ggX3_piece_X3_isPiece
set_option maxRecDepth 20000 in
theorem ggX3_piece_X3_isIn : GoodIn wsX3_piece wsX3_isIn := goodIn_r _ [10] (by decide +kernel) (by decide +kernel)
set_option maxRecDepth 20000 in
theorem gX3_piece_X3_isIn : GoodIn wsX3_piece (va_wsS RX3 59 yX3_isIn wsX3_isIn) := goodIn_app (goodIn_of _ (by decide +kernel)) ggX3_piece_X3_isIn
set_option maxRecDepth 20000 in
theorem ggX3_piece_X3_pieceTold : GoodIn wsX3_piece wsX3_pieceTold := goodIn_r _ [14, 15, 16, 17, 18, 19, 20, 21, 22, 23, 24, 25, 26, 27, 28, 33, 34, 35, 36, 37, 38, 39, 40, 41, 42, 43, 44, 45, 46, 47, 48, 49] (by decide +kernel) (by decide +kernel)
set_option maxRecDepth 20000 in
theorem gX3_piece_X3_pieceTold : GoodIn wsX3_piece (wsV RX3 107 RX3 yX3_pieceTold wsX3_pieceTold) := goodIn_app (goodIn_of _ (by decide +kernel)) ggX3_piece_X3_pieceTold
set_option maxRecDepth 20000 in
theorem ggX3_piece_X3_no : GoodIn wsX3_piece wsX3_no := goodIn_r _ [32, 1, 33, 34, 35, 36, 37, 38, 39, 40, 41, 42, 43, 44, 45, 46] (by decide +kernel) (by decide +kernel)
set_option maxRecDepth 20000 in
theorem gX3_piece_X3_no : GoodIn wsX3_piece (wsV RX3 70 RX3 yX3_no wsX3_no) := goodIn_app (goodIn_of _ (by decide +kernel)) ggX3_piece_X3_no
theorem dX3_piece_0 : decode cX3_piece 0 = .ok (.aload_n 0, 1) := by decide +kernel
theorem dX3_piece_1 : decode cX3_piece 1 = .ok (.iconst 0, 1) := by decide +kernel
theorem dX3_piece_2 : decode cX3_piece 2 = .ok (.putfield 55, 3) := by decide +kernel
theorem dX3_piece_5 : decode cX3_piece 5 = .ok (.aload_n 0, 1) := by decide +kernel
theorem dX3_piece_6 : decode cX3_piece 6 = .ok (.iload_n 1, 1) := by decide +kernel
theorem dX3_piece_7 : decode cX3_piece 7 = .ok (.invokevirtual 86, 3) := by decide +kernel
theorem dX3_piece_10 : decode cX3_piece 10 = .ok (.ifCond .eq 22, 3) := by decide +kernel
theorem dX3_piece_13 : decode cX3_piece 13 = .ok (.iload_n 2, 1) := by decide +kernel
theorem dX3_piece_14 : decode cX3_piece 14 = .ok (.iconst 0, 1) := by decide +kernel
theorem dX3_piece_15 : decode cX3_piece 15 = .ok (.bipush 7, 2) := by decide +kernel
theorem dX3_piece_17 : decode cX3_piece 17 = .ok (.invokestatic 59, 3) := by decide +kernel
theorem dX3_piece_20 : decode cX3_piece 20 = .ok (.ifCond .eq 12, 3) := by decide +kernel
theorem dX3_piece_23 : decode cX3_piece 23 = .ok (.aload_n 0, 1) := by decide +kernel
theorem dX3_piece_24 : decode cX3_piece 24 = .ok (.iload_n 1, 1) := by decide +kernel
theorem dX3_piece_25 : decode cX3_piece 25 = .ok (.iload_n 2, 1) := by decide +kernel
theorem dX3_piece_26 : decode cX3_piece 26 = .ok (.invokevirtual 107, 3) := by decide +kernel
theorem dX3_piece_29 : decode cX3_piece 29 = .ok (.goto 8, 3) := by decide +kernel
theorem dX3_piece_32 : decode cX3_piece 32 = .ok (.aload_n 0, 1) := by decide +kernel
theorem dX3_piece_33 : decode cX3_piece 33 = .ok (.iconst 1, 1) := by decide +kernel
theorem dX3_piece_34 : decode cX3_piece 34 = .ok (.invokevirtual 70, 3) := by decide +kernel
theorem dX3_piece_37 : decode cX3_piece 37 = .ok (.ireturn, 1) := by decide +kernel
set_option maxRecDepth 20000 in
theorem ggX3_looseOnes_X2_isLoose : GoodIn wsX3_looseOnes wsX2_isLoose := goodIn_r _ [7, 8, 9, 24, 25, 26, 10, 11, 12, 13, 14, 15, 16, 17, 18, 19, 20, 21, 22, 23] (by decide +kernel) (by decide +kernel)
set_option maxRecDepth 20000 in
theorem gX3_looseOnes_X2_isLoose : GoodIn wsX3_looseOnes (wsV RX3 89 RX2 yX2_isLoose wsX2_isLoose) := goodIn_app (goodIn_of _ (by decide +kernel)) ggX3_looseOnes_X2_isLoose
theorem dX3_looseOnes_0 : decode cX3_looseOnes 0 = .ok (.iconst 0, 1) := by decide +kernel
theorem dX3_looseOnes_1 : decode cX3_looseOnes 1 = .ok (.istore_n 1, 1) := by decide +kernel
theorem dX3_looseOnes_2 : decode cX3_looseOnes 2 = .ok (.iconst 0, 1) := by decide +kernel
theorem dX3_looseOnes_3 : decode cX3_looseOnes 3 = .ok (.istore_n 2, 1) := by decide +kernel
theorem dX3_looseOnes_4 : decode cX3_looseOnes 4 = .ok (.iload_n 2, 1) := by decide +kernel
theorem dX3_looseOnes_5 : decode cX3_looseOnes 5 = .ok (.aload_n 0, 1) := by decide +kernel
theorem dX3_looseOnes_6 : decode cX3_looseOnes 6 = .ok (.getfield 63, 3) := by decide +kernel
theorem dX3_looseOnes_9 : decode cX3_looseOnes 9 = .ok (.if_icmp .ge 28, 3) := by decide +kernel
theorem dX3_looseOnes_12 : decode cX3_looseOnes 12 = .ok (.iload_n 1, 1) := by decide +kernel
theorem dX3_looseOnes_13 : decode cX3_looseOnes 13 = .ok (.aload_n 0, 1) := by decide +kernel
theorem dX3_looseOnes_14 : decode cX3_looseOnes 14 = .ok (.getfield 45, 3) := by decide +kernel
theorem dX3_looseOnes_17 : decode cX3_looseOnes 17 = .ok (.iload_n 2, 1) := by decide +kernel
theorem dX3_looseOnes_18 : decode cX3_looseOnes 18 = .ok (.invokevirtual 89, 3) := by decide +kernel
theorem dX3_looseOnes_21 : decode cX3_looseOnes 21 = .ok (.ifCond .eq 7, 3) := by decide +kernel
theorem dX3_looseOnes_24 : decode cX3_looseOnes 24 = .ok (.iconst 1, 1) := by decide +kernel
theorem dX3_looseOnes_25 : decode cX3_looseOnes 25 = .ok (.goto 4, 3) := by decide +kernel
theorem dX3_looseOnes_28 : decode cX3_looseOnes 28 = .ok (.iconst 0, 1) := by decide +kernel
theorem dX3_looseOnes_29 : decode cX3_looseOnes 29 = .ok (.iadd, 1) := by decide +kernel
theorem dX3_looseOnes_30 : decode cX3_looseOnes 30 = .ok (.istore_n 1, 1) := by decide +kernel
theorem dX3_looseOnes_31 : decode cX3_looseOnes 31 = .ok (.iinc 2 1, 3) := by decide +kernel
theorem dX3_looseOnes_34 : decode cX3_looseOnes 34 = .ok (.goto (-30), 3) := by decide +kernel
theorem dX3_looseOnes_37 : decode cX3_looseOnes 37 = .ok (.iload_n 1, 1) := by decide +kernel
theorem dX3_looseOnes_38 : decode cX3_looseOnes 38 = .ok (.ireturn, 1) := by decide +kernel
theorem dX3_covered_0 : decode cX3_covered 0 = .ok (.iconst 0, 1) := by decide +kernel
theorem dX3_covered_1 : decode cX3_covered 1 = .ok (.istore_n 1, 1) := by decide +kernel
theorem dX3_covered_2 : decode cX3_covered 2 = .ok (.aload_n 0, 1) := by decide +kernel
theorem dX3_covered_3 : decode cX3_covered 3 = .ok (.getfield 28, 3) := by decide +kernel
theorem dX3_covered_6 : decode cX3_covered 6 = .ok (.astore_n 2, 1) := by decide +kernel
theorem dX3_covered_7 : decode cX3_covered 7 = .ok (.aload_n 2, 1) := by decide +kernel
theorem dX3_covered_8 : decode cX3_covered 8 = .ok (.arraylength, 1) := by decide +kernel
theorem dX3_covered_9 : decode cX3_covered 9 = .ok (.istore_n 3, 1) := by decide +kernel
theorem dX3_covered_10 : decode cX3_covered 10 = .ok (.iconst 0, 1) := by decide +kernel
theorem dX3_covered_11 : decode cX3_covered 11 = .ok (.istore 4, 2) := by decide +kernel
theorem dX3_covered_13 : decode cX3_covered 13 = .ok (.iload 4, 2) := by decide +kernel
theorem dX3_covered_15 : decode cX3_covered 15 = .ok (.iload_n 3, 1) := by decide +kernel
theorem dX3_covered_16 : decode cX3_covered 16 = .ok (.if_icmp .ge 29, 3) := by decide +kernel
theorem dX3_covered_19 : decode cX3_covered 19 = .ok (.aload_n 2, 1) := by decide +kernel
theorem dX3_covered_20 : decode cX3_covered 20 = .ok (.iload 4, 2) := by decide +kernel
theorem dX3_covered_22 : decode cX3_covered 22 = .ok (.iaload, 1) := by decide +kernel
theorem dX3_covered_23 : decode cX3_covered 23 = .ok (.istore 5, 2) := by decide +kernel
theorem dX3_covered_25 : decode cX3_covered 25 = .ok (.iload_n 1, 1) := by decide +kernel
theorem dX3_covered_26 : decode cX3_covered 26 = .ok (.iload 5, 2) := by decide +kernel
theorem dX3_covered_28 : decode cX3_covered 28 = .ok (.iconst (-1), 1) := by decide +kernel
theorem dX3_covered_29 : decode cX3_covered 29 = .ok (.if_icmp .ne 7, 3) := by decide +kernel
theorem dX3_covered_32 : decode cX3_covered 32 = .ok (.iconst 0, 1) := by decide +kernel
theorem dX3_covered_33 : decode cX3_covered 33 = .ok (.goto 4, 3) := by decide +kernel
theorem dX3_covered_36 : decode cX3_covered 36 = .ok (.iconst 1, 1) := by decide +kernel
theorem dX3_covered_37 : decode cX3_covered 37 = .ok (.iadd, 1) := by decide +kernel
theorem dX3_covered_38 : decode cX3_covered 38 = .ok (.istore_n 1, 1) := by decide +kernel
theorem dX3_covered_39 : decode cX3_covered 39 = .ok (.iinc 4 1, 3) := by decide +kernel
theorem dX3_covered_42 : decode cX3_covered 42 = .ok (.goto (-29), 3) := by decide +kernel
theorem dX3_covered_45 : decode cX3_covered 45 = .ok (.iload_n 1, 1) := by decide +kernel
theorem dX3_covered_46 : decode cX3_covered 46 = .ok (.ireturn, 1) := by decide +kernel
set_option maxRecDepth 20000 in
theorem ggX3_beside_X3_isCell : GoodIn wsX3_beside wsX3_isCell := goodIn_r _ [4, 5, 6, 3, 7] (by decide +kernel) (by decide +kernel)
set_option maxRecDepth 20000 in
theorem gX3_beside_X3_isCell : GoodIn wsX3_beside (va_wsS RX3 66 yX3_isCell wsX3_isCell) := goodIn_app (goodIn_of _ (by decide +kernel)) ggX3_beside_X3_isCell
theorem dX3_beside_0 : decode cX3_beside 0 = .ok (.iload_n 0, 1) := by decide +kernel
theorem dX3_beside_1 : decode cX3_beside 1 = .ok (.bipush 10, 2) := by decide +kernel
theorem dX3_beside_3 : decode cX3_beside 3 = .ok (.irem, 1) := by decide +kernel
theorem dX3_beside_4 : decode cX3_beside 4 = .ok (.iload_n 1, 1) := by decide +kernel
theorem dX3_beside_5 : decode cX3_beside 5 = .ok (.ifCond .ne 7, 3) := by decide +kernel
theorem dX3_beside_8 : decode cX3_beside 8 = .ok (.iconst 1, 1) := by decide +kernel
theorem dX3_beside_9 : decode cX3_beside 9 = .ok (.goto 13, 3) := by decide +kernel
theorem dX3_beside_12 : decode cX3_beside 12 = .ok (.iload_n 1, 1) := by decide +kernel
theorem dX3_beside_13 : decode cX3_beside 13 = .ok (.iconst 1, 1) := by decide +kernel
theorem dX3_beside_14 : decode cX3_beside 14 = .ok (.if_icmp .ne 7, 3) := by decide +kernel
theorem dX3_beside_17 : decode cX3_beside 17 = .ok (.iconst (-1), 1) := by decide +kernel
theorem dX3_beside_18 : decode cX3_beside 18 = .ok (.goto 4, 3) := by decide +kernel
theorem dX3_beside_21 : decode cX3_beside 21 = .ok (.iconst 0, 1) := by decide +kernel
theorem dX3_beside_22 : decode cX3_beside 22 = .ok (.iadd, 1) := by decide +kernel
theorem dX3_beside_23 : decode cX3_beside 23 = .ok (.istore_n 2, 1) := by decide +kernel
theorem dX3_beside_24 : decode cX3_beside 24 = .ok (.iload_n 0, 1) := by decide +kernel
theorem dX3_beside_25 : decode cX3_beside 25 = .ok (.bipush 10, 2) := by decide +kernel
theorem dX3_beside_27 : decode cX3_beside 27 = .ok (.idiv, 1) := by decide +kernel
theorem dX3_beside_28 : decode cX3_beside 28 = .ok (.iload_n 1, 1) := by decide +kernel
theorem dX3_beside_29 : decode cX3_beside 29 = .ok (.iconst 2, 1) := by decide +kernel
theorem dX3_beside_30 : decode cX3_beside 30 = .ok (.if_icmp .ne 7, 3) := by decide +kernel
theorem dX3_beside_33 : decode cX3_beside 33 = .ok (.iconst 1, 1) := by decide +kernel
theorem dX3_beside_34 : decode cX3_beside 34 = .ok (.goto 13, 3) := by decide +kernel
theorem dX3_beside_37 : decode cX3_beside 37 = .ok (.iload_n 1, 1) := by decide +kernel
theorem dX3_beside_38 : decode cX3_beside 38 = .ok (.iconst 3, 1) := by decide +kernel
theorem dX3_beside_39 : decode cX3_beside 39 = .ok (.if_icmp .ne 7, 3) := by decide +kernel
theorem dX3_beside_42 : decode cX3_beside 42 = .ok (.iconst (-1), 1) := by decide +kernel
theorem dX3_beside_43 : decode cX3_beside 43 = .ok (.goto 4, 3) := by decide +kernel
theorem dX3_beside_46 : decode cX3_beside 46 = .ok (.iconst 0, 1) := by decide +kernel
theorem dX3_beside_47 : decode cX3_beside 47 = .ok (.iadd, 1) := by decide +kernel
theorem dX3_beside_48 : decode cX3_beside 48 = .ok (.istore_n 3, 1) := by decide +kernel
theorem dX3_beside_49 : decode cX3_beside 49 = .ok (.iload_n 2, 1) := by decide +kernel
theorem dX3_beside_50 : decode cX3_beside 50 = .ok (.iload_n 3, 1) := by decide +kernel
theorem dX3_beside_51 : decode cX3_beside 51 = .ok (.invokestatic 66, 3) := by decide +kernel
theorem dX3_beside_54 : decode cX3_beside 54 = .ok (.ifCond .eq 12, 3) := by decide +kernel
theorem dX3_beside_57 : decode cX3_beside 57 = .ok (.bipush 10, 2) := by decide +kernel
theorem dX3_beside_59 : decode cX3_beside 59 = .ok (.iload_n 3, 1) := by decide +kernel
theorem dX3_beside_60 : decode cX3_beside 60 = .ok (.imul, 1) := by decide +kernel
theorem dX3_beside_61 : decode cX3_beside 61 = .ok (.iload_n 2, 1) := by decide +kernel
theorem dX3_beside_62 : decode cX3_beside 62 = .ok (.iadd, 1) := by decide +kernel
theorem dX3_beside_63 : decode cX3_beside 63 = .ok (.goto 4, 3) := by decide +kernel
theorem dX3_beside_66 : decode cX3_beside 66 = .ok (.iconst (-1), 1) := by decide +kernel
theorem dX3_beside_67 : decode cX3_beside 67 = .ok (.ireturn, 1) := by decide +kernel
theorem dX3_clear_0 : decode cX3_clear 0 = .ok (.iconst 0, 1) := by decide +kernel
theorem dX3_clear_1 : decode cX3_clear 1 = .ok (.istore_n 1, 1) := by decide +kernel
theorem dX3_clear_2 : decode cX3_clear 2 = .ok (.iload_n 1, 1) := by decide +kernel
theorem dX3_clear_3 : decode cX3_clear 3 = .ok (.bipush 80, 2) := by decide +kernel
theorem dX3_clear_5 : decode cX3_clear 5 = .ok (.if_icmp .ge 16, 3) := by decide +kernel
theorem dX3_clear_8 : decode cX3_clear 8 = .ok (.aload_n 0, 1) := by decide +kernel
theorem dX3_clear_9 : decode cX3_clear 9 = .ok (.getfield 37, 3) := by decide +kernel
theorem dX3_clear_12 : decode cX3_clear 12 = .ok (.iload_n 1, 1) := by decide +kernel
theorem dX3_clear_13 : decode cX3_clear 13 = .ok (.iconst 0, 1) := by decide +kernel
theorem dX3_clear_14 : decode cX3_clear 14 = .ok (.iastore, 1) := by decide +kernel
theorem dX3_clear_15 : decode cX3_clear 15 = .ok (.iinc 1 1, 3) := by decide +kernel
theorem dX3_clear_18 : decode cX3_clear 18 = .ok (.goto (-16), 3) := by decide +kernel
theorem dX3_clear_21 : decode cX3_clear 21 = .ok (.return_, 1) := by decide +kernel
set_option maxRecDepth 20000 in
theorem ggX3_fill_X3_beside : GoodIn wsX3_fill wsX3_beside := goodIn_r _ [7, 8, 9, 6, 10, 11, 12, 13] (by decide +kernel) (by decide +kernel)
set_option maxRecDepth 20000 in
theorem gX3_fill_X3_beside : GoodIn wsX3_fill (va_wsS RX3 110 yX3_beside wsX3_beside) := goodIn_app (goodIn_of _ (by decide +kernel)) ggX3_fill_X3_beside
theorem dX3_fill_0 : decode cX3_fill 0 = .ok (.aload_n 0, 1) := by decide +kernel
theorem dX3_fill_1 : decode cX3_fill 1 = .ok (.getfield 37, 3) := by decide +kernel
theorem dX3_fill_4 : decode cX3_fill 4 = .ok (.iload_n 1, 1) := by decide +kernel
theorem dX3_fill_5 : decode cX3_fill 5 = .ok (.iconst 1, 1) := by decide +kernel
theorem dX3_fill_6 : decode cX3_fill 6 = .ok (.iastore, 1) := by decide +kernel
theorem dX3_fill_7 : decode cX3_fill 7 = .ok (.aload_n 0, 1) := by decide +kernel
theorem dX3_fill_8 : decode cX3_fill 8 = .ok (.getfield 34, 3) := by decide +kernel
theorem dX3_fill_11 : decode cX3_fill 11 = .ok (.iconst 0, 1) := by decide +kernel
theorem dX3_fill_12 : decode cX3_fill 12 = .ok (.iload_n 1, 1) := by decide +kernel
theorem dX3_fill_13 : decode cX3_fill 13 = .ok (.iastore, 1) := by decide +kernel
theorem dX3_fill_14 : decode cX3_fill 14 = .ok (.iconst 1, 1) := by decide +kernel
theorem dX3_fill_15 : decode cX3_fill 15 = .ok (.istore_n 2, 1) := by decide +kernel
theorem dX3_fill_16 : decode cX3_fill 16 = .ok (.iconst 0, 1) := by decide +kernel
theorem dX3_fill_17 : decode cX3_fill 17 = .ok (.istore_n 3, 1) := by decide +kernel
theorem dX3_fill_18 : decode cX3_fill 18 = .ok (.iload_n 3, 1) := by decide +kernel
theorem dX3_fill_19 : decode cX3_fill 19 = .ok (.iconst 4, 1) := by decide +kernel
theorem dX3_fill_20 : decode cX3_fill 20 = .ok (.iload_n 2, 1) := by decide +kernel
theorem dX3_fill_21 : decode cX3_fill 21 = .ok (.imul, 1) := by decide +kernel
theorem dX3_fill_22 : decode cX3_fill 22 = .ok (.if_icmp .ge 74, 3) := by decide +kernel
theorem dX3_fill_25 : decode cX3_fill 25 = .ok (.aload_n 0, 1) := by decide +kernel
theorem dX3_fill_26 : decode cX3_fill 26 = .ok (.getfield 34, 3) := by decide +kernel
theorem dX3_fill_29 : decode cX3_fill 29 = .ok (.iload_n 3, 1) := by decide +kernel
theorem dX3_fill_30 : decode cX3_fill 30 = .ok (.iconst 4, 1) := by decide +kernel
theorem dX3_fill_31 : decode cX3_fill 31 = .ok (.idiv, 1) := by decide +kernel
theorem dX3_fill_32 : decode cX3_fill 32 = .ok (.iaload, 1) := by decide +kernel
theorem dX3_fill_33 : decode cX3_fill 33 = .ok (.iload_n 3, 1) := by decide +kernel
theorem dX3_fill_34 : decode cX3_fill 34 = .ok (.iconst 4, 1) := by decide +kernel
theorem dX3_fill_35 : decode cX3_fill 35 = .ok (.irem, 1) := by decide +kernel
theorem dX3_fill_36 : decode cX3_fill 36 = .ok (.invokestatic 110, 3) := by decide +kernel
theorem dX3_fill_39 : decode cX3_fill 39 = .ok (.istore 4, 2) := by decide +kernel
theorem dX3_fill_41 : decode cX3_fill 41 = .ok (.iload 4, 2) := by decide +kernel
theorem dX3_fill_43 : decode cX3_fill 43 = .ok (.iconst (-1), 1) := by decide +kernel
theorem dX3_fill_44 : decode cX3_fill 44 = .ok (.if_icmp .eq 46, 3) := by decide +kernel
theorem dX3_fill_47 : decode cX3_fill 47 = .ok (.aload_n 0, 1) := by decide +kernel
theorem dX3_fill_48 : decode cX3_fill 48 = .ok (.getfield 28, 3) := by decide +kernel
theorem dX3_fill_51 : decode cX3_fill 51 = .ok (.iload 4, 2) := by decide +kernel
theorem dX3_fill_53 : decode cX3_fill 53 = .ok (.iaload, 1) := by decide +kernel
theorem dX3_fill_54 : decode cX3_fill 54 = .ok (.iconst (-1), 1) := by decide +kernel
theorem dX3_fill_55 : decode cX3_fill 55 = .ok (.if_icmp .ne 35, 3) := by decide +kernel
theorem dX3_fill_58 : decode cX3_fill 58 = .ok (.aload_n 0, 1) := by decide +kernel
theorem dX3_fill_59 : decode cX3_fill 59 = .ok (.getfield 37, 3) := by decide +kernel
theorem dX3_fill_62 : decode cX3_fill 62 = .ok (.iload 4, 2) := by decide +kernel
theorem dX3_fill_64 : decode cX3_fill 64 = .ok (.iaload, 1) := by decide +kernel
theorem dX3_fill_65 : decode cX3_fill 65 = .ok (.ifCond .eq 6, 3) := by decide +kernel
theorem dX3_fill_68 : decode cX3_fill 68 = .ok (.goto 22, 3) := by decide +kernel
theorem dX3_fill_71 : decode cX3_fill 71 = .ok (.aload_n 0, 1) := by decide +kernel
theorem dX3_fill_72 : decode cX3_fill 72 = .ok (.getfield 37, 3) := by decide +kernel
theorem dX3_fill_75 : decode cX3_fill 75 = .ok (.iload 4, 2) := by decide +kernel
theorem dX3_fill_77 : decode cX3_fill 77 = .ok (.iconst 1, 1) := by decide +kernel
theorem dX3_fill_78 : decode cX3_fill 78 = .ok (.iastore, 1) := by decide +kernel
theorem dX3_fill_79 : decode cX3_fill 79 = .ok (.aload_n 0, 1) := by decide +kernel
theorem dX3_fill_80 : decode cX3_fill 80 = .ok (.getfield 34, 3) := by decide +kernel
theorem dX3_fill_83 : decode cX3_fill 83 = .ok (.iload_n 2, 1) := by decide +kernel
theorem dX3_fill_84 : decode cX3_fill 84 = .ok (.iload 4, 2) := by decide +kernel
theorem dX3_fill_86 : decode cX3_fill 86 = .ok (.iastore, 1) := by decide +kernel
theorem dX3_fill_87 : decode cX3_fill 87 = .ok (.iinc 2 1, 3) := by decide +kernel
theorem dX3_fill_90 : decode cX3_fill 90 = .ok (.iinc 3 1, 3) := by decide +kernel
theorem dX3_fill_93 : decode cX3_fill 93 = .ok (.goto (-75), 3) := by decide +kernel
theorem dX3_fill_96 : decode cX3_fill 96 = .ok (.iload_n 2, 1) := by decide +kernel
theorem dX3_fill_97 : decode cX3_fill 97 = .ok (.ireturn, 1) := by decide +kernel
set_option maxRecDepth 20000 in
theorem ggX3_gaps_X3_clear : GoodIn wsX3_gaps wsX3_clear := goodIn_r _ [7, 2, 22, 23, 24, 25, 26, 27, 28, 29, 30, 31, 32, 33, 34, 35] (by decide +kernel) (by decide +kernel)
set_option maxRecDepth 20000 in
theorem gX3_gaps_X3_clear : GoodIn wsX3_gaps (wsV RX3 113 RX3 yX3_clear wsX3_clear) := goodIn_app (goodIn_of _ (by decide +kernel)) ggX3_gaps_X3_clear
set_option maxRecDepth 20000 in
theorem ggX3_gaps_X3_fill : GoodIn wsX3_gaps wsX3_fill := goodIn_r _ [11, 2, 12, 1, 13, 14, 6, 15, 16, 17, 18, 19, 20, 21, 22, 23, 24, 25, 26, 27, 28, 29, 30, 31, 32, 33, 34, 35] (by decide +kernel) (by decide +kernel)
set_option maxRecDepth 20000 in
theorem gX3_gaps_X3_fill : GoodIn wsX3_gaps (wsV RX3 116 RX3 yX3_fill wsX3_fill) := goodIn_app (goodIn_of _ (by decide +kernel)) ggX3_gaps_X3_fill
theorem dX3_gaps_0 : decode cX3_gaps 0 = .ok (.aload_n 0, 1) := by decide +kernel
theorem dX3_gaps_1 : decode cX3_gaps 1 = .ok (.invokevirtual 113, 3) := by decide +kernel
theorem dX3_gaps_4 : decode cX3_gaps 4 = .ok (.iconst 0, 1) := by decide +kernel
theorem dX3_gaps_5 : decode cX3_gaps 5 = .ok (.istore_n 1, 1) := by decide +kernel
theorem dX3_gaps_6 : decode cX3_gaps 6 = .ok (.iconst 0, 1) := by decide +kernel
theorem dX3_gaps_7 : decode cX3_gaps 7 = .ok (.istore_n 2, 1) := by decide +kernel
theorem dX3_gaps_8 : decode cX3_gaps 8 = .ok (.iload_n 2, 1) := by decide +kernel
theorem dX3_gaps_9 : decode cX3_gaps 9 = .ok (.bipush 80, 2) := by decide +kernel
theorem dX3_gaps_11 : decode cX3_gaps 11 = .ok (.if_icmp .ge 40, 3) := by decide +kernel
theorem dX3_gaps_14 : decode cX3_gaps 14 = .ok (.aload_n 0, 1) := by decide +kernel
theorem dX3_gaps_15 : decode cX3_gaps 15 = .ok (.getfield 28, 3) := by decide +kernel
theorem dX3_gaps_18 : decode cX3_gaps 18 = .ok (.iload_n 2, 1) := by decide +kernel
theorem dX3_gaps_19 : decode cX3_gaps 19 = .ok (.iaload, 1) := by decide +kernel
theorem dX3_gaps_20 : decode cX3_gaps 20 = .ok (.iconst (-1), 1) := by decide +kernel
theorem dX3_gaps_21 : decode cX3_gaps 21 = .ok (.if_icmp .ne 24, 3) := by decide +kernel
theorem dX3_gaps_24 : decode cX3_gaps 24 = .ok (.aload_n 0, 1) := by decide +kernel
theorem dX3_gaps_25 : decode cX3_gaps 25 = .ok (.getfield 37, 3) := by decide +kernel
theorem dX3_gaps_28 : decode cX3_gaps 28 = .ok (.iload_n 2, 1) := by decide +kernel
theorem dX3_gaps_29 : decode cX3_gaps 29 = .ok (.iaload, 1) := by decide +kernel
theorem dX3_gaps_30 : decode cX3_gaps 30 = .ok (.ifCond .eq 6, 3) := by decide +kernel
theorem dX3_gaps_33 : decode cX3_gaps 33 = .ok (.goto 12, 3) := by decide +kernel
theorem dX3_gaps_36 : decode cX3_gaps 36 = .ok (.aload_n 0, 1) := by decide +kernel
theorem dX3_gaps_37 : decode cX3_gaps 37 = .ok (.iload_n 2, 1) := by decide +kernel
theorem dX3_gaps_38 : decode cX3_gaps 38 = .ok (.invokevirtual 116, 3) := by decide +kernel
theorem dX3_gaps_41 : decode cX3_gaps 41 = .ok (.pop, 1) := by decide +kernel
theorem dX3_gaps_42 : decode cX3_gaps 42 = .ok (.iinc 1 1, 3) := by decide +kernel
theorem dX3_gaps_45 : decode cX3_gaps 45 = .ok (.iinc 2 1, 3) := by decide +kernel
theorem dX3_gaps_48 : decode cX3_gaps 48 = .ok (.goto (-40), 3) := by decide +kernel
theorem dX3_gaps_51 : decode cX3_gaps 51 = .ok (.iload_n 1, 1) := by decide +kernel
theorem dX3_gaps_52 : decode cX3_gaps 52 = .ok (.ireturn, 1) := by decide +kernel
set_option maxRecDepth 20000 in
theorem ggX3_counted_X3_looseOnes : GoodIn wsX3_counted wsX3_looseOnes := goodIn_r _ [8, 2, 1, 9, 10, 11, 12, 13, 14, 15, 48, 49, 50, 51, 52, 53, 54, 55, 56, 57, 58, 59, 60, 61, 62, 63, 64] (by decide +kernel) (by decide +kernel)
set_option maxRecDepth 20000 in
theorem gX3_counted_X3_looseOnes : GoodIn wsX3_counted (wsV RX3 122 RX3 yX3_looseOnes wsX3_looseOnes) := goodIn_app (goodIn_of _ (by decide +kernel)) ggX3_counted_X3_looseOnes
set_option maxRecDepth 20000 in
theorem ggX3_counted_X2_wetOnes : GoodIn wsX3_counted wsX2_wetOnes := goodIn_r _ [19, 15, 62, 63, 64] (by decide +kernel) (by decide +kernel)
set_option maxRecDepth 20000 in
theorem gX3_counted_X2_wetOnes : GoodIn wsX3_counted (wsV RX3 126 RX2 yX2_wetOnes wsX2_wetOnes) := goodIn_app (goodIn_of _ (by decide +kernel)) ggX3_counted_X2_wetOnes
set_option maxRecDepth 20000 in
theorem ggX3_counted_X3_covered : GoodIn wsX3_counted wsX3_covered := goodIn_r _ [23, 24, 48, 49, 50, 51, 52, 53, 54, 55, 56, 57, 58, 59, 60, 61] (by decide +kernel) (by decide +kernel)
set_option maxRecDepth 20000 in
theorem gX3_counted_X3_covered : GoodIn wsX3_counted (wsV RX3 129 RX3 yX3_covered wsX3_covered) := goodIn_app (goodIn_of _ (by decide +kernel)) ggX3_counted_X3_covered
set_option maxRecDepth 20000 in
theorem ggX3_counted_X3_gaps : GoodIn wsX3_counted wsX3_gaps := goodIn_r _ [28, 24, 29, 30, 31, 32, 7, 33, 34, 35, 36, 37, 38, 39, 40, 41, 42, 43, 44, 45, 46, 47, 48, 49, 50, 51, 52, 53, 54, 55, 56, 57, 58, 59, 60, 61] (by decide +kernel) (by decide +kernel)
set_option maxRecDepth 20000 in
theorem gX3_counted_X3_gaps : GoodIn wsX3_counted (wsV RX3 132 RX3 yX3_gaps wsX3_gaps) := goodIn_app (goodIn_of _ (by decide +kernel)) ggX3_counted_X3_gaps
theorem dX3_counted_0 : decode cX3_counted 0 = .ok (.iconst 0, 1) := by decide +kernel
theorem dX3_counted_1 : decode cX3_counted 1 = .ok (.istore_n 2, 1) := by decide +kernel
theorem dX3_counted_2 : decode cX3_counted 2 = .ok (.iload_n 1, 1) := by decide +kernel
theorem dX3_counted_3 : decode cX3_counted 3 = .ok (.tableswitch 151 0 6 #[41, 49, 54, 83, 88, 138, 146], 41) := by decide +kernel
theorem dX3_counted_44 : decode cX3_counted 44 = .ok (.aload_n 0, 1) := by decide +kernel
theorem dX3_counted_45 : decode cX3_counted 45 = .ok (.getfield 45, 3) := by decide +kernel
theorem dX3_counted_48 : decode cX3_counted 48 = .ok (.getfield 119, 3) := by decide +kernel
theorem dX3_counted_51 : decode cX3_counted 51 = .ok (.ireturn, 1) := by decide +kernel
theorem dX3_counted_52 : decode cX3_counted 52 = .ok (.aload_n 0, 1) := by decide +kernel
theorem dX3_counted_53 : decode cX3_counted 53 = .ok (.getfield 63, 3) := by decide +kernel
theorem dX3_counted_56 : decode cX3_counted 56 = .ok (.ireturn, 1) := by decide +kernel
theorem dX3_counted_57 : decode cX3_counted 57 = .ok (.iconst 0, 1) := by decide +kernel
theorem dX3_counted_58 : decode cX3_counted 58 = .ok (.istore_n 3, 1) := by decide +kernel
theorem dX3_counted_59 : decode cX3_counted 59 = .ok (.iload_n 3, 1) := by decide +kernel
theorem dX3_counted_60 : decode cX3_counted 60 = .ok (.aload_n 0, 1) := by decide +kernel
theorem dX3_counted_61 : decode cX3_counted 61 = .ok (.getfield 63, 3) := by decide +kernel
theorem dX3_counted_64 : decode cX3_counted 64 = .ok (.if_icmp .ge 20, 3) := by decide +kernel
theorem dX3_counted_67 : decode cX3_counted 67 = .ok (.iload_n 2, 1) := by decide +kernel
theorem dX3_counted_68 : decode cX3_counted 68 = .ok (.iconst 1, 1) := by decide +kernel
theorem dX3_counted_69 : decode cX3_counted 69 = .ok (.aload_n 0, 1) := by decide +kernel
theorem dX3_counted_70 : decode cX3_counted 70 = .ok (.getfield 25, 3) := by decide +kernel
theorem dX3_counted_73 : decode cX3_counted 73 = .ok (.iload_n 3, 1) := by decide +kernel
theorem dX3_counted_74 : decode cX3_counted 74 = .ok (.iaload, 1) := by decide +kernel
theorem dX3_counted_75 : decode cX3_counted 75 = .ok (.isub, 1) := by decide +kernel
theorem dX3_counted_76 : decode cX3_counted 76 = .ok (.iadd, 1) := by decide +kernel
theorem dX3_counted_77 : decode cX3_counted 77 = .ok (.istore_n 2, 1) := by decide +kernel
theorem dX3_counted_78 : decode cX3_counted 78 = .ok (.iinc 3 1, 3) := by decide +kernel
theorem dX3_counted_81 : decode cX3_counted 81 = .ok (.goto (-22), 3) := by decide +kernel
theorem dX3_counted_84 : decode cX3_counted 84 = .ok (.iload_n 2, 1) := by decide +kernel
theorem dX3_counted_85 : decode cX3_counted 85 = .ok (.ireturn, 1) := by decide +kernel
theorem dX3_counted_86 : decode cX3_counted 86 = .ok (.aload_n 0, 1) := by decide +kernel
theorem dX3_counted_87 : decode cX3_counted 87 = .ok (.invokevirtual 122, 3) := by decide +kernel
theorem dX3_counted_90 : decode cX3_counted 90 = .ok (.ireturn, 1) := by decide +kernel
theorem dX3_counted_91 : decode cX3_counted 91 = .ok (.aload_n 0, 1) := by decide +kernel
theorem dX3_counted_92 : decode cX3_counted 92 = .ok (.getfield 45, 3) := by decide +kernel
theorem dX3_counted_95 : decode cX3_counted 95 = .ok (.getfield 52, 3) := by decide +kernel
theorem dX3_counted_98 : decode cX3_counted 98 = .ok (.astore_n 3, 1) := by decide +kernel
theorem dX3_counted_99 : decode cX3_counted 99 = .ok (.aload_n 3, 1) := by decide +kernel
theorem dX3_counted_100 : decode cX3_counted 100 = .ok (.arraylength, 1) := by decide +kernel
theorem dX3_counted_101 : decode cX3_counted 101 = .ok (.istore 4, 2) := by decide +kernel
theorem dX3_counted_103 : decode cX3_counted 103 = .ok (.iconst 0, 1) := by decide +kernel
theorem dX3_counted_104 : decode cX3_counted 104 = .ok (.istore 5, 2) := by decide +kernel
theorem dX3_counted_106 : decode cX3_counted 106 = .ok (.iload 5, 2) := by decide +kernel
theorem dX3_counted_108 : decode cX3_counted 108 = .ok (.iload 4, 2) := by decide +kernel
theorem dX3_counted_110 : decode cX3_counted 110 = .ok (.if_icmp .ge 29, 3) := by decide +kernel
theorem dX3_counted_113 : decode cX3_counted 113 = .ok (.aload_n 3, 1) := by decide +kernel
theorem dX3_counted_114 : decode cX3_counted 114 = .ok (.iload 5, 2) := by decide +kernel
theorem dX3_counted_116 : decode cX3_counted 116 = .ok (.iaload, 1) := by decide +kernel
theorem dX3_counted_117 : decode cX3_counted 117 = .ok (.istore 6, 2) := by decide +kernel
theorem dX3_counted_119 : decode cX3_counted 119 = .ok (.iload_n 2, 1) := by decide +kernel
theorem dX3_counted_120 : decode cX3_counted 120 = .ok (.iload 6, 2) := by decide +kernel
theorem dX3_counted_122 : decode cX3_counted 122 = .ok (.iconst (-1), 1) := by decide +kernel
theorem dX3_counted_123 : decode cX3_counted 123 = .ok (.if_icmp .ne 7, 3) := by decide +kernel
theorem dX3_counted_126 : decode cX3_counted 126 = .ok (.iconst 0, 1) := by decide +kernel
theorem dX3_counted_127 : decode cX3_counted 127 = .ok (.goto 4, 3) := by decide +kernel
theorem dX3_counted_130 : decode cX3_counted 130 = .ok (.iconst 1, 1) := by decide +kernel
theorem dX3_counted_131 : decode cX3_counted 131 = .ok (.iadd, 1) := by decide +kernel
theorem dX3_counted_132 : decode cX3_counted 132 = .ok (.istore_n 2, 1) := by decide +kernel
theorem dX3_counted_133 : decode cX3_counted 133 = .ok (.iinc 5 1, 3) := by decide +kernel
theorem dX3_counted_136 : decode cX3_counted 136 = .ok (.goto (-30), 3) := by decide +kernel
theorem dX3_counted_139 : decode cX3_counted 139 = .ok (.iload_n 2, 1) := by decide +kernel
theorem dX3_counted_140 : decode cX3_counted 140 = .ok (.ireturn, 1) := by decide +kernel
theorem dX3_counted_141 : decode cX3_counted 141 = .ok (.aload_n 0, 1) := by decide +kernel
theorem dX3_counted_142 : decode cX3_counted 142 = .ok (.getfield 45, 3) := by decide +kernel
theorem dX3_counted_145 : decode cX3_counted 145 = .ok (.invokevirtual 126, 3) := by decide +kernel
theorem dX3_counted_148 : decode cX3_counted 148 = .ok (.ireturn, 1) := by decide +kernel
theorem dX3_counted_149 : decode cX3_counted 149 = .ok (.aload_n 0, 1) := by decide +kernel
theorem dX3_counted_150 : decode cX3_counted 150 = .ok (.invokevirtual 129, 3) := by decide +kernel
theorem dX3_counted_153 : decode cX3_counted 153 = .ok (.ireturn, 1) := by decide +kernel
theorem dX3_counted_154 : decode cX3_counted 154 = .ok (.aload_n 0, 1) := by decide +kernel
theorem dX3_counted_155 : decode cX3_counted 155 = .ok (.invokevirtual 132, 3) := by decide +kernel
theorem dX3_counted_158 : decode cX3_counted 158 = .ok (.ireturn, 1) := by decide +kernel
set_option maxRecDepth 20000 in
theorem ggX3_count_X3_isIn : GoodIn wsX3_count wsX3_isIn := goodIn_r _ [5] (by decide +kernel) (by decide +kernel)
set_option maxRecDepth 20000 in
theorem gX3_count_X3_isIn : GoodIn wsX3_count (va_wsS RX3 59 yX3_isIn wsX3_isIn) := goodIn_app (goodIn_of _ (by decide +kernel)) ggX3_count_X3_isIn
set_option maxRecDepth 20000 in
theorem ggX3_count_X3_counted : GoodIn wsX3_count wsX3_counted := goodIn_r _ [9, 10, 11, 12, 13, 14, 15, 4, 16, 17, 18, 19, 20, 21, 22, 23, 24, 25, 26, 27, 28, 29, 30, 31, 32, 33, 34, 35, 36, 37, 38, 39, 40, 41, 42, 43, 44, 45, 46, 47, 48, 49, 50, 51, 52, 2, 3, 5, 57, 58, 59, 60, 61, 62, 63, 64, 65, 66, 67, 68, 69, 70, 71, 72, 73] (by decide +kernel) (by decide +kernel)
set_option maxRecDepth 20000 in
theorem gX3_count_X3_counted : GoodIn wsX3_count (wsV RX3 135 RX3 yX3_counted wsX3_counted) := goodIn_app (goodIn_of _ (by decide +kernel)) ggX3_count_X3_counted
set_option maxRecDepth 20000 in
theorem ggX3_count_X3_no : GoodIn wsX3_count wsX3_no := goodIn_r _ [56, 1, 57, 58, 59, 60, 61, 62, 63, 64, 65, 66, 67, 68, 69, 70] (by decide +kernel) (by decide +kernel)
set_option maxRecDepth 20000 in
theorem gX3_count_X3_no : GoodIn wsX3_count (wsV RX3 70 RX3 yX3_no wsX3_no) := goodIn_app (goodIn_of _ (by decide +kernel)) ggX3_count_X3_no
theorem dX3_count_0 : decode cX3_count 0 = .ok (.aload_n 0, 1) := by decide +kernel
theorem dX3_count_1 : decode cX3_count 1 = .ok (.iconst 0, 1) := by decide +kernel
theorem dX3_count_2 : decode cX3_count 2 = .ok (.putfield 55, 3) := by decide +kernel
theorem dX3_count_5 : decode cX3_count 5 = .ok (.iload_n 1, 1) := by decide +kernel
theorem dX3_count_6 : decode cX3_count 6 = .ok (.iconst 0, 1) := by decide +kernel
theorem dX3_count_7 : decode cX3_count 7 = .ok (.bipush 7, 2) := by decide +kernel
theorem dX3_count_9 : decode cX3_count 9 = .ok (.invokestatic 59, 3) := by decide +kernel
theorem dX3_count_12 : decode cX3_count 12 = .ok (.ifCond .eq 11, 3) := by decide +kernel
theorem dX3_count_15 : decode cX3_count 15 = .ok (.aload_n 0, 1) := by decide +kernel
theorem dX3_count_16 : decode cX3_count 16 = .ok (.iload_n 1, 1) := by decide +kernel
theorem dX3_count_17 : decode cX3_count 17 = .ok (.invokevirtual 135, 3) := by decide +kernel
theorem dX3_count_20 : decode cX3_count 20 = .ok (.goto 8, 3) := by decide +kernel
theorem dX3_count_23 : decode cX3_count 23 = .ok (.aload_n 0, 1) := by decide +kernel
theorem dX3_count_24 : decode cX3_count 24 = .ok (.iconst 1, 1) := by decide +kernel
theorem dX3_count_25 : decode cX3_count 25 = .ok (.invokevirtual 70, 3) := by decide +kernel
theorem dX3_count_28 : decode cX3_count 28 = .ok (.ireturn, 1) := by decide +kernel
set_option maxRecDepth 20000 in
theorem ggX3_fits_X3_shown : GoodIn wsX3_fits wsX3_shown := goodIn_r _ [5, 6, 7, 8, 9, 10, 11, 12, 13, 14, 15, 16, 17, 18, 19, 20, 21] (by decide +kernel) (by decide +kernel)
set_option maxRecDepth 20000 in
theorem gX3_fits_X3_shown : GoodIn wsX3_fits (wsV RX3 100 RX3 yX3_shown wsX3_shown) := goodIn_app (goodIn_of _ (by decide +kernel)) ggX3_fits_X3_shown
theorem dX3_fits_0 : decode cX3_fits 0 = .ok (.iload_n 1, 1) := by decide +kernel
theorem dX3_fits_1 : decode cX3_fits 1 = .ok (.bipush 10, 2) := by decide +kernel
theorem dX3_fits_3 : decode cX3_fits 3 = .ok (.irem, 1) := by decide +kernel
theorem dX3_fits_4 : decode cX3_fits 4 = .ok (.istore 5, 2) := by decide +kernel
theorem dX3_fits_6 : decode cX3_fits 6 = .ok (.iload_n 1, 1) := by decide +kernel
theorem dX3_fits_7 : decode cX3_fits 7 = .ok (.bipush 10, 2) := by decide +kernel
theorem dX3_fits_9 : decode cX3_fits 9 = .ok (.idiv, 1) := by decide +kernel
theorem dX3_fits_10 : decode cX3_fits 10 = .ok (.istore 6, 2) := by decide +kernel
theorem dX3_fits_12 : decode cX3_fits 12 = .ok (.iload_n 2, 1) := by decide +kernel
theorem dX3_fits_13 : decode cX3_fits 13 = .ok (.iconst 3, 1) := by decide +kernel
theorem dX3_fits_14 : decode cX3_fits 14 = .ok (.if_icmp .ne 32, 3) := by decide +kernel
theorem dX3_fits_17 : decode cX3_fits 17 = .ok (.aload_n 0, 1) := by decide +kernel
theorem dX3_fits_18 : decode cX3_fits 18 = .ok (.iload_n 1, 1) := by decide +kernel
theorem dX3_fits_19 : decode cX3_fits 19 = .ok (.invokevirtual 100, 3) := by decide +kernel
theorem dX3_fits_22 : decode cX3_fits 22 = .ok (.aload_n 0, 1) := by decide +kernel
theorem dX3_fits_23 : decode cX3_fits 23 = .ok (.iload_n 1, 1) := by decide +kernel
theorem dX3_fits_24 : decode cX3_fits 24 = .ok (.bipush 10, 2) := by decide +kernel
theorem dX3_fits_26 : decode cX3_fits 26 = .ok (.iadd, 1) := by decide +kernel
theorem dX3_fits_27 : decode cX3_fits 27 = .ok (.iconst 1, 1) := by decide +kernel
theorem dX3_fits_28 : decode cX3_fits 28 = .ok (.isub, 1) := by decide +kernel
theorem dX3_fits_29 : decode cX3_fits 29 = .ok (.iconst 2, 1) := by decide +kernel
theorem dX3_fits_30 : decode cX3_fits 30 = .ok (.iload 5, 2) := by decide +kernel
theorem dX3_fits_32 : decode cX3_fits 32 = .ok (.imul, 1) := by decide +kernel
theorem dX3_fits_33 : decode cX3_fits 33 = .ok (.isub, 1) := by decide +kernel
theorem dX3_fits_34 : decode cX3_fits 34 = .ok (.invokevirtual 100, 3) := by decide +kernel
theorem dX3_fits_37 : decode cX3_fits 37 = .ok (.if_icmp .ne 7, 3) := by decide +kernel
theorem dX3_fits_40 : decode cX3_fits 40 = .ok (.iconst 1, 1) := by decide +kernel
theorem dX3_fits_41 : decode cX3_fits 41 = .ok (.goto 4, 3) := by decide +kernel
theorem dX3_fits_44 : decode cX3_fits 44 = .ok (.iconst 0, 1) := by decide +kernel
theorem dX3_fits_45 : decode cX3_fits 45 = .ok (.ireturn, 1) := by decide +kernel
theorem dX3_fits_46 : decode cX3_fits 46 = .ok (.iload_n 2, 1) := by decide +kernel
theorem dX3_fits_47 : decode cX3_fits 47 = .ok (.ifCond .eq 28, 3) := by decide +kernel
theorem dX3_fits_50 : decode cX3_fits 50 = .ok (.iload_n 2, 1) := by decide +kernel
theorem dX3_fits_51 : decode cX3_fits 51 = .ok (.iconst 1, 1) := by decide +kernel
theorem dX3_fits_52 : decode cX3_fits 52 = .ok (.if_icmp .ne 13, 3) := by decide +kernel
theorem dX3_fits_55 : decode cX3_fits 55 = .ok (.iload 6, 2) := by decide +kernel
theorem dX3_fits_57 : decode cX3_fits 57 = .ok (.iconst 2, 1) := by decide +kernel
theorem dX3_fits_58 : decode cX3_fits 58 = .ok (.irem, 1) := by decide +kernel
theorem dX3_fits_59 : decode cX3_fits 59 = .ok (.ifCond .ne 20, 3) := by decide +kernel
theorem dX3_fits_62 : decode cX3_fits 62 = .ok (.goto 13, 3) := by decide +kernel
theorem dX3_fits_65 : decode cX3_fits 65 = .ok (.iload 5, 2) := by decide +kernel
theorem dX3_fits_67 : decode cX3_fits 67 = .ok (.iload 6, 2) := by decide +kernel
theorem dX3_fits_69 : decode cX3_fits 69 = .ok (.iadd, 1) := by decide +kernel
theorem dX3_fits_70 : decode cX3_fits 70 = .ok (.iconst 2, 1) := by decide +kernel
theorem dX3_fits_71 : decode cX3_fits 71 = .ok (.irem, 1) := by decide +kernel
theorem dX3_fits_72 : decode cX3_fits 72 = .ok (.ifCond .ne 7, 3) := by decide +kernel
theorem dX3_fits_75 : decode cX3_fits 75 = .ok (.iconst 1, 1) := by decide +kernel
theorem dX3_fits_76 : decode cX3_fits 76 = .ok (.goto 4, 3) := by decide +kernel
theorem dX3_fits_79 : decode cX3_fits 79 = .ok (.iconst 0, 1) := by decide +kernel
theorem dX3_fits_80 : decode cX3_fits 80 = .ok (.istore 7, 2) := by decide +kernel
theorem dX3_fits_82 : decode cX3_fits 82 = .ok (.aload_n 0, 1) := by decide +kernel
theorem dX3_fits_83 : decode cX3_fits 83 = .ok (.iload_n 1, 1) := by decide +kernel
theorem dX3_fits_84 : decode cX3_fits 84 = .ok (.invokevirtual 100, 3) := by decide +kernel
theorem dX3_fits_87 : decode cX3_fits 87 = .ok (.iload 7, 2) := by decide +kernel
theorem dX3_fits_89 : decode cX3_fits 89 = .ok (.ifCond .eq 7, 3) := by decide +kernel
theorem dX3_fits_92 : decode cX3_fits 92 = .ok (.iload_n 3, 1) := by decide +kernel
theorem dX3_fits_93 : decode cX3_fits 93 = .ok (.goto 5, 3) := by decide +kernel
theorem dX3_fits_96 : decode cX3_fits 96 = .ok (.iload 4, 2) := by decide +kernel
theorem dX3_fits_98 : decode cX3_fits 98 = .ok (.if_icmp .ne 7, 3) := by decide +kernel
theorem dX3_fits_101 : decode cX3_fits 101 = .ok (.iconst 1, 1) := by decide +kernel
theorem dX3_fits_102 : decode cX3_fits 102 = .ok (.goto 4, 3) := by decide +kernel
theorem dX3_fits_105 : decode cX3_fits 105 = .ok (.iconst 0, 1) := by decide +kernel
theorem dX3_fits_106 : decode cX3_fits 106 = .ok (.ireturn, 1) := by decide +kernel
set_option maxRecDepth 20000 in
theorem ggX3_offBy_X3_fits : GoodIn wsX3_offBy wsX3_fits := goodIn_r _ [5, 6, 7, 8, 4, 9, 10, 11, 12, 13, 14, 15, 16, 17, 18, 19, 20, 21, 22, 23, 24, 25] (by decide +kernel) (by decide +kernel)
set_option maxRecDepth 20000 in
theorem gX3_offBy_X3_fits : GoodIn wsX3_offBy (wsV RX3 138 RX3 yX3_fits wsX3_fits) := goodIn_app (goodIn_of _ (by decide +kernel)) ggX3_offBy_X3_fits
theorem dX3_offBy_0 : decode cX3_offBy 0 = .ok (.iconst 0, 1) := by decide +kernel
theorem dX3_offBy_1 : decode cX3_offBy 1 = .ok (.istore 4, 2) := by decide +kernel
theorem dX3_offBy_3 : decode cX3_offBy 3 = .ok (.iconst 0, 1) := by decide +kernel
theorem dX3_offBy_4 : decode cX3_offBy 4 = .ok (.istore 5, 2) := by decide +kernel
theorem dX3_offBy_6 : decode cX3_offBy 6 = .ok (.iload 5, 2) := by decide +kernel
theorem dX3_offBy_8 : decode cX3_offBy 8 = .ok (.bipush 80, 2) := by decide +kernel
theorem dX3_offBy_10 : decode cX3_offBy 10 = .ok (.if_icmp .ge 31, 3) := by decide +kernel
theorem dX3_offBy_13 : decode cX3_offBy 13 = .ok (.iload 4, 2) := by decide +kernel
theorem dX3_offBy_15 : decode cX3_offBy 15 = .ok (.aload_n 0, 1) := by decide +kernel
theorem dX3_offBy_16 : decode cX3_offBy 16 = .ok (.iload 5, 2) := by decide +kernel
theorem dX3_offBy_18 : decode cX3_offBy 18 = .ok (.iload_n 1, 1) := by decide +kernel
theorem dX3_offBy_19 : decode cX3_offBy 19 = .ok (.iload_n 2, 1) := by decide +kernel
theorem dX3_offBy_20 : decode cX3_offBy 20 = .ok (.iload_n 3, 1) := by decide +kernel
theorem dX3_offBy_21 : decode cX3_offBy 21 = .ok (.invokevirtual 138, 3) := by decide +kernel
theorem dX3_offBy_24 : decode cX3_offBy 24 = .ok (.ifCond .eq 7, 3) := by decide +kernel
theorem dX3_offBy_27 : decode cX3_offBy 27 = .ok (.iconst 0, 1) := by decide +kernel
theorem dX3_offBy_28 : decode cX3_offBy 28 = .ok (.goto 4, 3) := by decide +kernel
theorem dX3_offBy_31 : decode cX3_offBy 31 = .ok (.iconst 1, 1) := by decide +kernel
theorem dX3_offBy_32 : decode cX3_offBy 32 = .ok (.iadd, 1) := by decide +kernel
theorem dX3_offBy_33 : decode cX3_offBy 33 = .ok (.istore 4, 2) := by decide +kernel
theorem dX3_offBy_35 : decode cX3_offBy 35 = .ok (.iinc 5 1, 3) := by decide +kernel
theorem dX3_offBy_38 : decode cX3_offBy 38 = .ok (.goto (-32), 3) := by decide +kernel
theorem dX3_offBy_41 : decode cX3_offBy 41 = .ok (.iload 4, 2) := by decide +kernel
theorem dX3_offBy_43 : decode cX3_offBy 43 = .ok (.ireturn, 1) := by decide +kernel
set_option maxRecDepth 20000 in
theorem ggX3_isPattern_X3_isIn : GoodIn wsX3_isPattern wsX3_isIn := goodIn_r _ [4] (by decide +kernel) (by decide +kernel)
set_option maxRecDepth 20000 in
theorem gX3_isPattern_X3_isIn : GoodIn wsX3_isPattern (va_wsS RX3 59 yX3_isIn wsX3_isIn) := goodIn_app (goodIn_of _ (by decide +kernel)) ggX3_isPattern_X3_isIn
set_option maxRecDepth 20000 in
theorem ggX3_isPattern_X3_isColour : GoodIn wsX3_isPattern wsX3_isColour := goodIn_r _ [7, 1, 2, 3, 4] (by decide +kernel) (by decide +kernel)
set_option maxRecDepth 20000 in
theorem gX3_isPattern_X3_isColour : GoodIn wsX3_isPattern (va_wsS RX3 74 yX3_isColour wsX3_isColour) := goodIn_app (goodIn_of _ (by decide +kernel)) ggX3_isPattern_X3_isColour
theorem dX3_isPattern_0 : decode cX3_isPattern 0 = .ok (.iload_n 0, 1) := by decide +kernel
theorem dX3_isPattern_1 : decode cX3_isPattern 1 = .ok (.iconst 0, 1) := by decide +kernel
theorem dX3_isPattern_2 : decode cX3_isPattern 2 = .ok (.iconst 3, 1) := by decide +kernel
theorem dX3_isPattern_3 : decode cX3_isPattern 3 = .ok (.invokestatic 59, 3) := by decide +kernel
theorem dX3_isPattern_6 : decode cX3_isPattern 6 = .ok (.ifCond .eq 21, 3) := by decide +kernel
theorem dX3_isPattern_9 : decode cX3_isPattern 9 = .ok (.iload_n 1, 1) := by decide +kernel
theorem dX3_isPattern_10 : decode cX3_isPattern 10 = .ok (.invokestatic 74, 3) := by decide +kernel
theorem dX3_isPattern_13 : decode cX3_isPattern 13 = .ok (.ifCond .eq 14, 3) := by decide +kernel
theorem dX3_isPattern_16 : decode cX3_isPattern 16 = .ok (.iload_n 2, 1) := by decide +kernel
theorem dX3_isPattern_17 : decode cX3_isPattern 17 = .ok (.invokestatic 74, 3) := by decide +kernel
theorem dX3_isPattern_20 : decode cX3_isPattern 20 = .ok (.ifCond .eq 7, 3) := by decide +kernel
theorem dX3_isPattern_23 : decode cX3_isPattern 23 = .ok (.iconst 1, 1) := by decide +kernel
theorem dX3_isPattern_24 : decode cX3_isPattern 24 = .ok (.goto 4, 3) := by decide +kernel
theorem dX3_isPattern_27 : decode cX3_isPattern 27 = .ok (.iconst 0, 1) := by decide +kernel
theorem dX3_isPattern_28 : decode cX3_isPattern 28 = .ok (.ireturn, 1) := by decide +kernel
set_option maxRecDepth 20000 in
theorem ggX3_off_X3_isPattern : GoodIn wsX3_off wsX3_isPattern := goodIn_r _ [5, 6, 7, 4, 8, 9, 10, 11] (by decide +kernel) (by decide +kernel)
set_option maxRecDepth 20000 in
theorem gX3_off_X3_isPattern : GoodIn wsX3_off (va_wsS RX3 142 yX3_isPattern wsX3_isPattern) := goodIn_app (goodIn_of _ (by decide +kernel)) ggX3_off_X3_isPattern
set_option maxRecDepth 20000 in
theorem ggX3_off_X3_offBy : GoodIn wsX3_off wsX3_offBy := goodIn_r _ [15, 16, 17, 18, 4, 19, 20, 21, 22, 23, 24, 25, 30, 31, 32, 33, 34, 35, 36, 37, 38, 39, 40, 41, 42, 43] (by decide +kernel) (by decide +kernel)
set_option maxRecDepth 20000 in
theorem gX3_off_X3_offBy : GoodIn wsX3_off (wsV RX3 145 RX3 yX3_offBy wsX3_offBy) := goodIn_app (goodIn_of _ (by decide +kernel)) ggX3_off_X3_offBy
set_option maxRecDepth 20000 in
theorem ggX3_off_X3_no : GoodIn wsX3_off wsX3_no := goodIn_r _ [29, 1, 30, 31, 32, 33, 34, 35, 36, 37, 38, 39, 40, 41, 42, 43] (by decide +kernel) (by decide +kernel)
set_option maxRecDepth 20000 in
theorem gX3_off_X3_no : GoodIn wsX3_off (wsV RX3 70 RX3 yX3_no wsX3_no) := goodIn_app (goodIn_of _ (by decide +kernel)) ggX3_off_X3_no
theorem dX3_off_0 : decode cX3_off 0 = .ok (.aload_n 0, 1) := by decide +kernel
theorem dX3_off_1 : decode cX3_off 1 = .ok (.iconst 0, 1) := by decide +kernel
theorem dX3_off_2 : decode cX3_off 2 = .ok (.putfield 55, 3) := by decide +kernel
theorem dX3_off_5 : decode cX3_off 5 = .ok (.iload_n 1, 1) := by decide +kernel
theorem dX3_off_6 : decode cX3_off 6 = .ok (.iload_n 2, 1) := by decide +kernel
theorem dX3_off_7 : decode cX3_off 7 = .ok (.iload_n 3, 1) := by decide +kernel
theorem dX3_off_8 : decode cX3_off 8 = .ok (.invokestatic 142, 3) := by decide +kernel
theorem dX3_off_11 : decode cX3_off 11 = .ok (.ifCond .eq 13, 3) := by decide +kernel
theorem dX3_off_14 : decode cX3_off 14 = .ok (.aload_n 0, 1) := by decide +kernel
theorem dX3_off_15 : decode cX3_off 15 = .ok (.iload_n 1, 1) := by decide +kernel
theorem dX3_off_16 : decode cX3_off 16 = .ok (.iload_n 2, 1) := by decide +kernel
theorem dX3_off_17 : decode cX3_off 17 = .ok (.iload_n 3, 1) := by decide +kernel
theorem dX3_off_18 : decode cX3_off 18 = .ok (.invokevirtual 145, 3) := by decide +kernel
theorem dX3_off_21 : decode cX3_off 21 = .ok (.goto 8, 3) := by decide +kernel
theorem dX3_off_24 : decode cX3_off 24 = .ok (.aload_n 0, 1) := by decide +kernel
theorem dX3_off_25 : decode cX3_off 25 = .ok (.iconst 1, 1) := by decide +kernel
theorem dX3_off_26 : decode cX3_off 26 = .ok (.invokevirtual 70, 3) := by decide +kernel
theorem dX3_off_29 : decode cX3_off 29 = .ok (.ireturn, 1) := by decide +kernel
set_option maxRecDepth 20000 in
theorem ggX3_advise_X3_isPattern : GoodIn wsX3_advise wsX3_isPattern := goodIn_r _ [7, 8, 9, 6, 10, 11, 12, 13] (by decide +kernel) (by decide +kernel)
set_option maxRecDepth 20000 in
theorem gX3_advise_X3_isPattern : GoodIn wsX3_advise (va_wsS RX3 142 yX3_isPattern wsX3_isPattern) := goodIn_app (goodIn_of _ (by decide +kernel)) ggX3_advise_X3_isPattern
set_option maxRecDepth 20000 in
theorem ggX3_advise_X3_no : GoodIn wsX3_advise wsX3_no := goodIn_r _ [17, 1, 44, 45, 46, 47, 48, 49, 50, 51, 52, 53, 54, 55, 56, 57] (by decide +kernel) (by decide +kernel)
set_option maxRecDepth 20000 in
theorem gX3_advise_X3_no : GoodIn wsX3_advise (wsV RX3 70 RX3 yX3_no wsX3_no) := goodIn_app (goodIn_of _ (by decide +kernel)) ggX3_advise_X3_no
set_option maxRecDepth 20000 in
theorem ggX3_advise_X3_offBy : GoodIn wsX3_advise wsX3_offBy := goodIn_r _ [21, 22, 23, 24, 6, 25, 26, 27, 28, 29, 30, 31, 44, 45, 46, 47, 48, 49, 50, 51, 52, 53, 54, 55, 56, 57] (by decide +kernel) (by decide +kernel)
set_option maxRecDepth 20000 in
theorem gX3_advise_X3_offBy : GoodIn wsX3_advise (wsV RX3 145 RX3 yX3_offBy wsX3_offBy) := goodIn_app (goodIn_of _ (by decide +kernel)) ggX3_advise_X3_offBy
set_option maxRecDepth 20000 in
theorem ggX3_advise_X2_isLoose : GoodIn wsX3_advise wsX2_isLoose := goodIn_r _ [36, 37, 38, 58, 59, 60, 44, 45, 46, 47, 48, 49, 50, 51, 52, 53, 54, 55, 56, 57] (by decide +kernel) (by decide +kernel)
set_option maxRecDepth 20000 in
theorem gX3_advise_X2_isLoose : GoodIn wsX3_advise (wsV RX3 89 RX2 yX2_isLoose wsX2_isLoose) := goodIn_app (goodIn_of _ (by decide +kernel)) ggX3_advise_X2_isLoose
set_option maxRecDepth 20000 in
theorem ggX3_advise_X3_swap : GoodIn wsX3_advise wsX3_swap := goodIn_r _ [42, 31, 43, 44, 45, 46, 47, 48, 49, 50, 51, 52, 53, 54, 55, 56, 57] (by decide +kernel) (by decide +kernel)
set_option maxRecDepth 20000 in
theorem gX3_advise_X3_swap : GoodIn wsX3_advise (wsV RX3 92 RX3 yX3_swap wsX3_swap) := goodIn_app (goodIn_of _ (by decide +kernel)) ggX3_advise_X3_swap
theorem dX3_advise_0 : decode cX3_advise 0 = .ok (.aload_n 0, 1) := by decide +kernel
theorem dX3_advise_1 : decode cX3_advise 1 = .ok (.iconst 0, 1) := by decide +kernel
theorem dX3_advise_2 : decode cX3_advise 2 = .ok (.putfield 55, 3) := by decide +kernel
theorem dX3_advise_5 : decode cX3_advise 5 = .ok (.iload_n 1, 1) := by decide +kernel
theorem dX3_advise_6 : decode cX3_advise 6 = .ok (.iload_n 2, 1) := by decide +kernel
theorem dX3_advise_7 : decode cX3_advise 7 = .ok (.iload_n 3, 1) := by decide +kernel
theorem dX3_advise_8 : decode cX3_advise 8 = .ok (.invokestatic 142, 3) := by decide +kernel
theorem dX3_advise_11 : decode cX3_advise 11 = .ok (.ifCond .ne 9, 3) := by decide +kernel
theorem dX3_advise_14 : decode cX3_advise 14 = .ok (.aload_n 0, 1) := by decide +kernel
theorem dX3_advise_15 : decode cX3_advise 15 = .ok (.iconst 1, 1) := by decide +kernel
theorem dX3_advise_16 : decode cX3_advise 16 = .ok (.invokevirtual 70, 3) := by decide +kernel
theorem dX3_advise_19 : decode cX3_advise 19 = .ok (.ireturn, 1) := by decide +kernel
theorem dX3_advise_20 : decode cX3_advise 20 = .ok (.aload_n 0, 1) := by decide +kernel
theorem dX3_advise_21 : decode cX3_advise 21 = .ok (.iload_n 1, 1) := by decide +kernel
theorem dX3_advise_22 : decode cX3_advise 22 = .ok (.iload_n 2, 1) := by decide +kernel
theorem dX3_advise_23 : decode cX3_advise 23 = .ok (.iload_n 3, 1) := by decide +kernel
theorem dX3_advise_24 : decode cX3_advise 24 = .ok (.invokevirtual 145, 3) := by decide +kernel
theorem dX3_advise_27 : decode cX3_advise 27 = .ok (.istore 4, 2) := by decide +kernel
theorem dX3_advise_29 : decode cX3_advise 29 = .ok (.iconst (-1), 1) := by decide +kernel
theorem dX3_advise_30 : decode cX3_advise 30 = .ok (.istore 5, 2) := by decide +kernel
theorem dX3_advise_32 : decode cX3_advise 32 = .ok (.iconst 0, 1) := by decide +kernel
theorem dX3_advise_33 : decode cX3_advise 33 = .ok (.istore 6, 2) := by decide +kernel
theorem dX3_advise_35 : decode cX3_advise 35 = .ok (.iload 6, 2) := by decide +kernel
theorem dX3_advise_37 : decode cX3_advise 37 = .ok (.aload_n 0, 1) := by decide +kernel
theorem dX3_advise_38 : decode cX3_advise 38 = .ok (.getfield 63, 3) := by decide +kernel
theorem dX3_advise_41 : decode cX3_advise 41 = .ok (.if_icmp .ge 63, 3) := by decide +kernel
theorem dX3_advise_44 : decode cX3_advise 44 = .ok (.aload_n 0, 1) := by decide +kernel
theorem dX3_advise_45 : decode cX3_advise 45 = .ok (.getfield 45, 3) := by decide +kernel
theorem dX3_advise_48 : decode cX3_advise 48 = .ok (.iload 6, 2) := by decide +kernel
theorem dX3_advise_50 : decode cX3_advise 50 = .ok (.invokevirtual 89, 3) := by decide +kernel
theorem dX3_advise_53 : decode cX3_advise 53 = .ok (.ifCond .ne 6, 3) := by decide +kernel
theorem dX3_advise_56 : decode cX3_advise 56 = .ok (.goto 42, 3) := by decide +kernel
theorem dX3_advise_59 : decode cX3_advise 59 = .ok (.aload_n 0, 1) := by decide +kernel
theorem dX3_advise_60 : decode cX3_advise 60 = .ok (.iload 6, 2) := by decide +kernel
theorem dX3_advise_62 : decode cX3_advise 62 = .ok (.invokevirtual 92, 3) := by decide +kernel
theorem dX3_advise_65 : decode cX3_advise 65 = .ok (.aload_n 0, 1) := by decide +kernel
theorem dX3_advise_66 : decode cX3_advise 66 = .ok (.iload_n 1, 1) := by decide +kernel
theorem dX3_advise_67 : decode cX3_advise 67 = .ok (.iload_n 2, 1) := by decide +kernel
theorem dX3_advise_68 : decode cX3_advise 68 = .ok (.iload_n 3, 1) := by decide +kernel
end
section
theorem dX3_advise_69 : decode cX3_advise 69 = .ok (.invokevirtual 145, 3) := by decide +kernel
theorem dX3_advise_72 : decode cX3_advise 72 = .ok (.istore 7, 2) := by decide +kernel
theorem dX3_advise_74 : decode cX3_advise 74 = .ok (.aload_n 0, 1) := by decide +kernel
theorem dX3_advise_75 : decode cX3_advise 75 = .ok (.iload 6, 2) := by decide +kernel
theorem dX3_advise_77 : decode cX3_advise 77 = .ok (.invokevirtual 92, 3) := by decide +kernel
theorem dX3_advise_80 : decode cX3_advise 80 = .ok (.iload 7, 2) := by decide +kernel
theorem dX3_advise_82 : decode cX3_advise 82 = .ok (.iload 4, 2) := by decide +kernel
theorem dX3_advise_84 : decode cX3_advise 84 = .ok (.if_icmp .lt 6, 3) := by decide +kernel
theorem dX3_advise_87 : decode cX3_advise 87 = .ok (.goto 11, 3) := by decide +kernel
theorem dX3_advise_90 : decode cX3_advise 90 = .ok (.iload 7, 2) := by decide +kernel
theorem dX3_advise_92 : decode cX3_advise 92 = .ok (.istore 4, 2) := by decide +kernel
theorem dX3_advise_94 : decode cX3_advise 94 = .ok (.iload 6, 2) := by decide +kernel
theorem dX3_advise_96 : decode cX3_advise 96 = .ok (.istore 5, 2) := by decide +kernel
theorem dX3_advise_98 : decode cX3_advise 98 = .ok (.iinc 6 1, 3) := by decide +kernel
theorem dX3_advise_101 : decode cX3_advise 101 = .ok (.goto (-66), 3) := by decide +kernel
theorem dX3_advise_104 : decode cX3_advise 104 = .ok (.iload 5, 2) := by decide +kernel
theorem dX3_advise_106 : decode cX3_advise 106 = .ok (.ireturn, 1) := by decide +kernel
set_option maxRecDepth 20000 in
theorem ggX3_mends_X3_isCell : GoodIn wsX3_mends wsX3_isCell := goodIn_r _ [7, 8, 9, 6, 10] (by decide +kernel) (by decide +kernel)
set_option maxRecDepth 20000 in
theorem gX3_mends_X3_isCell : GoodIn wsX3_mends (va_wsS RX3 66 yX3_isCell wsX3_isCell) := goodIn_app (goodIn_of _ (by decide +kernel)) ggX3_mends_X3_isCell
set_option maxRecDepth 20000 in
theorem ggX3_mends_X3_no : GoodIn wsX3_mends wsX3_no := goodIn_r _ [14, 1, 27, 28, 29, 30, 31, 32, 33, 34, 35, 36, 37, 38, 39, 40] (by decide +kernel) (by decide +kernel)
set_option maxRecDepth 20000 in
theorem gX3_mends_X3_no : GoodIn wsX3_mends (wsV RX3 70 RX3 yX3_no wsX3_no) := goodIn_app (goodIn_of _ (by decide +kernel)) ggX3_mends_X3_no
set_option maxRecDepth 20000 in
theorem ggX3_mends_X3_clear : GoodIn wsX3_mends wsX3_clear := goodIn_r _ [18, 3, 27, 28, 29, 30, 31, 32, 33, 34, 35, 36, 37, 38, 39, 40] (by decide +kernel) (by decide +kernel)
set_option maxRecDepth 20000 in
theorem gX3_mends_X3_clear : GoodIn wsX3_mends (wsV RX3 113 RX3 yX3_clear wsX3_clear) := goodIn_app (goodIn_of _ (by decide +kernel)) ggX3_mends_X3_clear
set_option maxRecDepth 20000 in
theorem ggX3_mends_X3_fill : GoodIn wsX3_mends wsX3_fill := goodIn_r _ [22, 3, 23, 2, 24, 25, 6, 26, 4, 5, 7, 8, 9, 10, 27, 28, 29, 30, 31, 32, 33, 34, 35, 36, 37, 38, 39, 40] (by decide +kernel) (by decide +kernel)
set_option maxRecDepth 20000 in
theorem gX3_mends_X3_fill : GoodIn wsX3_mends (wsV RX3 116 RX3 yX3_fill wsX3_fill) := goodIn_app (goodIn_of _ (by decide +kernel)) ggX3_mends_X3_fill
theorem dX3_mends_0 : decode cX3_mends 0 = .ok (.aload_n 0, 1) := by decide +kernel
theorem dX3_mends_1 : decode cX3_mends 1 = .ok (.iconst 0, 1) := by decide +kernel
theorem dX3_mends_2 : decode cX3_mends 2 = .ok (.putfield 55, 3) := by decide +kernel
theorem dX3_mends_5 : decode cX3_mends 5 = .ok (.iload_n 1, 1) := by decide +kernel
theorem dX3_mends_6 : decode cX3_mends 6 = .ok (.iload_n 2, 1) := by decide +kernel
theorem dX3_mends_7 : decode cX3_mends 7 = .ok (.invokestatic 66, 3) := by decide +kernel
theorem dX3_mends_10 : decode cX3_mends 10 = .ok (.ifCond .ne 9, 3) := by decide +kernel
theorem dX3_mends_13 : decode cX3_mends 13 = .ok (.aload_n 0, 1) := by decide +kernel
theorem dX3_mends_14 : decode cX3_mends 14 = .ok (.iconst 1, 1) := by decide +kernel
theorem dX3_mends_15 : decode cX3_mends 15 = .ok (.invokevirtual 70, 3) := by decide +kernel
theorem dX3_mends_18 : decode cX3_mends 18 = .ok (.ireturn, 1) := by decide +kernel
theorem dX3_mends_19 : decode cX3_mends 19 = .ok (.aload_n 0, 1) := by decide +kernel
theorem dX3_mends_20 : decode cX3_mends 20 = .ok (.getfield 28, 3) := by decide +kernel
theorem dX3_mends_23 : decode cX3_mends 23 = .ok (.bipush 10, 2) := by decide +kernel
theorem dX3_mends_25 : decode cX3_mends 25 = .ok (.iload_n 2, 1) := by decide +kernel
theorem dX3_mends_26 : decode cX3_mends 26 = .ok (.imul, 1) := by decide +kernel
theorem dX3_mends_27 : decode cX3_mends 27 = .ok (.iload_n 1, 1) := by decide +kernel
theorem dX3_mends_28 : decode cX3_mends 28 = .ok (.iadd, 1) := by decide +kernel
theorem dX3_mends_29 : decode cX3_mends 29 = .ok (.iaload, 1) := by decide +kernel
theorem dX3_mends_30 : decode cX3_mends 30 = .ok (.iconst (-1), 1) := by decide +kernel
theorem dX3_mends_31 : decode cX3_mends 31 = .ok (.if_icmp .eq 5, 3) := by decide +kernel
theorem dX3_mends_34 : decode cX3_mends 34 = .ok (.iconst 0, 1) := by decide +kernel
theorem dX3_mends_35 : decode cX3_mends 35 = .ok (.ireturn, 1) := by decide +kernel
theorem dX3_mends_36 : decode cX3_mends 36 = .ok (.aload_n 0, 1) := by decide +kernel
theorem dX3_mends_37 : decode cX3_mends 37 = .ok (.invokevirtual 113, 3) := by decide +kernel
theorem dX3_mends_40 : decode cX3_mends 40 = .ok (.aload_n 0, 1) := by decide +kernel
theorem dX3_mends_41 : decode cX3_mends 41 = .ok (.bipush 10, 2) := by decide +kernel
theorem dX3_mends_43 : decode cX3_mends 43 = .ok (.iload_n 2, 1) := by decide +kernel
theorem dX3_mends_44 : decode cX3_mends 44 = .ok (.imul, 1) := by decide +kernel
theorem dX3_mends_45 : decode cX3_mends 45 = .ok (.iload_n 1, 1) := by decide +kernel
theorem dX3_mends_46 : decode cX3_mends 46 = .ok (.iadd, 1) := by decide +kernel
theorem dX3_mends_47 : decode cX3_mends 47 = .ok (.invokevirtual 116, 3) := by decide +kernel
theorem dX3_mends_50 : decode cX3_mends 50 = .ok (.pop, 1) := by decide +kernel
theorem dX3_mends_51 : decode cX3_mends 51 = .ok (.iconst 0, 1) := by decide +kernel
theorem dX3_mends_52 : decode cX3_mends 52 = .ok (.istore 4, 2) := by decide +kernel
theorem dX3_mends_54 : decode cX3_mends 54 = .ok (.iload_n 3, 1) := by decide +kernel
theorem dX3_mends_55 : decode cX3_mends 55 = .ok (.ifCond .eq 8, 3) := by decide +kernel
theorem dX3_mends_58 : decode cX3_mends 58 = .ok (.bipush 8, 2) := by decide +kernel
theorem dX3_mends_60 : decode cX3_mends 60 = .ok (.goto 5, 3) := by decide +kernel
theorem dX3_mends_63 : decode cX3_mends 63 = .ok (.bipush 10, 2) := by decide +kernel
theorem dX3_mends_65 : decode cX3_mends 65 = .ok (.istore 5, 2) := by decide +kernel
theorem dX3_mends_67 : decode cX3_mends 67 = .ok (.bipush 80, 2) := by decide +kernel
theorem dX3_mends_69 : decode cX3_mends 69 = .ok (.iload 5, 2) := by decide +kernel
theorem dX3_mends_71 : decode cX3_mends 71 = .ok (.idiv, 1) := by decide +kernel
theorem dX3_mends_72 : decode cX3_mends 72 = .ok (.istore 6, 2) := by decide +kernel
theorem dX3_mends_74 : decode cX3_mends 74 = .ok (.iconst 0, 1) := by decide +kernel
theorem dX3_mends_75 : decode cX3_mends 75 = .ok (.istore 7, 2) := by decide +kernel
theorem dX3_mends_77 : decode cX3_mends 77 = .ok (.iload 7, 2) := by decide +kernel
theorem dX3_mends_79 : decode cX3_mends 79 = .ok (.iload 5, 2) := by decide +kernel
theorem dX3_mends_81 : decode cX3_mends 81 = .ok (.if_icmp .ge 85, 3) := by decide +kernel
theorem dX3_mends_84 : decode cX3_mends 84 = .ok (.iconst 0, 1) := by decide +kernel
theorem dX3_mends_85 : decode cX3_mends 85 = .ok (.istore 8, 2) := by decide +kernel
theorem dX3_mends_87 : decode cX3_mends 87 = .ok (.iconst 0, 1) := by decide +kernel
theorem dX3_mends_88 : decode cX3_mends 88 = .ok (.istore 9, 2) := by decide +kernel
theorem dX3_mends_90 : decode cX3_mends 90 = .ok (.iload 9, 2) := by decide +kernel
theorem dX3_mends_92 : decode cX3_mends 92 = .ok (.iload 6, 2) := by decide +kernel
theorem dX3_mends_94 : decode cX3_mends 94 = .ok (.if_icmp .ge 66, 3) := by decide +kernel
theorem dX3_mends_97 : decode cX3_mends 97 = .ok (.iload_n 3, 1) := by decide +kernel
theorem dX3_mends_98 : decode cX3_mends 98 = .ok (.ifCond .eq 14, 3) := by decide +kernel
theorem dX3_mends_101 : decode cX3_mends 101 = .ok (.bipush 10, 2) := by decide +kernel
theorem dX3_mends_103 : decode cX3_mends 103 = .ok (.iload 7, 2) := by decide +kernel
theorem dX3_mends_105 : decode cX3_mends 105 = .ok (.imul, 1) := by decide +kernel
theorem dX3_mends_106 : decode cX3_mends 106 = .ok (.iload 9, 2) := by decide +kernel
theorem dX3_mends_108 : decode cX3_mends 108 = .ok (.iadd, 1) := by decide +kernel
theorem dX3_mends_109 : decode cX3_mends 109 = .ok (.goto 11, 3) := by decide +kernel
theorem dX3_mends_112 : decode cX3_mends 112 = .ok (.bipush 10, 2) := by decide +kernel
theorem dX3_mends_114 : decode cX3_mends 114 = .ok (.iload 9, 2) := by decide +kernel
theorem dX3_mends_116 : decode cX3_mends 116 = .ok (.imul, 1) := by decide +kernel
theorem dX3_mends_117 : decode cX3_mends 117 = .ok (.iload 7, 2) := by decide +kernel
theorem dX3_mends_119 : decode cX3_mends 119 = .ok (.iadd, 1) := by decide +kernel
theorem dX3_mends_120 : decode cX3_mends 120 = .ok (.istore 10, 2) := by decide +kernel
theorem dX3_mends_122 : decode cX3_mends 122 = .ok (.aload_n 0, 1) := by decide +kernel
theorem dX3_mends_123 : decode cX3_mends 123 = .ok (.getfield 37, 3) := by decide +kernel
theorem dX3_mends_126 : decode cX3_mends 126 = .ok (.iload 10, 2) := by decide +kernel
theorem dX3_mends_128 : decode cX3_mends 128 = .ok (.iaload, 1) := by decide +kernel
theorem dX3_mends_129 : decode cX3_mends 129 = .ok (.iconst 1, 1) := by decide +kernel
theorem dX3_mends_130 : decode cX3_mends 130 = .ok (.if_icmp .ne 10, 3) := by decide +kernel
theorem dX3_mends_133 : decode cX3_mends 133 = .ok (.iload 8, 2) := by decide +kernel
theorem dX3_mends_135 : decode cX3_mends 135 = .ok (.iconst 1, 1) := by decide +kernel
theorem dX3_mends_136 : decode cX3_mends 136 = .ok (.iadd, 1) := by decide +kernel
theorem dX3_mends_137 : decode cX3_mends 137 = .ok (.goto 4, 3) := by decide +kernel
theorem dX3_mends_140 : decode cX3_mends 140 = .ok (.iconst 0, 1) := by decide +kernel
theorem dX3_mends_141 : decode cX3_mends 141 = .ok (.istore 8, 2) := by decide +kernel
theorem dX3_mends_143 : decode cX3_mends 143 = .ok (.iload 8, 2) := by decide +kernel
theorem dX3_mends_145 : decode cX3_mends 145 = .ok (.iconst 3, 1) := by decide +kernel
theorem dX3_mends_146 : decode cX3_mends 146 = .ok (.irem, 1) := by decide +kernel
theorem dX3_mends_147 : decode cX3_mends 147 = .ok (.iconst 1, 1) := by decide +kernel
theorem dX3_mends_148 : decode cX3_mends 148 = .ok (.if_icmp .ne 6, 3) := by decide +kernel
theorem dX3_mends_151 : decode cX3_mends 151 = .ok (.iinc 4 1, 3) := by decide +kernel
theorem dX3_mends_154 : decode cX3_mends 154 = .ok (.iinc 9 1, 3) := by decide +kernel
theorem dX3_mends_157 : decode cX3_mends 157 = .ok (.goto (-67), 3) := by decide +kernel
theorem dX3_mends_160 : decode cX3_mends 160 = .ok (.iinc 7 1, 3) := by decide +kernel
theorem dX3_mends_163 : decode cX3_mends 163 = .ok (.goto (-86), 3) := by decide +kernel
theorem dX3_mends_166 : decode cX3_mends 166 = .ok (.iload 4, 2) := by decide +kernel
theorem dX3_mends_168 : decode cX3_mends 168 = .ok (.ireturn, 1) := by decide +kernel
set_option maxRecDepth 20000 in
theorem ggX3_gap_X3_isCell : GoodIn wsX3_gap wsX3_isCell := goodIn_r _ [6, 7, 8, 5, 9] (by decide +kernel) (by decide +kernel)
set_option maxRecDepth 20000 in
theorem gX3_gap_X3_isCell : GoodIn wsX3_gap (va_wsS RX3 66 yX3_isCell wsX3_isCell) := goodIn_app (goodIn_of _ (by decide +kernel)) ggX3_gap_X3_isCell
set_option maxRecDepth 20000 in
theorem ggX3_gap_X3_no : GoodIn wsX3_gap wsX3_no := goodIn_r _ [13, 1, 27, 28, 29, 30, 31, 32, 33, 34, 35, 36, 37, 38, 39, 40] (by decide +kernel) (by decide +kernel)
set_option maxRecDepth 20000 in
theorem gX3_gap_X3_no : GoodIn wsX3_gap (wsV RX3 70 RX3 yX3_no wsX3_no) := goodIn_app (goodIn_of _ (by decide +kernel)) ggX3_gap_X3_no
set_option maxRecDepth 20000 in
theorem ggX3_gap_X3_clear : GoodIn wsX3_gap wsX3_clear := goodIn_r _ [17, 18, 27, 28, 29, 30, 31, 32, 33, 34, 35, 36, 37, 38, 39, 40] (by decide +kernel) (by decide +kernel)
set_option maxRecDepth 20000 in
theorem gX3_gap_X3_clear : GoodIn wsX3_gap (wsV RX3 113 RX3 yX3_clear wsX3_clear) := goodIn_app (goodIn_of _ (by decide +kernel)) ggX3_gap_X3_clear
set_option maxRecDepth 20000 in
theorem ggX3_gap_X3_fill : GoodIn wsX3_gap wsX3_fill := goodIn_r _ [22, 18, 23, 2, 24, 25, 5, 26, 3, 4, 6, 7, 8, 9, 27, 28, 29, 30, 31, 32, 33, 34, 35, 36, 37, 38, 39, 40] (by decide +kernel) (by decide +kernel)
set_option maxRecDepth 20000 in
theorem gX3_gap_X3_fill : GoodIn wsX3_gap (wsV RX3 116 RX3 yX3_fill wsX3_fill) := goodIn_app (goodIn_of _ (by decide +kernel)) ggX3_gap_X3_fill
theorem dX3_gap_0 : decode cX3_gap 0 = .ok (.aload_n 0, 1) := by decide +kernel
theorem dX3_gap_1 : decode cX3_gap 1 = .ok (.iconst 0, 1) := by decide +kernel
theorem dX3_gap_2 : decode cX3_gap 2 = .ok (.putfield 55, 3) := by decide +kernel
theorem dX3_gap_5 : decode cX3_gap 5 = .ok (.iload_n 1, 1) := by decide +kernel
theorem dX3_gap_6 : decode cX3_gap 6 = .ok (.iload_n 2, 1) := by decide +kernel
theorem dX3_gap_7 : decode cX3_gap 7 = .ok (.invokestatic 66, 3) := by decide +kernel
theorem dX3_gap_10 : decode cX3_gap 10 = .ok (.ifCond .ne 9, 3) := by decide +kernel
theorem dX3_gap_13 : decode cX3_gap 13 = .ok (.aload_n 0, 1) := by decide +kernel
theorem dX3_gap_14 : decode cX3_gap 14 = .ok (.iconst 1, 1) := by decide +kernel
theorem dX3_gap_15 : decode cX3_gap 15 = .ok (.invokevirtual 70, 3) := by decide +kernel
theorem dX3_gap_18 : decode cX3_gap 18 = .ok (.ireturn, 1) := by decide +kernel
theorem dX3_gap_19 : decode cX3_gap 19 = .ok (.aload_n 0, 1) := by decide +kernel
theorem dX3_gap_20 : decode cX3_gap 20 = .ok (.getfield 28, 3) := by decide +kernel
theorem dX3_gap_23 : decode cX3_gap 23 = .ok (.bipush 10, 2) := by decide +kernel
theorem dX3_gap_25 : decode cX3_gap 25 = .ok (.iload_n 2, 1) := by decide +kernel
theorem dX3_gap_26 : decode cX3_gap 26 = .ok (.imul, 1) := by decide +kernel
theorem dX3_gap_27 : decode cX3_gap 27 = .ok (.iload_n 1, 1) := by decide +kernel
theorem dX3_gap_28 : decode cX3_gap 28 = .ok (.iadd, 1) := by decide +kernel
theorem dX3_gap_29 : decode cX3_gap 29 = .ok (.iaload, 1) := by decide +kernel
theorem dX3_gap_30 : decode cX3_gap 30 = .ok (.iconst (-1), 1) := by decide +kernel
theorem dX3_gap_31 : decode cX3_gap 31 = .ok (.if_icmp .eq 5, 3) := by decide +kernel
theorem dX3_gap_34 : decode cX3_gap 34 = .ok (.iconst 0, 1) := by decide +kernel
theorem dX3_gap_35 : decode cX3_gap 35 = .ok (.ireturn, 1) := by decide +kernel
theorem dX3_gap_36 : decode cX3_gap 36 = .ok (.aload_n 0, 1) := by decide +kernel
theorem dX3_gap_37 : decode cX3_gap 37 = .ok (.invokevirtual 113, 3) := by decide +kernel
theorem dX3_gap_40 : decode cX3_gap 40 = .ok (.aload_n 0, 1) := by decide +kernel
theorem dX3_gap_41 : decode cX3_gap 41 = .ok (.bipush 10, 2) := by decide +kernel
theorem dX3_gap_43 : decode cX3_gap 43 = .ok (.iload_n 2, 1) := by decide +kernel
theorem dX3_gap_44 : decode cX3_gap 44 = .ok (.imul, 1) := by decide +kernel
theorem dX3_gap_45 : decode cX3_gap 45 = .ok (.iload_n 1, 1) := by decide +kernel
theorem dX3_gap_46 : decode cX3_gap 46 = .ok (.iadd, 1) := by decide +kernel
theorem dX3_gap_47 : decode cX3_gap 47 = .ok (.invokevirtual 116, 3) := by decide +kernel
theorem dX3_gap_50 : decode cX3_gap 50 = .ok (.ireturn, 1) := by decide +kernel
set_option maxRecDepth 20000 in
theorem ggX3_pass_X3_isIn : GoodIn wsX3_pass wsX3_isIn := goodIn_r _ [6] (by decide +kernel) (by decide +kernel)
set_option maxRecDepth 20000 in
theorem gX3_pass_X3_isIn : GoodIn wsX3_pass (va_wsS RX3 59 yX3_isIn wsX3_isIn) := goodIn_app (goodIn_of _ (by decide +kernel)) ggX3_pass_X3_isIn
set_option maxRecDepth 20000 in
theorem ggX3_pass_X3_no : GoodIn wsX3_pass wsX3_no := goodIn_r _ [10, 1, 32, 33, 34, 35, 36, 37, 38, 39, 40, 41, 42, 43, 44, 45] (by decide +kernel) (by decide +kernel)
set_option maxRecDepth 20000 in
theorem gX3_pass_X3_no : GoodIn wsX3_pass (wsV RX3 70 RX3 yX3_no wsX3_no) := goodIn_app (goodIn_of _ (by decide +kernel)) ggX3_pass_X3_no
set_option maxRecDepth 20000 in
theorem ggX3_pass_X2_pass : GoodIn wsX3_pass wsX2_pass := goodIn_r _ [15, 16, 17, 18, 19, 20, 21, 22, 46, 47, 48, 32, 33, 34, 35, 36, 37, 38, 39, 40, 41, 42, 43, 44, 45] (by decide +kernel) (by decide +kernel)
set_option maxRecDepth 20000 in
theorem gX3_pass_X2_pass : GoodIn wsX3_pass (wsV RX3 149 RX2 yX2_pass wsX2_pass) := goodIn_app (goodIn_of _ (by decide +kernel)) ggX3_pass_X2_pass
set_option maxRecDepth 20000 in
theorem ggX3_pass_X3_looseOnes : GoodIn wsX3_pass wsX3_looseOnes := goodIn_r _ [26, 27, 2, 28, 29, 30, 14, 31, 16, 18, 32, 33, 34, 35, 36, 37, 38, 39, 40, 41, 42, 43, 44, 45, 46, 47, 48] (by decide +kernel) (by decide +kernel)
set_option maxRecDepth 20000 in
theorem gX3_pass_X3_looseOnes : GoodIn wsX3_pass (wsV RX3 122 RX3 yX3_looseOnes wsX3_looseOnes) := goodIn_app (goodIn_of _ (by decide +kernel)) ggX3_pass_X3_looseOnes
theorem dX3_pass_0 : decode cX3_pass 0 = .ok (.aload_n 0, 1) := by decide +kernel
theorem dX3_pass_1 : decode cX3_pass 1 = .ok (.iconst 0, 1) := by decide +kernel
theorem dX3_pass_2 : decode cX3_pass 2 = .ok (.putfield 55, 3) := by decide +kernel
theorem dX3_pass_5 : decode cX3_pass 5 = .ok (.iload_n 1, 1) := by decide +kernel
theorem dX3_pass_6 : decode cX3_pass 6 = .ok (.iconst 1, 1) := by decide +kernel
theorem dX3_pass_7 : decode cX3_pass 7 = .ok (.bipush 100, 2) := by decide +kernel
theorem dX3_pass_9 : decode cX3_pass 9 = .ok (.invokestatic 59, 3) := by decide +kernel
theorem dX3_pass_12 : decode cX3_pass 12 = .ok (.ifCond .ne 9, 3) := by decide +kernel
theorem dX3_pass_15 : decode cX3_pass 15 = .ok (.aload_n 0, 1) := by decide +kernel
theorem dX3_pass_16 : decode cX3_pass 16 = .ok (.iconst 1, 1) := by decide +kernel
theorem dX3_pass_17 : decode cX3_pass 17 = .ok (.invokevirtual 70, 3) := by decide +kernel
theorem dX3_pass_20 : decode cX3_pass 20 = .ok (.ireturn, 1) := by decide +kernel
theorem dX3_pass_21 : decode cX3_pass 21 = .ok (.iconst 0, 1) := by decide +kernel
theorem dX3_pass_22 : decode cX3_pass 22 = .ok (.istore_n 2, 1) := by decide +kernel
theorem dX3_pass_23 : decode cX3_pass 23 = .ok (.iload_n 2, 1) := by decide +kernel
theorem dX3_pass_24 : decode cX3_pass 24 = .ok (.iload_n 1, 1) := by decide +kernel
theorem dX3_pass_25 : decode cX3_pass 25 = .ok (.if_icmp .ge 16, 3) := by decide +kernel
theorem dX3_pass_28 : decode cX3_pass 28 = .ok (.aload_n 0, 1) := by decide +kernel
theorem dX3_pass_29 : decode cX3_pass 29 = .ok (.getfield 45, 3) := by decide +kernel
theorem dX3_pass_32 : decode cX3_pass 32 = .ok (.invokevirtual 149, 3) := by decide +kernel
theorem dX3_pass_35 : decode cX3_pass 35 = .ok (.iinc 2 1, 3) := by decide +kernel
theorem dX3_pass_38 : decode cX3_pass 38 = .ok (.goto (-15), 3) := by decide +kernel
theorem dX3_pass_41 : decode cX3_pass 41 = .ok (.aload_n 0, 1) := by decide +kernel
theorem dX3_pass_42 : decode cX3_pass 42 = .ok (.invokevirtual 122, 3) := by decide +kernel
theorem dX3_pass_45 : decode cX3_pass 45 = .ok (.ireturn, 1) := by decide +kernel
set_option maxRecDepth 20000 in
theorem ggX3_loose_X3_isPiece : GoodIn wsX3_loose wsX3_isPiece := goodIn_r _ [8, 9, 10, 11, 7, 12, 41, 42, 43, 44, 45, 46, 47, 48, 49, 50, 51, 52, 53, 54] (by decide +kernel) (by decide +kernel)
set_option maxRecDepth 20000 in
theorem gX3_loose_X3_isPiece : GoodIn wsX3_loose (wsV RX3 86 RX3 yX3_isPiece wsX3_isPiece) := goodIn_app (goodIn_of _ (by decide +kernel)) ggX3_loose_X3_isPiece
set_option maxRecDepth 20000 in
theorem ggX3_loose_X3_no : GoodIn wsX3_loose wsX3_no := goodIn_r _ [16, 1, 41, 42, 43, 44, 45, 46, 47, 48, 49, 50, 51, 52, 53, 54] (by decide +kernel) (by decide +kernel)
set_option maxRecDepth 20000 in
theorem gX3_loose_X3_no : GoodIn wsX3_loose (wsV RX3 70 RX3 yX3_no wsX3_no) := goodIn_app (goodIn_of _ (by decide +kernel)) ggX3_loose_X3_no
set_option maxRecDepth 20000 in
theorem ggX3_loose_X2_become : GoodIn wsX3_loose wsX2_become := goodIn_r _ [21, 22, 23, 24, 25, 26, 27, 55, 56, 57] (by decide +kernel) (by decide +kernel)
set_option maxRecDepth 20000 in
theorem gX3_loose_X2_become : GoodIn wsX3_loose (wsV RX3 152 RX2 yX2_become wsX2_become) := goodIn_app (goodIn_of _ (by decide +kernel)) ggX3_loose_X2_become
set_option maxRecDepth 20000 in
theorem ggX3_loose_X2_isLoose : GoodIn wsX3_loose wsX2_isLoose := goodIn_r _ [31, 32, 23, 55, 56, 57, 41, 42, 43, 44, 45, 46, 47, 48, 49, 50, 51, 52, 53, 54] (by decide +kernel) (by decide +kernel)
set_option maxRecDepth 20000 in
theorem gX3_loose_X2_isLoose : GoodIn wsX3_loose (wsV RX3 89 RX2 yX2_isLoose wsX2_isLoose) := goodIn_app (goodIn_of _ (by decide +kernel)) ggX3_loose_X2_isLoose
set_option maxRecDepth 20000 in
theorem ggX3_loose_X2_pass : GoodIn wsX3_loose wsX2_pass := goodIn_r _ [36, 32, 22, 23, 37, 38, 39, 40, 55, 56, 57, 41, 42, 43, 44, 45, 46, 47, 48, 49, 50, 51, 52, 53, 54] (by decide +kernel) (by decide +kernel)
set_option maxRecDepth 20000 in
theorem gX3_loose_X2_pass : GoodIn wsX3_loose (wsV RX3 149 RX2 yX2_pass wsX2_pass) := goodIn_app (goodIn_of _ (by decide +kernel)) ggX3_loose_X2_pass
theorem dX3_loose_0 : decode cX3_loose 0 = .ok (.aload_n 0, 1) := by decide +kernel
theorem dX3_loose_1 : decode cX3_loose 1 = .ok (.iconst 0, 1) := by decide +kernel
theorem dX3_loose_2 : decode cX3_loose 2 = .ok (.putfield 55, 3) := by decide +kernel
theorem dX3_loose_5 : decode cX3_loose 5 = .ok (.aload_n 0, 1) := by decide +kernel
theorem dX3_loose_6 : decode cX3_loose 6 = .ok (.iload_n 1, 1) := by decide +kernel
theorem dX3_loose_7 : decode cX3_loose 7 = .ok (.invokevirtual 86, 3) := by decide +kernel
theorem dX3_loose_10 : decode cX3_loose 10 = .ok (.ifCond .ne 9, 3) := by decide +kernel
theorem dX3_loose_13 : decode cX3_loose 13 = .ok (.aload_n 0, 1) := by decide +kernel
theorem dX3_loose_14 : decode cX3_loose 14 = .ok (.iconst 1, 1) := by decide +kernel
theorem dX3_loose_15 : decode cX3_loose 15 = .ok (.invokevirtual 70, 3) := by decide +kernel
theorem dX3_loose_18 : decode cX3_loose 18 = .ok (.ireturn, 1) := by decide +kernel
theorem dX3_loose_19 : decode cX3_loose 19 = .ok (.aload_n 0, 1) := by decide +kernel
theorem dX3_loose_20 : decode cX3_loose 20 = .ok (.getfield 49, 3) := by decide +kernel
theorem dX3_loose_23 : decode cX3_loose 23 = .ok (.aload_n 0, 1) := by decide +kernel
theorem dX3_loose_24 : decode cX3_loose 24 = .ok (.getfield 45, 3) := by decide +kernel
theorem dX3_loose_27 : decode cX3_loose 27 = .ok (.invokevirtual 152, 3) := by decide +kernel
theorem dX3_loose_30 : decode cX3_loose 30 = .ok (.iconst 0, 1) := by decide +kernel
theorem dX3_loose_31 : decode cX3_loose 31 = .ok (.istore_n 2, 1) := by decide +kernel
theorem dX3_loose_32 : decode cX3_loose 32 = .ok (.iload_n 2, 1) := by decide +kernel
theorem dX3_loose_33 : decode cX3_loose 33 = .ok (.sipush 200, 3) := by decide +kernel
theorem dX3_loose_36 : decode cX3_loose 36 = .ok (.if_icmp .gt 29, 3) := by decide +kernel
theorem dX3_loose_39 : decode cX3_loose 39 = .ok (.aload_n 0, 1) := by decide +kernel
theorem dX3_loose_40 : decode cX3_loose 40 = .ok (.getfield 49, 3) := by decide +kernel
theorem dX3_loose_43 : decode cX3_loose 43 = .ok (.iload_n 1, 1) := by decide +kernel
theorem dX3_loose_44 : decode cX3_loose 44 = .ok (.invokevirtual 89, 3) := by decide +kernel
theorem dX3_loose_47 : decode cX3_loose 47 = .ok (.ifCond .ne 5, 3) := by decide +kernel
theorem dX3_loose_50 : decode cX3_loose 50 = .ok (.iload_n 2, 1) := by decide +kernel
theorem dX3_loose_51 : decode cX3_loose 51 = .ok (.ireturn, 1) := by decide +kernel
theorem dX3_loose_52 : decode cX3_loose 52 = .ok (.aload_n 0, 1) := by decide +kernel
theorem dX3_loose_53 : decode cX3_loose 53 = .ok (.getfield 49, 3) := by decide +kernel
theorem dX3_loose_56 : decode cX3_loose 56 = .ok (.invokevirtual 149, 3) := by decide +kernel
theorem dX3_loose_59 : decode cX3_loose 59 = .ok (.iinc 2 1, 3) := by decide +kernel
theorem dX3_loose_62 : decode cX3_loose 62 = .ok (.goto (-30), 3) := by decide +kernel
theorem dX3_loose_65 : decode cX3_loose 65 = .ok (.iconst (-1), 1) := by decide +kernel
theorem dX3_loose_66 : decode cX3_loose 66 = .ok (.ireturn, 1) := by decide +kernel
set_option maxRecDepth 20000 in
theorem ggX3_dry_X2_become : GoodIn wsX3_dry wsX2_become := goodIn_r _ [8, 9, 10, 11, 12, 13, 14, 42, 43, 44] (by decide +kernel) (by decide +kernel)
set_option maxRecDepth 20000 in
theorem gX3_dry_X2_become : GoodIn wsX3_dry (wsV RX3 152 RX2 yX2_become wsX2_become) := goodIn_app (goodIn_of _ (by decide +kernel)) ggX3_dry_X2_become
set_option maxRecDepth 20000 in
theorem ggX3_dry_X2_wetOnes : GoodIn wsX3_dry wsX2_wetOnes := goodIn_r _ [18, 10, 42, 43, 44] (by decide +kernel) (by decide +kernel)
set_option maxRecDepth 20000 in
theorem gX3_dry_X2_wetOnes : GoodIn wsX3_dry (wsV RX3 126 RX2 yX2_wetOnes wsX2_wetOnes) := goodIn_app (goodIn_of _ (by decide +kernel)) ggX3_dry_X2_wetOnes
set_option maxRecDepth 20000 in
theorem ggX3_dry_X2_pass : GoodIn wsX3_dry wsX2_pass := goodIn_r _ [22, 23, 9, 10, 24, 25, 26, 27, 42, 43, 44, 28, 29, 30, 31, 32, 33, 34, 35, 36, 37, 38, 39, 40, 41] (by decide +kernel) (by decide +kernel)
set_option maxRecDepth 20000 in
theorem gX3_dry_X2_pass : GoodIn wsX3_dry (wsV RX3 149 RX2 yX2_pass wsX2_pass) := goodIn_app (goodIn_of _ (by decide +kernel)) ggX3_dry_X2_pass
theorem dX3_dry_0 : decode cX3_dry 0 = .ok (.aload_n 0, 1) := by decide +kernel
theorem dX3_dry_1 : decode cX3_dry 1 = .ok (.iconst 0, 1) := by decide +kernel
theorem dX3_dry_2 : decode cX3_dry 2 = .ok (.putfield 55, 3) := by decide +kernel
theorem dX3_dry_5 : decode cX3_dry 5 = .ok (.aload_n 0, 1) := by decide +kernel
theorem dX3_dry_6 : decode cX3_dry 6 = .ok (.getfield 49, 3) := by decide +kernel
theorem dX3_dry_9 : decode cX3_dry 9 = .ok (.aload_n 0, 1) := by decide +kernel
theorem dX3_dry_10 : decode cX3_dry 10 = .ok (.getfield 45, 3) := by decide +kernel
theorem dX3_dry_13 : decode cX3_dry 13 = .ok (.invokevirtual 152, 3) := by decide +kernel
theorem dX3_dry_16 : decode cX3_dry 16 = .ok (.iconst 0, 1) := by decide +kernel
theorem dX3_dry_17 : decode cX3_dry 17 = .ok (.istore_n 1, 1) := by decide +kernel
theorem dX3_dry_18 : decode cX3_dry 18 = .ok (.iload_n 1, 1) := by decide +kernel
theorem dX3_dry_19 : decode cX3_dry 19 = .ok (.sipush 200, 3) := by decide +kernel
theorem dX3_dry_22 : decode cX3_dry 22 = .ok (.if_icmp .gt 28, 3) := by decide +kernel
theorem dX3_dry_25 : decode cX3_dry 25 = .ok (.aload_n 0, 1) := by decide +kernel
theorem dX3_dry_26 : decode cX3_dry 26 = .ok (.getfield 49, 3) := by decide +kernel
theorem dX3_dry_29 : decode cX3_dry 29 = .ok (.invokevirtual 126, 3) := by decide +kernel
theorem dX3_dry_32 : decode cX3_dry 32 = .ok (.ifCond .ne 5, 3) := by decide +kernel
theorem dX3_dry_35 : decode cX3_dry 35 = .ok (.iload_n 1, 1) := by decide +kernel
theorem dX3_dry_36 : decode cX3_dry 36 = .ok (.ireturn, 1) := by decide +kernel
theorem dX3_dry_37 : decode cX3_dry 37 = .ok (.aload_n 0, 1) := by decide +kernel
theorem dX3_dry_38 : decode cX3_dry 38 = .ok (.getfield 49, 3) := by decide +kernel
theorem dX3_dry_41 : decode cX3_dry 41 = .ok (.invokevirtual 149, 3) := by decide +kernel
theorem dX3_dry_44 : decode cX3_dry 44 = .ok (.iinc 1 1, 3) := by decide +kernel
theorem dX3_dry_47 : decode cX3_dry 47 = .ok (.goto (-29), 3) := by decide +kernel
theorem dX3_dry_50 : decode cX3_dry 50 = .ok (.iconst (-1), 1) := by decide +kernel
theorem dX3_dry_51 : decode cX3_dry 51 = .ok (.ireturn, 1) := by decide +kernel
set_option maxRecDepth 20000 in
theorem ggX3_share_X3_covered : GoodIn wsX3_share wsX3_covered := goodIn_r _ [7, 8, 9, 10, 11, 12, 13, 14, 15, 16, 17, 18, 19, 20, 21, 22] (by decide +kernel) (by decide +kernel)
set_option maxRecDepth 20000 in
theorem gX3_share_X3_covered : GoodIn wsX3_share (wsV RX3 129 RX3 yX3_covered wsX3_covered) := goodIn_app (goodIn_of _ (by decide +kernel)) ggX3_share_X3_covered
theorem dX3_share_0 : decode cX3_share 0 = .ok (.aload_n 0, 1) := by decide +kernel
theorem dX3_share_1 : decode cX3_share 1 = .ok (.iconst 0, 1) := by decide +kernel
theorem dX3_share_2 : decode cX3_share 2 = .ok (.putfield 55, 3) := by decide +kernel
theorem dX3_share_5 : decode cX3_share 5 = .ok (.aload_n 0, 1) := by decide +kernel
theorem dX3_share_6 : decode cX3_share 6 = .ok (.invokevirtual 129, 3) := by decide +kernel
theorem dX3_share_9 : decode cX3_share 9 = .ok (.i2d, 1) := by decide +kernel
theorem dX3_share_10 : decode cX3_share 10 = .ok (.ldc2_w 156, 3) := by decide +kernel
theorem dX3_share_13 : decode cX3_share 13 = .ok (.ddiv, 1) := by decide +kernel
theorem dX3_share_14 : decode cX3_share 14 = .ok (.dreturn, 1) := by decide +kernel
set_option maxRecDepth 20000 in
theorem ggX3_digest_X3_counted : GoodIn wsX3_digest wsX3_counted := goodIn_r _ [10, 11, 4, 12, 13, 14, 15, 9, 16, 17, 18, 19, 20, 21, 22, 23, 24, 25, 26, 27, 28, 29, 30, 31, 32, 33, 34, 35, 36, 37, 38, 39, 40, 41, 42, 43, 44, 45, 46, 47, 48, 49, 50, 51, 52, 53, 54, 55, 73, 74, 75, 76, 77, 78, 79, 80, 81, 82, 83, 84, 85, 86, 87, 88, 89] (by decide +kernel) (by decide +kernel)
set_option maxRecDepth 20000 in
theorem gX3_digest_X3_counted : GoodIn wsX3_digest (wsV RX3 135 RX3 yX3_counted wsX3_counted) := goodIn_app (goodIn_of _ (by decide +kernel)) ggX3_digest_X3_counted
set_option maxRecDepth 20000 in
theorem ggX3_digest_X3_cellTold : GoodIn wsX3_digest wsX3_cellTold := goodIn_r _ [59, 11, 32, 60, 61, 62, 9, 63, 64, 73, 74, 75, 76, 77, 78, 79, 80, 81, 82, 83, 84, 85, 86, 87, 88, 89] (by decide +kernel) (by decide +kernel)
set_option maxRecDepth 20000 in
theorem gX3_digest_X3_cellTold : GoodIn wsX3_digest (wsV RX3 103 RX3 yX3_cellTold wsX3_cellTold) := goodIn_app (goodIn_of _ (by decide +kernel)) ggX3_digest_X3_cellTold
set_option maxRecDepth 20000 in
theorem ggX3_digest_X3_pieceTold : GoodIn wsX3_digest wsX3_pieceTold := goodIn_r _ [68, 69, 70, 71, 64, 72, 11, 12, 17, 18, 19, 20, 21, 22, 23, 73, 74, 75, 76, 77, 78, 79, 80, 81, 82, 83, 84, 85, 86, 87, 88, 89] (by decide +kernel) (by decide +kernel)
set_option maxRecDepth 20000 in
theorem gX3_digest_X3_pieceTold : GoodIn wsX3_digest (wsV RX3 107 RX3 yX3_pieceTold wsX3_pieceTold) := goodIn_app (goodIn_of _ (by decide +kernel)) ggX3_digest_X3_pieceTold
theorem dX3_digest_0 : decode cX3_digest 0 = .ok (.aload_n 0, 1) := by decide +kernel
theorem dX3_digest_1 : decode cX3_digest 1 = .ok (.iconst 0, 1) := by decide +kernel
theorem dX3_digest_2 : decode cX3_digest 2 = .ok (.putfield 55, 3) := by decide +kernel
theorem dX3_digest_5 : decode cX3_digest 5 = .ok (.ldc2_w 158, 3) := by decide +kernel
theorem dX3_digest_8 : decode cX3_digest 8 = .ok (.lstore_n 1, 1) := by decide +kernel
theorem dX3_digest_9 : decode cX3_digest 9 = .ok (.iconst 0, 1) := by decide +kernel
theorem dX3_digest_10 : decode cX3_digest 10 = .ok (.istore_n 3, 1) := by decide +kernel
theorem dX3_digest_11 : decode cX3_digest 11 = .ok (.iload_n 3, 1) := by decide +kernel
theorem dX3_digest_12 : decode cX3_digest 12 = .ok (.bipush 7, 2) := by decide +kernel
theorem dX3_digest_14 : decode cX3_digest 14 = .ok (.if_icmp .gt 22, 3) := by decide +kernel
theorem dX3_digest_17 : decode cX3_digest 17 = .ok (.lload_n 1, 1) := by decide +kernel
theorem dX3_digest_18 : decode cX3_digest 18 = .ok (.ldc2_w 160, 3) := by decide +kernel
theorem dX3_digest_21 : decode cX3_digest 21 = .ok (.lmul, 1) := by decide +kernel
theorem dX3_digest_22 : decode cX3_digest 22 = .ok (.aload_n 0, 1) := by decide +kernel
theorem dX3_digest_23 : decode cX3_digest 23 = .ok (.iload_n 3, 1) := by decide +kernel
theorem dX3_digest_24 : decode cX3_digest 24 = .ok (.invokevirtual 135, 3) := by decide +kernel
theorem dX3_digest_27 : decode cX3_digest 27 = .ok (.i2l, 1) := by decide +kernel
theorem dX3_digest_28 : decode cX3_digest 28 = .ok (.ladd, 1) := by decide +kernel
theorem dX3_digest_29 : decode cX3_digest 29 = .ok (.lstore_n 1, 1) := by decide +kernel
theorem dX3_digest_30 : decode cX3_digest 30 = .ok (.iinc 3 1, 3) := by decide +kernel
theorem dX3_digest_33 : decode cX3_digest 33 = .ok (.goto (-22), 3) := by decide +kernel
theorem dX3_digest_36 : decode cX3_digest 36 = .ok (.iconst 0, 1) := by decide +kernel
theorem dX3_digest_37 : decode cX3_digest 37 = .ok (.istore_n 3, 1) := by decide +kernel
theorem dX3_digest_38 : decode cX3_digest 38 = .ok (.iload_n 3, 1) := by decide +kernel
theorem dX3_digest_39 : decode cX3_digest 39 = .ok (.bipush 80, 2) := by decide +kernel
theorem dX3_digest_41 : decode cX3_digest 41 = .ok (.if_icmp .ge 39, 3) := by decide +kernel
theorem dX3_digest_44 : decode cX3_digest 44 = .ok (.iconst 0, 1) := by decide +kernel
theorem dX3_digest_45 : decode cX3_digest 45 = .ok (.istore 4, 2) := by decide +kernel
theorem dX3_digest_47 : decode cX3_digest 47 = .ok (.iload 4, 2) := by decide +kernel
theorem dX3_digest_49 : decode cX3_digest 49 = .ok (.iconst 2, 1) := by decide +kernel
theorem dX3_digest_50 : decode cX3_digest 50 = .ok (.if_icmp .gt 24, 3) := by decide +kernel
theorem dX3_digest_53 : decode cX3_digest 53 = .ok (.lload_n 1, 1) := by decide +kernel
theorem dX3_digest_54 : decode cX3_digest 54 = .ok (.ldc2_w 160, 3) := by decide +kernel
theorem dX3_digest_57 : decode cX3_digest 57 = .ok (.lmul, 1) := by decide +kernel
theorem dX3_digest_58 : decode cX3_digest 58 = .ok (.aload_n 0, 1) := by decide +kernel
theorem dX3_digest_59 : decode cX3_digest 59 = .ok (.iload_n 3, 1) := by decide +kernel
theorem dX3_digest_60 : decode cX3_digest 60 = .ok (.iload 4, 2) := by decide +kernel
theorem dX3_digest_62 : decode cX3_digest 62 = .ok (.invokevirtual 103, 3) := by decide +kernel
theorem dX3_digest_65 : decode cX3_digest 65 = .ok (.i2l, 1) := by decide +kernel
theorem dX3_digest_66 : decode cX3_digest 66 = .ok (.ladd, 1) := by decide +kernel
theorem dX3_digest_67 : decode cX3_digest 67 = .ok (.lstore_n 1, 1) := by decide +kernel
theorem dX3_digest_68 : decode cX3_digest 68 = .ok (.iinc 4 1, 3) := by decide +kernel
theorem dX3_digest_71 : decode cX3_digest 71 = .ok (.goto (-24), 3) := by decide +kernel
theorem dX3_digest_74 : decode cX3_digest 74 = .ok (.iinc 3 1, 3) := by decide +kernel
theorem dX3_digest_77 : decode cX3_digest 77 = .ok (.goto (-39), 3) := by decide +kernel
theorem dX3_digest_80 : decode cX3_digest 80 = .ok (.iconst 0, 1) := by decide +kernel
theorem dX3_digest_81 : decode cX3_digest 81 = .ok (.istore_n 3, 1) := by decide +kernel
theorem dX3_digest_82 : decode cX3_digest 82 = .ok (.iload_n 3, 1) := by decide +kernel
theorem dX3_digest_83 : decode cX3_digest 83 = .ok (.aload_n 0, 1) := by decide +kernel
theorem dX3_digest_84 : decode cX3_digest 84 = .ok (.getfield 63, 3) := by decide +kernel
theorem dX3_digest_87 : decode cX3_digest 87 = .ok (.if_icmp .ge 40, 3) := by decide +kernel
theorem dX3_digest_90 : decode cX3_digest 90 = .ok (.iconst 0, 1) := by decide +kernel
theorem dX3_digest_91 : decode cX3_digest 91 = .ok (.istore 4, 2) := by decide +kernel
theorem dX3_digest_93 : decode cX3_digest 93 = .ok (.iload 4, 2) := by decide +kernel
theorem dX3_digest_95 : decode cX3_digest 95 = .ok (.bipush 7, 2) := by decide +kernel
theorem dX3_digest_97 : decode cX3_digest 97 = .ok (.if_icmp .gt 24, 3) := by decide +kernel
theorem dX3_digest_100 : decode cX3_digest 100 = .ok (.lload_n 1, 1) := by decide +kernel
theorem dX3_digest_101 : decode cX3_digest 101 = .ok (.ldc2_w 160, 3) := by decide +kernel
theorem dX3_digest_104 : decode cX3_digest 104 = .ok (.lmul, 1) := by decide +kernel
theorem dX3_digest_105 : decode cX3_digest 105 = .ok (.aload_n 0, 1) := by decide +kernel
theorem dX3_digest_106 : decode cX3_digest 106 = .ok (.iload_n 3, 1) := by decide +kernel
theorem dX3_digest_107 : decode cX3_digest 107 = .ok (.iload 4, 2) := by decide +kernel
theorem dX3_digest_109 : decode cX3_digest 109 = .ok (.invokevirtual 107, 3) := by decide +kernel
theorem dX3_digest_112 : decode cX3_digest 112 = .ok (.i2l, 1) := by decide +kernel
theorem dX3_digest_113 : decode cX3_digest 113 = .ok (.ladd, 1) := by decide +kernel
theorem dX3_digest_114 : decode cX3_digest 114 = .ok (.lstore_n 1, 1) := by decide +kernel
theorem dX3_digest_115 : decode cX3_digest 115 = .ok (.iinc 4 1, 3) := by decide +kernel
theorem dX3_digest_118 : decode cX3_digest 118 = .ok (.goto (-25), 3) := by decide +kernel
theorem dX3_digest_121 : decode cX3_digest 121 = .ok (.iinc 3 1, 3) := by decide +kernel
theorem dX3_digest_124 : decode cX3_digest 124 = .ok (.goto (-42), 3) := by decide +kernel
theorem dX3_digest_127 : decode cX3_digest 127 = .ok (.iconst 0, 1) := by decide +kernel
theorem dX3_digest_128 : decode cX3_digest 128 = .ok (.istore_n 3, 1) := by decide +kernel
theorem dX3_digest_129 : decode cX3_digest 129 = .ok (.iload_n 3, 1) := by decide +kernel
theorem dX3_digest_130 : decode cX3_digest 130 = .ok (.bipush 8, 2) := by decide +kernel
theorem dX3_digest_132 : decode cX3_digest 132 = .ok (.if_icmp .ge 23, 3) := by decide +kernel
theorem dX3_digest_135 : decode cX3_digest 135 = .ok (.lload_n 1, 1) := by decide +kernel
theorem dX3_digest_136 : decode cX3_digest 136 = .ok (.ldc2_w 160, 3) := by decide +kernel
theorem dX3_digest_139 : decode cX3_digest 139 = .ok (.lmul, 1) := by decide +kernel
theorem dX3_digest_140 : decode cX3_digest 140 = .ok (.aload_n 0, 1) := by decide +kernel
theorem dX3_digest_141 : decode cX3_digest 141 = .ok (.getfield 31, 3) := by decide +kernel
theorem dX3_digest_144 : decode cX3_digest 144 = .ok (.iload_n 3, 1) := by decide +kernel
theorem dX3_digest_145 : decode cX3_digest 145 = .ok (.iaload, 1) := by decide +kernel
theorem dX3_digest_146 : decode cX3_digest 146 = .ok (.i2l, 1) := by decide +kernel
theorem dX3_digest_147 : decode cX3_digest 147 = .ok (.ladd, 1) := by decide +kernel
theorem dX3_digest_148 : decode cX3_digest 148 = .ok (.lstore_n 1, 1) := by decide +kernel
theorem dX3_digest_149 : decode cX3_digest 149 = .ok (.iinc 3 1, 3) := by decide +kernel
theorem dX3_digest_152 : decode cX3_digest 152 = .ok (.goto (-23), 3) := by decide +kernel
theorem dX3_digest_155 : decode cX3_digest 155 = .ok (.lload_n 1, 1) := by decide +kernel
theorem dX3_digest_156 : decode cX3_digest 156 = .ok (.lreturn, 1) := by decide +kernel
theorem dJ9_floorMod_7cf53_0 : decode cJ9_floorMod_7cf53 0 = .ok (.iload_n 0, 1) := by decide +kernel
theorem dJ9_floorMod_7cf53_1 : decode cJ9_floorMod_7cf53 1 = .ok (.iload_n 1, 1) := by decide +kernel
theorem dJ9_floorMod_7cf53_2 : decode cJ9_floorMod_7cf53 2 = .ok (.irem, 1) := by decide +kernel
theorem dJ9_floorMod_7cf53_3 : decode cJ9_floorMod_7cf53 3 = .ok (.istore_n 2, 1) := by decide +kernel
theorem dJ9_floorMod_7cf53_4 : decode cJ9_floorMod_7cf53 4 = .ok (.iload_n 0, 1) := by decide +kernel
theorem dJ9_floorMod_7cf53_5 : decode cJ9_floorMod_7cf53 5 = .ok (.iload_n 1, 1) := by decide +kernel
theorem dJ9_floorMod_7cf53_6 : decode cJ9_floorMod_7cf53 6 = .ok (.ixor, 1) := by decide +kernel
theorem dJ9_floorMod_7cf53_7 : decode cJ9_floorMod_7cf53 7 = .ok (.ifCond .ge 11, 3) := by decide +kernel
theorem dJ9_floorMod_7cf53_10 : decode cJ9_floorMod_7cf53 10 = .ok (.iload_n 2, 1) := by decide +kernel
theorem dJ9_floorMod_7cf53_11 : decode cJ9_floorMod_7cf53 11 = .ok (.ifCond .eq 7, 3) := by decide +kernel
theorem dJ9_floorMod_7cf53_14 : decode cJ9_floorMod_7cf53 14 = .ok (.iload_n 2, 1) := by decide +kernel
theorem dJ9_floorMod_7cf53_15 : decode cJ9_floorMod_7cf53 15 = .ok (.iload_n 1, 1) := by decide +kernel
theorem dJ9_floorMod_7cf53_16 : decode cJ9_floorMod_7cf53 16 = .ok (.iadd, 1) := by decide +kernel
theorem dJ9_floorMod_7cf53_17 : decode cJ9_floorMod_7cf53 17 = .ok (.ireturn, 1) := by decide +kernel
theorem dJ9_floorMod_7cf53_18 : decode cJ9_floorMod_7cf53 18 = .ok (.iload_n 2, 1) := by decide +kernel
theorem dJ9_floorMod_7cf53_19 : decode cJ9_floorMod_7cf53 19 = .ok (.ireturn, 1) := by decide +kernel
theorem dJ9_max_7cf53_0 : decode cJ9_max_7cf53 0 = .ok (.iload_n 0, 1) := by decide +kernel
theorem dJ9_max_7cf53_1 : decode cJ9_max_7cf53 1 = .ok (.iload_n 1, 1) := by decide +kernel
theorem dJ9_max_7cf53_2 : decode cJ9_max_7cf53 2 = .ok (.if_icmp .lt 7, 3) := by decide +kernel
theorem dJ9_max_7cf53_5 : decode cJ9_max_7cf53 5 = .ok (.iload_n 0, 1) := by decide +kernel
theorem dJ9_max_7cf53_6 : decode cJ9_max_7cf53 6 = .ok (.goto 4, 3) := by decide +kernel
theorem dJ9_max_7cf53_9 : decode cJ9_max_7cf53 9 = .ok (.iload_n 1, 1) := by decide +kernel
theorem dJ9_max_7cf53_10 : decode cJ9_max_7cf53 10 = .ok (.ireturn, 1) := by decide +kernel
set_option maxRecDepth 20000 in
theorem ggL_spread_X1_spread : GoodIn wsL_spread wsX1_spread := goodIn_ca (goodIn_ca (goodIn_r _ [7, 8, 9, 10, 11, 12, 13, 6, 14, 15, 16, 17, 18, 19, 20, 21, 22, 23, 24, 25, 26, 27, 28, 29, 30, 31, 32, 33, 34, 35, 36, 37, 38, 39, 40] (by decide +kernel) (by decide +kernel)) (goodIn_sub (fun _ h => List.mem_cons_of_mem _ (List.mem_append_left _ (List.mem_append_right _ h))) (by decide +kernel))) (goodIn_sub (fun _ h => List.mem_cons_of_mem _ (List.mem_append_right _ h)) (by decide +kernel))
set_option maxRecDepth 20000 in
theorem gL_spread_X1_spread : GoodIn wsL_spread (wsV RL 7 RX1 yX1_spread wsX1_spread) := goodIn_app (goodIn_of _ (by decide +kernel)) ggL_spread_X1_spread
theorem dL_spread_0 : decode cL_spread 0 = .ok (.aload 5, 2) := by decide +kernel
theorem dL_spread_2 : decode cL_spread 2 = .ok (.iconst 0, 1) := by decide +kernel
theorem dL_spread_3 : decode cL_spread 3 = .ok (.aload_n 0, 1) := by decide +kernel
theorem dL_spread_4 : decode cL_spread 4 = .ok (.iload_n 1, 1) := by decide +kernel
theorem dL_spread_5 : decode cL_spread 5 = .ok (.iload_n 2, 1) := by decide +kernel
theorem dL_spread_6 : decode cL_spread 6 = .ok (.iload_n 3, 1) := by decide +kernel
theorem dL_spread_7 : decode cL_spread 7 = .ok (.iload 4, 2) := by decide +kernel
theorem dL_spread_9 : decode cL_spread 9 = .ok (.invokevirtual 7, 3) := by decide +kernel
theorem dL_spread_12 : decode cL_spread 12 = .ok (.i2l, 1) := by decide +kernel
theorem dL_spread_13 : decode cL_spread 13 = .ok (.lastore, 1) := by decide +kernel
theorem dL_spread_14 : decode cL_spread 14 = .ok (.goto 11, 3) := by decide +kernel
theorem dL_spread_17 : decode cL_spread 17 = .ok (.astore 6, 2) := by decide +kernel
theorem dL_spread_19 : decode cL_spread 19 = .ok (.iconst 1, 1) := by decide +kernel
theorem dL_spread_20 : decode cL_spread 20 = .ok (.ireturn, 1) := by decide +kernel
theorem dL_spread_21 : decode cL_spread 21 = .ok (.astore 6, 2) := by decide +kernel
theorem dL_spread_23 : decode cL_spread 23 = .ok (.iconst 2, 1) := by decide +kernel
theorem dL_spread_24 : decode cL_spread 24 = .ok (.ireturn, 1) := by decide +kernel
theorem dL_spread_25 : decode cL_spread 25 = .ok (.iconst 0, 1) := by decide +kernel
theorem dL_spread_26 : decode cL_spread 26 = .ok (.ireturn, 1) := by decide +kernel
set_option maxRecDepth 20000 in
theorem ggL_setSun_X1_setSun : GoodIn wsL_setSun wsX1_setSun := goodIn_ca (goodIn_ca (goodIn_r _ [7, 8, 9, 10, 11, 12, 13, 14, 6, 15, 16, 17, 18, 19, 20, 21, 22, 23, 24, 25, 26, 27, 28, 29, 30] (by decide +kernel) (by decide +kernel)) (goodIn_sub (fun _ h => List.mem_cons_of_mem _ (List.mem_append_left _ (List.mem_append_right _ h))) (by decide +kernel))) (goodIn_sub (fun _ h => List.mem_cons_of_mem _ (List.mem_append_right _ h)) (by decide +kernel))
set_option maxRecDepth 20000 in
theorem gL_setSun_X1_setSun : GoodIn wsL_setSun (wsV RL 17 RX1 yX1_setSun wsX1_setSun) := goodIn_app (goodIn_of _ (by decide +kernel)) ggL_setSun_X1_setSun
theorem dL_setSun_0 : decode cL_setSun 0 = .ok (.aload_n 3, 1) := by decide +kernel
theorem dL_setSun_1 : decode cL_setSun 1 = .ok (.iconst 0, 1) := by decide +kernel
theorem dL_setSun_2 : decode cL_setSun 2 = .ok (.aload_n 0, 1) := by decide +kernel
theorem dL_setSun_3 : decode cL_setSun 3 = .ok (.iload_n 1, 1) := by decide +kernel
theorem dL_setSun_4 : decode cL_setSun 4 = .ok (.iload_n 2, 1) := by decide +kernel
theorem dL_setSun_5 : decode cL_setSun 5 = .ok (.invokevirtual 17, 3) := by decide +kernel
theorem dL_setSun_8 : decode cL_setSun 8 = .ok (.i2l, 1) := by decide +kernel
theorem dL_setSun_9 : decode cL_setSun 9 = .ok (.lastore, 1) := by decide +kernel
theorem dL_setSun_10 : decode cL_setSun 10 = .ok (.goto 11, 3) := by decide +kernel
theorem dL_setSun_13 : decode cL_setSun 13 = .ok (.astore 4, 2) := by decide +kernel
theorem dL_setSun_15 : decode cL_setSun 15 = .ok (.iconst 1, 1) := by decide +kernel
theorem dL_setSun_16 : decode cL_setSun 16 = .ok (.ireturn, 1) := by decide +kernel
theorem dL_setSun_17 : decode cL_setSun 17 = .ok (.astore 4, 2) := by decide +kernel
theorem dL_setSun_19 : decode cL_setSun 19 = .ok (.iconst 2, 1) := by decide +kernel
theorem dL_setSun_20 : decode cL_setSun 20 = .ok (.ireturn, 1) := by decide +kernel
theorem dL_setSun_21 : decode cL_setSun 21 = .ok (.iconst 0, 1) := by decide +kernel
theorem dL_setSun_22 : decode cL_setSun 22 = .ok (.ireturn, 1) := by decide +kernel
set_option maxRecDepth 20000 in
theorem ggL_press_X1_press : GoodIn wsL_press wsX1_press := goodIn_ca (goodIn_ca (goodIn_ca (goodIn_r _ [8, 9, 10, 11, 12, 13, 14, 15, 16, 17, 18, 19, 7, 20, 21, 22, 23, 24, 25, 26, 27, 28, 29, 30, 31, 32, 33, 34, 35, 36, 37, 38, 39, 40, 41, 42, 43, 44, 45, 46, 47, 48, 49, 50, 51, 52, 53, 54, 55, 56, 57, 58, 59, 60, 61, 62, 63, 64, 65, 66, 67, 68, 69, 70, 71, 72, 73, 74, 75, 76, 77, 78, 79, 80, 81, 82, 83, 84, 85, 86, 87, 88] (by decide +kernel) (by decide +kernel)) (goodIn_sub (fun _ h => List.mem_cons_of_mem _ (List.mem_append_left _ (List.mem_append_left _ (List.mem_append_right _ h)))) (by decide +kernel))) (goodIn_sub (fun _ h => List.mem_cons_of_mem _ (List.mem_append_left _ (List.mem_append_right _ h))) (by decide +kernel))) (goodIn_sub (fun _ h => List.mem_cons_of_mem _ (List.mem_append_right _ h)) (by decide +kernel))
set_option maxRecDepth 20000 in
theorem gL_press_X1_press : GoodIn wsL_press (wsV RL 21 RX1 yX1_press wsX1_press) := goodIn_app (goodIn_of _ (by decide +kernel)) ggL_press_X1_press
theorem dL_press_0 : decode cL_press 0 = .ok (.aload 7, 2) := by decide +kernel
theorem dL_press_2 : decode cL_press 2 = .ok (.iconst 0, 1) := by decide +kernel
theorem dL_press_3 : decode cL_press 3 = .ok (.aload_n 0, 1) := by decide +kernel
theorem dL_press_4 : decode cL_press 4 = .ok (.iload_n 1, 1) := by decide +kernel
theorem dL_press_5 : decode cL_press 5 = .ok (.iload_n 2, 1) := by decide +kernel
theorem dL_press_6 : decode cL_press 6 = .ok (.iload_n 3, 1) := by decide +kernel
theorem dL_press_7 : decode cL_press 7 = .ok (.iload 4, 2) := by decide +kernel
theorem dL_press_9 : decode cL_press 9 = .ok (.iload 5, 2) := by decide +kernel
theorem dL_press_11 : decode cL_press 11 = .ok (.iload 6, 2) := by decide +kernel
theorem dL_press_13 : decode cL_press 13 = .ok (.invokevirtual 21, 3) := by decide +kernel
theorem dL_press_16 : decode cL_press 16 = .ok (.i2l, 1) := by decide +kernel
theorem dL_press_17 : decode cL_press 17 = .ok (.lastore, 1) := by decide +kernel
theorem dL_press_18 : decode cL_press 18 = .ok (.goto 15, 3) := by decide +kernel
theorem dL_press_21 : decode cL_press 21 = .ok (.astore 8, 2) := by decide +kernel
theorem dL_press_23 : decode cL_press 23 = .ok (.iconst 1, 1) := by decide +kernel
theorem dL_press_24 : decode cL_press 24 = .ok (.ireturn, 1) := by decide +kernel
theorem dL_press_25 : decode cL_press 25 = .ok (.astore 8, 2) := by decide +kernel
theorem dL_press_27 : decode cL_press 27 = .ok (.iconst 2, 1) := by decide +kernel
theorem dL_press_28 : decode cL_press 28 = .ok (.ireturn, 1) := by decide +kernel
theorem dL_press_29 : decode cL_press 29 = .ok (.astore 8, 2) := by decide +kernel
theorem dL_press_31 : decode cL_press 31 = .ok (.iconst 3, 1) := by decide +kernel
theorem dL_press_32 : decode cL_press 32 = .ok (.ireturn, 1) := by decide +kernel
theorem dL_press_33 : decode cL_press 33 = .ok (.iconst 0, 1) := by decide +kernel
theorem dL_press_34 : decode cL_press 34 = .ok (.ireturn, 1) := by decide +kernel
set_option maxRecDepth 20000 in
theorem ggL_flip_X1_flip : GoodIn wsL_flip wsX1_flip := goodIn_ca (goodIn_ca (goodIn_r _ [7, 8, 9, 10, 11, 12, 13, 14, 15, 16, 17, 6, 18, 19, 20, 21, 22, 23, 24, 25, 26, 27, 28, 29, 30, 31, 32, 33, 34, 35, 36, 37, 38, 39, 40, 41, 42, 43, 44, 45, 46, 47, 48, 49, 50, 51, 52, 53, 54, 55, 56, 57, 58, 59, 60, 61, 62, 63, 64, 65, 66, 67] (by decide +kernel) (by decide +kernel)) (goodIn_sub (fun _ h => List.mem_cons_of_mem _ (List.mem_append_left _ (List.mem_append_right _ h))) (by decide +kernel))) (goodIn_sub (fun _ h => List.mem_cons_of_mem _ (List.mem_append_right _ h)) (by decide +kernel))
set_option maxRecDepth 20000 in
theorem gL_flip_X1_flip : GoodIn wsL_flip (wsV RL 27 RX1 yX1_flip wsX1_flip) := goodIn_app (goodIn_of _ (by decide +kernel)) ggL_flip_X1_flip
theorem dL_flip_0 : decode cL_flip 0 = .ok (.aload_n 2, 1) := by decide +kernel
theorem dL_flip_1 : decode cL_flip 1 = .ok (.iconst 0, 1) := by decide +kernel
theorem dL_flip_2 : decode cL_flip 2 = .ok (.aload_n 0, 1) := by decide +kernel
theorem dL_flip_3 : decode cL_flip 3 = .ok (.iload_n 1, 1) := by decide +kernel
theorem dL_flip_4 : decode cL_flip 4 = .ok (.invokevirtual 27, 3) := by decide +kernel
theorem dL_flip_7 : decode cL_flip 7 = .ok (.i2l, 1) := by decide +kernel
theorem dL_flip_8 : decode cL_flip 8 = .ok (.lastore, 1) := by decide +kernel
theorem dL_flip_9 : decode cL_flip 9 = .ok (.goto 9, 3) := by decide +kernel
theorem dL_flip_12 : decode cL_flip 12 = .ok (.astore_n 3, 1) := by decide +kernel
theorem dL_flip_13 : decode cL_flip 13 = .ok (.iconst 1, 1) := by decide +kernel
theorem dL_flip_14 : decode cL_flip 14 = .ok (.ireturn, 1) := by decide +kernel
theorem dL_flip_15 : decode cL_flip 15 = .ok (.astore_n 3, 1) := by decide +kernel
theorem dL_flip_16 : decode cL_flip 16 = .ok (.iconst 2, 1) := by decide +kernel
theorem dL_flip_17 : decode cL_flip 17 = .ok (.ireturn, 1) := by decide +kernel
theorem dL_flip_18 : decode cL_flip 18 = .ok (.iconst 0, 1) := by decide +kernel
theorem dL_flip_19 : decode cL_flip 19 = .ok (.ireturn, 1) := by decide +kernel
set_option maxRecDepth 20000 in
theorem ggL_turn_X1_turn : GoodIn wsL_turn wsX1_turn := goodIn_ca (goodIn_ca (goodIn_r _ [7, 8, 9, 10, 11, 12, 13, 14, 15, 16, 17, 18, 19, 6, 20, 21, 22, 23, 24, 25, 26, 27, 28, 29, 30, 31, 32, 33, 34, 35, 36, 37, 38, 39, 40, 41, 42, 43, 44, 45, 46, 47, 48, 49, 50, 51, 52, 53, 54, 55, 56, 57, 58, 59, 60, 61, 62, 63, 64, 65, 66, 67, 68, 69, 70, 71, 72, 73, 74, 75, 76, 77, 78, 79] (by decide +kernel) (by decide +kernel)) (goodIn_sub (fun _ h => List.mem_cons_of_mem _ (List.mem_append_left _ (List.mem_append_right _ h))) (by decide +kernel))) (goodIn_sub (fun _ h => List.mem_cons_of_mem _ (List.mem_append_right _ h)) (by decide +kernel))
set_option maxRecDepth 20000 in
theorem gL_turn_X1_turn : GoodIn wsL_turn (wsV RL 31 RX1 yX1_turn wsX1_turn) := goodIn_app (goodIn_of _ (by decide +kernel)) ggL_turn_X1_turn
theorem dL_turn_0 : decode cL_turn 0 = .ok (.aload_n 2, 1) := by decide +kernel
theorem dL_turn_1 : decode cL_turn 1 = .ok (.iconst 0, 1) := by decide +kernel
theorem dL_turn_2 : decode cL_turn 2 = .ok (.aload_n 0, 1) := by decide +kernel
theorem dL_turn_3 : decode cL_turn 3 = .ok (.iload_n 1, 1) := by decide +kernel
theorem dL_turn_4 : decode cL_turn 4 = .ok (.invokevirtual 31, 3) := by decide +kernel
theorem dL_turn_7 : decode cL_turn 7 = .ok (.i2l, 1) := by decide +kernel
theorem dL_turn_8 : decode cL_turn 8 = .ok (.lastore, 1) := by decide +kernel
theorem dL_turn_9 : decode cL_turn 9 = .ok (.goto 9, 3) := by decide +kernel
theorem dL_turn_12 : decode cL_turn 12 = .ok (.astore_n 3, 1) := by decide +kernel
theorem dL_turn_13 : decode cL_turn 13 = .ok (.iconst 1, 1) := by decide +kernel
theorem dL_turn_14 : decode cL_turn 14 = .ok (.ireturn, 1) := by decide +kernel
theorem dL_turn_15 : decode cL_turn 15 = .ok (.astore_n 3, 1) := by decide +kernel
theorem dL_turn_16 : decode cL_turn 16 = .ok (.iconst 2, 1) := by decide +kernel
theorem dL_turn_17 : decode cL_turn 17 = .ok (.ireturn, 1) := by decide +kernel
theorem dL_turn_18 : decode cL_turn 18 = .ok (.iconst 0, 1) := by decide +kernel
theorem dL_turn_19 : decode cL_turn 19 = .ok (.ireturn, 1) := by decide +kernel
set_option maxRecDepth 20000 in
theorem ggL_take_X1_take : GoodIn wsL_take wsX1_take := goodIn_ca (goodIn_ca (goodIn_r _ [7, 8, 9, 10, 11, 12, 13, 14, 15, 16, 6, 17, 18, 19, 20, 21, 22, 23, 24, 25, 26, 27, 28, 29, 30, 31, 32, 33, 34, 35, 36, 37, 38, 39, 40, 41, 42, 43, 44, 45, 46, 47, 48, 49, 50, 51, 52, 53, 54, 55, 56, 57, 58, 59, 60, 61, 62, 63, 64, 65, 66, 67, 68] (by decide +kernel) (by decide +kernel)) (goodIn_sub (fun _ h => List.mem_cons_of_mem _ (List.mem_append_left _ (List.mem_append_right _ h))) (by decide +kernel))) (goodIn_sub (fun _ h => List.mem_cons_of_mem _ (List.mem_append_right _ h)) (by decide +kernel))
set_option maxRecDepth 20000 in
theorem gL_take_X1_take : GoodIn wsL_take (wsV RL 34 RX1 yX1_take wsX1_take) := goodIn_app (goodIn_of _ (by decide +kernel)) ggL_take_X1_take
theorem dL_take_0 : decode cL_take 0 = .ok (.aload_n 2, 1) := by decide +kernel
theorem dL_take_1 : decode cL_take 1 = .ok (.iconst 0, 1) := by decide +kernel
theorem dL_take_2 : decode cL_take 2 = .ok (.aload_n 0, 1) := by decide +kernel
theorem dL_take_3 : decode cL_take 3 = .ok (.iload_n 1, 1) := by decide +kernel
theorem dL_take_4 : decode cL_take 4 = .ok (.invokevirtual 34, 3) := by decide +kernel
theorem dL_take_7 : decode cL_take 7 = .ok (.ifCond .eq 7, 3) := by decide +kernel
theorem dL_take_10 : decode cL_take 10 = .ok (.lconst 1, 1) := by decide +kernel
theorem dL_take_11 : decode cL_take 11 = .ok (.goto 4, 3) := by decide +kernel
theorem dL_take_14 : decode cL_take 14 = .ok (.lconst 0, 1) := by decide +kernel
theorem dL_take_15 : decode cL_take 15 = .ok (.lastore, 1) := by decide +kernel
theorem dL_take_16 : decode cL_take 16 = .ok (.goto 9, 3) := by decide +kernel
theorem dL_take_19 : decode cL_take 19 = .ok (.astore_n 3, 1) := by decide +kernel
theorem dL_take_20 : decode cL_take 20 = .ok (.iconst 1, 1) := by decide +kernel
theorem dL_take_21 : decode cL_take 21 = .ok (.ireturn, 1) := by decide +kernel
theorem dL_take_22 : decode cL_take 22 = .ok (.astore_n 3, 1) := by decide +kernel
theorem dL_take_23 : decode cL_take 23 = .ok (.iconst 2, 1) := by decide +kernel
theorem dL_take_24 : decode cL_take 24 = .ok (.ireturn, 1) := by decide +kernel
theorem dL_take_25 : decode cL_take 25 = .ok (.iconst 0, 1) := by decide +kernel
theorem dL_take_26 : decode cL_take 26 = .ok (.ireturn, 1) := by decide +kernel
set_option maxRecDepth 20000 in
theorem ggL_cell_X1_cell : GoodIn wsL_cell wsX1_cell := goodIn_ca (goodIn_r _ [6, 7, 8, 9, 10, 5, 11, 12, 13, 14, 15, 16, 17, 18, 19, 20, 21, 22, 23, 24, 25, 26, 27, 28, 29, 30, 31, 32, 33, 34, 35, 36, 37, 38, 39, 40, 41, 42, 43, 44, 45, 46, 47, 48, 49, 50, 51, 52, 53, 54, 55, 56, 57, 58, 59, 60, 61, 62, 63, 64] (by decide +kernel) (by decide +kernel)) (goodIn_sub (fun _ h => List.mem_cons_of_mem _ (List.mem_append_right _ h)) (by decide +kernel))
set_option maxRecDepth 20000 in
theorem gL_cell_X1_cell : GoodIn wsL_cell (wsV RL 38 RX1 yX1_cell wsX1_cell) := goodIn_app (goodIn_of _ (by decide +kernel)) ggL_cell_X1_cell
theorem dL_cell_0 : decode cL_cell 0 = .ok (.aload 4, 2) := by decide +kernel
theorem dL_cell_2 : decode cL_cell 2 = .ok (.iconst 0, 1) := by decide +kernel
theorem dL_cell_3 : decode cL_cell 3 = .ok (.aload_n 0, 1) := by decide +kernel
theorem dL_cell_4 : decode cL_cell 4 = .ok (.iload_n 1, 1) := by decide +kernel
theorem dL_cell_5 : decode cL_cell 5 = .ok (.iload_n 2, 1) := by decide +kernel
theorem dL_cell_6 : decode cL_cell 6 = .ok (.iload_n 3, 1) := by decide +kernel
theorem dL_cell_7 : decode cL_cell 7 = .ok (.invokevirtual 38, 3) := by decide +kernel
theorem dL_cell_10 : decode cL_cell 10 = .ok (.i2l, 1) := by decide +kernel
theorem dL_cell_11 : decode cL_cell 11 = .ok (.lastore, 1) := by decide +kernel
theorem dL_cell_12 : decode cL_cell 12 = .ok (.goto 7, 3) := by decide +kernel
theorem dL_cell_15 : decode cL_cell 15 = .ok (.astore 5, 2) := by decide +kernel
theorem dL_cell_17 : decode cL_cell 17 = .ok (.iconst 1, 1) := by decide +kernel
theorem dL_cell_18 : decode cL_cell 18 = .ok (.ireturn, 1) := by decide +kernel
theorem dL_cell_19 : decode cL_cell 19 = .ok (.iconst 0, 1) := by decide +kernel
theorem dL_cell_20 : decode cL_cell 20 = .ok (.ireturn, 1) := by decide +kernel
set_option maxRecDepth 20000 in
theorem ggL_piece_X1_piece : GoodIn wsL_piece wsX1_piece := goodIn_ca (goodIn_r _ [6, 7, 8, 9, 10, 11, 5, 12, 13, 14, 15, 16, 17, 18, 19, 20, 21, 22, 23, 24, 25, 26, 27, 28, 29, 30, 31, 32, 33, 34, 35, 36, 37, 38, 39, 40, 41, 42, 43, 44, 45, 46, 47, 48, 49, 50, 51, 52, 53, 54, 55, 56, 57, 58, 59, 60, 61, 62, 63, 64, 65, 66, 67, 68, 69, 70, 71] (by decide +kernel) (by decide +kernel)) (goodIn_sub (fun _ h => List.mem_cons_of_mem _ (List.mem_append_right _ h)) (by decide +kernel))
set_option maxRecDepth 20000 in
theorem gL_piece_X1_piece : GoodIn wsL_piece (wsV RL 42 RX1 yX1_piece wsX1_piece) := goodIn_app (goodIn_of _ (by decide +kernel)) ggL_piece_X1_piece
theorem dL_piece_0 : decode cL_piece 0 = .ok (.aload_n 3, 1) := by decide +kernel
theorem dL_piece_1 : decode cL_piece 1 = .ok (.iconst 0, 1) := by decide +kernel
theorem dL_piece_2 : decode cL_piece 2 = .ok (.aload_n 0, 1) := by decide +kernel
theorem dL_piece_3 : decode cL_piece 3 = .ok (.iload_n 1, 1) := by decide +kernel
theorem dL_piece_4 : decode cL_piece 4 = .ok (.iload_n 2, 1) := by decide +kernel
theorem dL_piece_5 : decode cL_piece 5 = .ok (.invokevirtual 42, 3) := by decide +kernel
theorem dL_piece_8 : decode cL_piece 8 = .ok (.i2l, 1) := by decide +kernel
theorem dL_piece_9 : decode cL_piece 9 = .ok (.lastore, 1) := by decide +kernel
theorem dL_piece_10 : decode cL_piece 10 = .ok (.goto 7, 3) := by decide +kernel
theorem dL_piece_13 : decode cL_piece 13 = .ok (.astore 4, 2) := by decide +kernel
theorem dL_piece_15 : decode cL_piece 15 = .ok (.iconst 1, 1) := by decide +kernel
theorem dL_piece_16 : decode cL_piece 16 = .ok (.ireturn, 1) := by decide +kernel
theorem dL_piece_17 : decode cL_piece 17 = .ok (.iconst 0, 1) := by decide +kernel
theorem dL_piece_18 : decode cL_piece 18 = .ok (.ireturn, 1) := by decide +kernel
set_option maxRecDepth 20000 in
theorem ggL_count_X1_count : GoodIn wsL_count wsX1_count := goodIn_ca (goodIn_r _ [6, 7, 8, 9, 10, 5, 11, 12, 13, 14, 15, 16, 17, 18, 19, 20, 21, 22, 23, 24, 25, 26, 27, 28, 29, 30, 31, 32, 33, 34, 35, 36, 37, 38, 39, 40, 41, 42, 43, 44, 45, 46, 47, 48, 49, 50, 51, 52, 53, 54, 55, 56, 57, 58, 59, 60, 61, 62, 63, 64, 65, 66, 67, 68, 69, 70, 71, 72, 73, 74, 75, 76, 77, 78, 79, 80, 81, 82, 83, 84, 85, 86, 87, 88, 89, 90, 91, 92, 93, 94, 95] (by decide +kernel) (by decide +kernel)) (goodIn_sub (fun _ h => List.mem_cons_of_mem _ (List.mem_append_right _ h)) (by decide +kernel))
set_option maxRecDepth 20000 in
theorem gL_count_X1_count : GoodIn wsL_count (wsV RL 45 RX1 yX1_count wsX1_count) := goodIn_app (goodIn_of _ (by decide +kernel)) ggL_count_X1_count
theorem dL_count_0 : decode cL_count 0 = .ok (.aload_n 2, 1) := by decide +kernel
theorem dL_count_1 : decode cL_count 1 = .ok (.iconst 0, 1) := by decide +kernel
theorem dL_count_2 : decode cL_count 2 = .ok (.aload_n 0, 1) := by decide +kernel
theorem dL_count_3 : decode cL_count 3 = .ok (.iload_n 1, 1) := by decide +kernel
theorem dL_count_4 : decode cL_count 4 = .ok (.invokevirtual 45, 3) := by decide +kernel
theorem dL_count_7 : decode cL_count 7 = .ok (.i2l, 1) := by decide +kernel
theorem dL_count_8 : decode cL_count 8 = .ok (.lastore, 1) := by decide +kernel
theorem dL_count_9 : decode cL_count 9 = .ok (.goto 6, 3) := by decide +kernel
theorem dL_count_12 : decode cL_count 12 = .ok (.astore_n 3, 1) := by decide +kernel
theorem dL_count_13 : decode cL_count 13 = .ok (.iconst 1, 1) := by decide +kernel
theorem dL_count_14 : decode cL_count 14 = .ok (.ireturn, 1) := by decide +kernel
theorem dL_count_15 : decode cL_count 15 = .ok (.iconst 0, 1) := by decide +kernel
theorem dL_count_16 : decode cL_count 16 = .ok (.ireturn, 1) := by decide +kernel
set_option maxRecDepth 20000 in
theorem ggL_off_X1_off : GoodIn wsL_off wsX1_off := goodIn_ca (goodIn_r _ [6, 7, 8, 5, 9, 10, 11, 12, 13, 14, 15, 16, 17, 18, 19, 20, 21, 22, 23, 24, 25, 26, 27, 28, 29, 30, 31, 32, 33, 34, 35, 36, 37, 38, 39, 40, 41, 42, 43, 44, 45, 46, 47, 48, 49, 50, 51, 52, 53, 54, 55, 56, 57, 58, 59, 60, 61, 62, 63, 64, 65, 66, 67] (by decide +kernel) (by decide +kernel)) (goodIn_sub (fun _ h => List.mem_cons_of_mem _ (List.mem_append_right _ h)) (by decide +kernel))
set_option maxRecDepth 20000 in
theorem gL_off_X1_off : GoodIn wsL_off (wsV RL 48 RX1 yX1_off wsX1_off) := goodIn_app (goodIn_of _ (by decide +kernel)) ggL_off_X1_off
theorem dL_off_0 : decode cL_off 0 = .ok (.aload 4, 2) := by decide +kernel
theorem dL_off_2 : decode cL_off 2 = .ok (.iconst 0, 1) := by decide +kernel
theorem dL_off_3 : decode cL_off 3 = .ok (.aload_n 0, 1) := by decide +kernel
theorem dL_off_4 : decode cL_off 4 = .ok (.iload_n 1, 1) := by decide +kernel
theorem dL_off_5 : decode cL_off 5 = .ok (.iload_n 2, 1) := by decide +kernel
theorem dL_off_6 : decode cL_off 6 = .ok (.iload_n 3, 1) := by decide +kernel
theorem dL_off_7 : decode cL_off 7 = .ok (.invokevirtual 48, 3) := by decide +kernel
theorem dL_off_10 : decode cL_off 10 = .ok (.i2l, 1) := by decide +kernel
theorem dL_off_11 : decode cL_off 11 = .ok (.lastore, 1) := by decide +kernel
theorem dL_off_12 : decode cL_off 12 = .ok (.goto 7, 3) := by decide +kernel
theorem dL_off_15 : decode cL_off 15 = .ok (.astore 5, 2) := by decide +kernel
theorem dL_off_17 : decode cL_off 17 = .ok (.iconst 1, 1) := by decide +kernel
theorem dL_off_18 : decode cL_off 18 = .ok (.ireturn, 1) := by decide +kernel
theorem dL_off_19 : decode cL_off 19 = .ok (.iconst 0, 1) := by decide +kernel
theorem dL_off_20 : decode cL_off 20 = .ok (.ireturn, 1) := by decide +kernel
set_option maxRecDepth 20000 in
theorem ggL_advise_X1_advise : GoodIn wsL_advise wsX1_advise := goodIn_ca (goodIn_r _ [6, 7, 8, 9, 10, 5, 11, 12, 13, 14, 15, 16, 17, 18, 19, 20, 21, 22, 23, 24, 25, 26, 27, 28, 29, 30, 31, 32, 33, 34, 35, 36, 37, 38, 39, 40, 41, 42, 43, 44, 45, 46, 47, 48, 49, 50, 51, 52, 53, 54, 55, 56, 57, 58, 59, 60, 61, 62, 63, 64, 65, 66, 67, 68, 69, 70, 71, 72, 73, 74, 75, 76, 77, 78, 79, 80, 81, 82, 83, 84, 85] (by decide +kernel) (by decide +kernel)) (goodIn_sub (fun _ h => List.mem_cons_of_mem _ (List.mem_append_right _ h)) (by decide +kernel))
set_option maxRecDepth 20000 in
theorem gL_advise_X1_advise : GoodIn wsL_advise (wsV RL 51 RX1 yX1_advise wsX1_advise) := goodIn_app (goodIn_of _ (by decide +kernel)) ggL_advise_X1_advise
theorem dL_advise_0 : decode cL_advise 0 = .ok (.aload 4, 2) := by decide +kernel
theorem dL_advise_2 : decode cL_advise 2 = .ok (.iconst 0, 1) := by decide +kernel
theorem dL_advise_3 : decode cL_advise 3 = .ok (.aload_n 0, 1) := by decide +kernel
theorem dL_advise_4 : decode cL_advise 4 = .ok (.iload_n 1, 1) := by decide +kernel
theorem dL_advise_5 : decode cL_advise 5 = .ok (.iload_n 2, 1) := by decide +kernel
theorem dL_advise_6 : decode cL_advise 6 = .ok (.iload_n 3, 1) := by decide +kernel
theorem dL_advise_7 : decode cL_advise 7 = .ok (.invokevirtual 51, 3) := by decide +kernel
theorem dL_advise_10 : decode cL_advise 10 = .ok (.i2l, 1) := by decide +kernel
theorem dL_advise_11 : decode cL_advise 11 = .ok (.lastore, 1) := by decide +kernel
theorem dL_advise_12 : decode cL_advise 12 = .ok (.goto 7, 3) := by decide +kernel
theorem dL_advise_15 : decode cL_advise 15 = .ok (.astore 5, 2) := by decide +kernel
theorem dL_advise_17 : decode cL_advise 17 = .ok (.iconst 1, 1) := by decide +kernel
theorem dL_advise_18 : decode cL_advise 18 = .ok (.ireturn, 1) := by decide +kernel
theorem dL_advise_19 : decode cL_advise 19 = .ok (.iconst 0, 1) := by decide +kernel
theorem dL_advise_20 : decode cL_advise 20 = .ok (.ireturn, 1) := by decide +kernel
set_option maxRecDepth 20000 in
theorem ggL_mends_X1_mends : GoodIn wsL_mends wsX1_mends := goodIn_ca (goodIn_r _ [6, 7, 8, 5, 9, 10, 11, 12, 13, 14, 15, 16, 17, 18, 19, 20, 21, 22, 23, 24, 25, 26, 27, 28, 29, 30, 31, 32, 33, 34, 35, 36, 37, 38, 39, 40, 41, 42, 43, 44, 45, 46, 47, 48, 49, 50, 51, 52, 53, 54] (by decide +kernel) (by decide +kernel)) (goodIn_sub (fun _ h => List.mem_cons_of_mem _ (List.mem_append_right _ h)) (by decide +kernel))
set_option maxRecDepth 20000 in
theorem gL_mends_X1_mends : GoodIn wsL_mends (wsV RL 54 RX1 yX1_mends wsX1_mends) := goodIn_app (goodIn_of _ (by decide +kernel)) ggL_mends_X1_mends
theorem dL_mends_0 : decode cL_mends 0 = .ok (.aload 4, 2) := by decide +kernel
theorem dL_mends_2 : decode cL_mends 2 = .ok (.iconst 0, 1) := by decide +kernel
theorem dL_mends_3 : decode cL_mends 3 = .ok (.aload_n 0, 1) := by decide +kernel
theorem dL_mends_4 : decode cL_mends 4 = .ok (.iload_n 1, 1) := by decide +kernel
theorem dL_mends_5 : decode cL_mends 5 = .ok (.iload_n 2, 1) := by decide +kernel
theorem dL_mends_6 : decode cL_mends 6 = .ok (.iload_n 3, 1) := by decide +kernel
theorem dL_mends_7 : decode cL_mends 7 = .ok (.invokevirtual 54, 3) := by decide +kernel
theorem dL_mends_10 : decode cL_mends 10 = .ok (.i2l, 1) := by decide +kernel
theorem dL_mends_11 : decode cL_mends 11 = .ok (.lastore, 1) := by decide +kernel
theorem dL_mends_12 : decode cL_mends 12 = .ok (.goto 7, 3) := by decide +kernel
theorem dL_mends_15 : decode cL_mends 15 = .ok (.astore 5, 2) := by decide +kernel
theorem dL_mends_17 : decode cL_mends 17 = .ok (.iconst 1, 1) := by decide +kernel
theorem dL_mends_18 : decode cL_mends 18 = .ok (.ireturn, 1) := by decide +kernel
theorem dL_mends_19 : decode cL_mends 19 = .ok (.iconst 0, 1) := by decide +kernel
theorem dL_mends_20 : decode cL_mends 20 = .ok (.ireturn, 1) := by decide +kernel
set_option maxRecDepth 20000 in
theorem ggL_gap_X1_gap : GoodIn wsL_gap wsX1_gap := goodIn_ca (goodIn_r _ [6, 7, 8, 5, 9, 10, 11, 12, 13, 14, 15, 16, 17, 18, 19, 20, 21, 22, 23, 24, 25, 26, 27, 28, 29, 30, 31, 32, 33, 34, 35, 36, 37, 38, 39, 40, 41, 42, 43, 44, 45, 46, 47, 48, 49, 50] (by decide +kernel) (by decide +kernel)) (goodIn_sub (fun _ h => List.mem_cons_of_mem _ (List.mem_append_right _ h)) (by decide +kernel))
set_option maxRecDepth 20000 in
theorem gL_gap_X1_gap : GoodIn wsL_gap (wsV RL 58 RX1 yX1_gap wsX1_gap) := goodIn_app (goodIn_of _ (by decide +kernel)) ggL_gap_X1_gap
theorem dL_gap_0 : decode cL_gap 0 = .ok (.aload_n 3, 1) := by decide +kernel
theorem dL_gap_1 : decode cL_gap 1 = .ok (.iconst 0, 1) := by decide +kernel
theorem dL_gap_2 : decode cL_gap 2 = .ok (.aload_n 0, 1) := by decide +kernel
theorem dL_gap_3 : decode cL_gap 3 = .ok (.iload_n 1, 1) := by decide +kernel
theorem dL_gap_4 : decode cL_gap 4 = .ok (.iload_n 2, 1) := by decide +kernel
theorem dL_gap_5 : decode cL_gap 5 = .ok (.invokevirtual 58, 3) := by decide +kernel
theorem dL_gap_8 : decode cL_gap 8 = .ok (.i2l, 1) := by decide +kernel
theorem dL_gap_9 : decode cL_gap 9 = .ok (.lastore, 1) := by decide +kernel
theorem dL_gap_10 : decode cL_gap 10 = .ok (.goto 7, 3) := by decide +kernel
theorem dL_gap_13 : decode cL_gap 13 = .ok (.astore 4, 2) := by decide +kernel
theorem dL_gap_15 : decode cL_gap 15 = .ok (.iconst 1, 1) := by decide +kernel
theorem dL_gap_16 : decode cL_gap 16 = .ok (.ireturn, 1) := by decide +kernel
theorem dL_gap_17 : decode cL_gap 17 = .ok (.iconst 0, 1) := by decide +kernel
theorem dL_gap_18 : decode cL_gap 18 = .ok (.ireturn, 1) := by decide +kernel
set_option maxRecDepth 20000 in
theorem ggL_pass_X1_pass : GoodIn wsL_pass wsX1_pass := goodIn_ca (goodIn_r _ [6, 7, 8, 9, 10, 11, 12, 5, 13, 14, 15, 16, 17, 18, 19, 20, 21, 22, 23, 24, 25, 26, 27, 28, 29, 30, 31, 32, 33, 34, 35, 36, 37, 38, 39, 40, 41, 42, 43, 44, 45, 46, 47, 48, 49, 50, 51, 52, 53, 54, 55, 56, 57, 58, 59, 60, 61, 62, 63, 64, 65, 66, 67, 68, 69, 70, 71, 72, 73, 74, 75] (by decide +kernel) (by decide +kernel)) (goodIn_sub (fun _ h => List.mem_cons_of_mem _ (List.mem_append_right _ h)) (by decide +kernel))
set_option maxRecDepth 20000 in
theorem gL_pass_X1_pass : GoodIn wsL_pass (wsV RL 61 RX1 yX1_pass wsX1_pass) := goodIn_app (goodIn_of _ (by decide +kernel)) ggL_pass_X1_pass
theorem dL_pass_0 : decode cL_pass 0 = .ok (.aload_n 2, 1) := by decide +kernel
theorem dL_pass_1 : decode cL_pass 1 = .ok (.iconst 0, 1) := by decide +kernel
theorem dL_pass_2 : decode cL_pass 2 = .ok (.aload_n 0, 1) := by decide +kernel
theorem dL_pass_3 : decode cL_pass 3 = .ok (.iload_n 1, 1) := by decide +kernel
theorem dL_pass_4 : decode cL_pass 4 = .ok (.invokevirtual 61, 3) := by decide +kernel
theorem dL_pass_7 : decode cL_pass 7 = .ok (.i2l, 1) := by decide +kernel
theorem dL_pass_8 : decode cL_pass 8 = .ok (.lastore, 1) := by decide +kernel
theorem dL_pass_9 : decode cL_pass 9 = .ok (.goto 6, 3) := by decide +kernel
theorem dL_pass_12 : decode cL_pass 12 = .ok (.astore_n 3, 1) := by decide +kernel
theorem dL_pass_13 : decode cL_pass 13 = .ok (.iconst 1, 1) := by decide +kernel
theorem dL_pass_14 : decode cL_pass 14 = .ok (.ireturn, 1) := by decide +kernel
theorem dL_pass_15 : decode cL_pass 15 = .ok (.iconst 0, 1) := by decide +kernel
theorem dL_pass_16 : decode cL_pass 16 = .ok (.ireturn, 1) := by decide +kernel
set_option maxRecDepth 20000 in
theorem ggL_loose_X1_loose : GoodIn wsL_loose wsX1_loose := goodIn_ca (goodIn_r _ [6, 7, 8, 9, 10, 11, 12, 13, 14, 15, 16, 17, 18, 5, 19, 20, 21, 22, 23, 24, 25, 26, 27, 28, 29, 30, 31, 32, 33, 34, 35, 36, 37, 38, 39, 40, 41, 42, 43, 44, 45, 46, 47, 48, 49, 50, 51, 52, 53, 54, 55, 56, 57, 58, 59, 60, 61, 62, 63, 64, 65, 66, 67, 68, 69, 70, 71, 72, 73, 74, 75, 76] (by decide +kernel) (by decide +kernel)) (goodIn_sub (fun _ h => List.mem_cons_of_mem _ (List.mem_append_right _ h)) (by decide +kernel))
set_option maxRecDepth 20000 in
theorem gL_loose_X1_loose : GoodIn wsL_loose (wsV RL 64 RX1 yX1_loose wsX1_loose) := goodIn_app (goodIn_of _ (by decide +kernel)) ggL_loose_X1_loose
theorem dL_loose_0 : decode cL_loose 0 = .ok (.aload_n 2, 1) := by decide +kernel
theorem dL_loose_1 : decode cL_loose 1 = .ok (.iconst 0, 1) := by decide +kernel
theorem dL_loose_2 : decode cL_loose 2 = .ok (.aload_n 0, 1) := by decide +kernel
theorem dL_loose_3 : decode cL_loose 3 = .ok (.iload_n 1, 1) := by decide +kernel
theorem dL_loose_4 : decode cL_loose 4 = .ok (.invokevirtual 64, 3) := by decide +kernel
theorem dL_loose_7 : decode cL_loose 7 = .ok (.i2l, 1) := by decide +kernel
theorem dL_loose_8 : decode cL_loose 8 = .ok (.lastore, 1) := by decide +kernel
theorem dL_loose_9 : decode cL_loose 9 = .ok (.goto 6, 3) := by decide +kernel
theorem dL_loose_12 : decode cL_loose 12 = .ok (.astore_n 3, 1) := by decide +kernel
theorem dL_loose_13 : decode cL_loose 13 = .ok (.iconst 1, 1) := by decide +kernel
theorem dL_loose_14 : decode cL_loose 14 = .ok (.ireturn, 1) := by decide +kernel
theorem dL_loose_15 : decode cL_loose 15 = .ok (.iconst 0, 1) := by decide +kernel
theorem dL_loose_16 : decode cL_loose 16 = .ok (.ireturn, 1) := by decide +kernel
set_option maxRecDepth 20000 in
theorem ggL_law_X1_init : GoodIn wsL_law wsX1_init := goodIn_r _ [9, 10, 11, 12, 13, 14, 15, 16, 17, 18, 19, 20, 21, 514, 515, 516, 517, 518, 519, 520, 521, 522] (by decide +kernel) (by decide +kernel)
set_option maxRecDepth 20000 in
theorem gL_law_X1_init : GoodIn wsL_law (wsX1_init) := ggL_law_X1_init
set_option maxRecDepth 20000 in
theorem ggL_law_X3_init : GoodIn wsL_law wsX3_init := goodIn_r _ [24, 25, 11, 12, 13, 26, 27, 28, 29, 30, 31, 32, 33, 34, 35, 36, 37, 38, 39, 40, 41, 42, 43, 44, 45, 523, 524, 525, 526, 527, 528, 529, 530, 531, 532, 533, 534, 535, 536, 537, 538, 539] (by decide +kernel) (by decide +kernel)
set_option maxRecDepth 20000 in
theorem gL_law_X3_init : GoodIn wsL_law (wsX3_init) := ggL_law_X3_init
set_option maxRecDepth 20000 in
theorem ggL_law_L_spread : GoodIn wsL_law wsL_spread := goodIn_ca (goodIn_ca (goodIn_r _ [49, 50, 51, 52, 53, 54, 2, 55, 56, 57, 15, 14, 58, 59, 60, 61, 62, 63, 64, 65, 66, 67, 68, 69, 70, 71, 72, 73, 74, 75, 76, 77, 514, 515, 516, 517, 518, 519, 520, 521, 522] (by decide +kernel) (by decide +kernel)) (goodIn_sub (fun _ h => List.mem_append_left _ (List.mem_append_left _ (List.mem_append_right _ h))) (by decide +kernel))) (goodIn_sub (fun _ h => List.mem_append_left _ (List.mem_append_right _ h)) (by decide +kernel))
set_option maxRecDepth 20000 in
theorem gL_law_L_spread : GoodIn wsL_law (va_wsS RL 71 yL_spread wsL_spread) := goodIn_app (goodIn_of _ (by decide +kernel)) ggL_law_L_spread
set_option maxRecDepth 20000 in
theorem ggL_law_X3_spread : GoodIn wsL_law wsX3_spread := goodIn_r _ [81, 82, 32, 39, 83, 84, 5, 85, 86, 87, 88, 89, 90, 91, 92, 523, 524, 525, 526, 527, 528, 529, 530, 531, 532, 533, 534, 535, 536, 537, 538, 539] (by decide +kernel) (by decide +kernel)
set_option maxRecDepth 20000 in
theorem gL_law_X3_spread : GoodIn wsL_law (wsV RL 76 RX3 yX3_spread wsX3_spread) := goodIn_app (goodIn_of _ (by decide +kernel)) ggL_law_X3_spread
set_option maxRecDepth 20000 in
theorem ggL_law_X3_thrown : GoodIn wsL_law wsX3_thrown := goodIn_r _ [96, 82, 523, 524, 525, 526, 527, 528, 529, 530, 531, 532, 533, 534, 535, 536] (by decide +kernel) (by decide +kernel)
set_option maxRecDepth 20000 in
theorem gL_law_X3_thrown : GoodIn wsL_law (wsV RL 77 RX3 yX3_thrown wsX3_thrown) := goodIn_app (goodIn_of _ (by decide +kernel)) ggL_law_X3_thrown
set_option maxRecDepth 20000 in
theorem ggL_law_L_setSun : GoodIn wsL_law wsL_setSun := goodIn_ca (goodIn_ca (goodIn_r _ [99, 50, 51, 100, 101, 102, 2, 103, 61, 62, 56, 57, 16, 66, 67, 68, 72, 73, 74, 75, 76, 77, 514, 515, 516, 517, 518, 519, 520, 521, 522] (by decide +kernel) (by decide +kernel)) (goodIn_sub (fun _ h => List.mem_append_left _ (List.mem_append_right _ h)) (by decide +kernel))) (goodIn_sub (fun _ h => List.mem_append_left _ (List.mem_append_left _ (List.mem_append_right _ h))) (by decide +kernel))
set_option maxRecDepth 20000 in
theorem gL_law_L_setSun : GoodIn wsL_law (va_wsS RL 81 yL_setSun wsL_setSun) := goodIn_app (goodIn_of _ (by decide +kernel)) ggL_law_L_setSun
set_option maxRecDepth 20000 in
theorem ggL_law_X3_setSun : GoodIn wsL_law wsX3_setSun := goodIn_r _ [107, 82, 33, 86, 87, 5, 88, 89, 90, 91, 92, 523, 524, 525, 526, 527, 528, 529, 530, 531, 532, 533, 534, 535, 536] (by decide +kernel) (by decide +kernel)
set_option maxRecDepth 20000 in
theorem gL_law_X3_setSun : GoodIn wsL_law (wsV RL 84 RX3 yX3_setSun wsX3_setSun) := goodIn_app (goodIn_of _ (by decide +kernel)) ggL_law_X3_setSun
set_option maxRecDepth 20000 in
theorem ggL_law_L_press : GoodIn wsL_law wsL_press := goodIn_ca (goodIn_ca (goodIn_ca (goodIn_r _ [110, 50, 51, 111, 112, 113, 114, 2, 115, 56, 57, 116, 117, 118, 18, 17, 119, 120, 58, 59, 60, 61, 62, 63, 64, 65, 66, 67, 68, 121, 122, 123, 124, 125, 126, 127, 69, 70, 71, 128, 129, 130, 131, 15, 14, 72, 73, 74, 132, 133, 134, 135, 11, 12, 136, 137, 138, 139, 140, 141, 142, 143, 144, 145, 146, 147, 148, 149, 150, 75, 76, 77, 514, 515, 516, 517, 518, 519, 520, 521, 522, 540, 541, 542, 543, 544, 545, 546, 547] (by decide +kernel) (by decide +kernel)) (goodIn_sub (fun _ h => List.mem_append_left _ (List.mem_append_left _ (List.mem_append_right _ h))) (by decide +kernel))) (goodIn_sub (fun _ h => List.mem_append_right _ h) (by decide +kernel))) (goodIn_sub (fun _ h => List.mem_append_left _ (List.mem_append_right _ h)) (by decide +kernel))
set_option maxRecDepth 20000 in
theorem gL_law_L_press : GoodIn wsL_law (va_wsS RL 85 yL_press wsL_press) := goodIn_app (goodIn_of _ (by decide +kernel)) ggL_law_L_press
set_option maxRecDepth 20000 in
theorem ggL_law_X3_press : GoodIn wsL_law wsX3_press := goodIn_r _ [154, 82, 155, 26, 27, 28, 29, 30, 83, 84, 5, 85, 86, 87, 88, 89, 90, 91, 92, 156, 157, 158, 159, 160, 161, 162, 39, 32, 163, 164, 165, 166, 523, 524, 525, 526, 527, 528, 529, 530, 531, 532, 533, 534, 535, 536, 537, 538, 539] (by decide +kernel) (by decide +kernel)
set_option maxRecDepth 20000 in
theorem gL_law_X3_press : GoodIn wsL_law (wsV RL 88 RX3 yX3_press wsX3_press) := goodIn_app (goodIn_of _ (by decide +kernel)) ggL_law_X3_press
set_option maxRecDepth 20000 in
theorem ggL_law_L_flip : GoodIn wsL_law wsL_flip := goodIn_ca (goodIn_ca (goodIn_r _ [169, 50, 111, 170, 171, 172, 2, 173, 61, 62, 116, 117, 14, 174, 146, 175, 176, 177, 178, 118, 18, 66, 67, 68, 179, 180, 181, 182, 147, 148, 149, 120, 150, 139, 136, 137, 70, 71, 72, 73, 74, 75, 76, 77, 183, 184, 185, 186, 187, 141, 140, 514, 515, 516, 517, 518, 519, 520, 521, 522, 540, 541, 542, 543, 544, 545, 546, 547] (by decide +kernel) (by decide +kernel)) (goodIn_sub (fun _ h => List.mem_append_left _ (List.mem_append_right _ h)) (by decide +kernel))) (goodIn_sub (fun _ h => List.mem_append_right _ h) (by decide +kernel))
set_option maxRecDepth 20000 in
theorem gL_law_L_flip : GoodIn wsL_law (va_wsS RL 89 yL_flip wsL_flip) := goodIn_app (goodIn_of _ (by decide +kernel)) ggL_law_L_flip
set_option maxRecDepth 20000 in
theorem ggL_law_X3_flip : GoodIn wsL_law wsX3_flip := goodIn_r _ [191, 82, 39, 29, 192, 193, 194, 5, 195, 155, 86, 87, 88, 89, 90, 91, 92, 196, 197, 198, 38, 199, 43, 45, 200, 201, 202, 203, 30, 204, 205, 206, 207, 28, 27, 26, 523, 524, 525, 526, 527, 528, 529, 530, 531, 532, 533, 534, 535, 536, 537, 538, 539] (by decide +kernel) (by decide +kernel)
set_option maxRecDepth 20000 in
theorem gL_law_X3_flip : GoodIn wsL_law (wsV RL 92 RX3 yX3_flip wsX3_flip) := goodIn_app (goodIn_of _ (by decide +kernel)) ggL_law_X3_flip
set_option maxRecDepth 20000 in
theorem ggL_law_L_turn : GoodIn wsL_law wsL_turn := goodIn_ca (goodIn_ca (goodIn_r _ [210, 50, 111, 211, 212, 213, 2, 214, 61, 62, 116, 117, 14, 215, 216, 146, 217, 175, 176, 177, 178, 118, 18, 66, 67, 68, 179, 180, 181, 182, 147, 148, 149, 120, 150, 139, 136, 137, 70, 71, 72, 73, 74, 124, 125, 126, 127, 63, 64, 65, 69, 128, 129, 130, 131, 15, 142, 143, 144, 145, 75, 76, 77, 514, 515, 516, 517, 518, 519, 520, 521, 522, 540, 541, 542, 543, 544, 545, 546, 547] (by decide +kernel) (by decide +kernel)) (goodIn_sub (fun _ h => List.mem_append_left _ (List.mem_append_right _ h)) (by decide +kernel))) (goodIn_sub (fun _ h => List.mem_append_right _ h) (by decide +kernel))
set_option maxRecDepth 20000 in
theorem gL_law_L_turn : GoodIn wsL_law (va_wsS RL 93 yL_turn wsL_turn) := goodIn_app (goodIn_of _ (by decide +kernel)) ggL_law_L_turn
set_option maxRecDepth 20000 in
theorem ggL_law_X3_turn : GoodIn wsL_law wsX3_turn := goodIn_r _ [221, 82, 39, 26, 27, 28, 192, 193, 194, 5, 195, 155, 86, 87, 88, 89, 90, 91, 92, 196, 197, 198, 38, 199, 43, 45, 159, 160, 161, 162, 32, 163, 164, 165, 166, 523, 524, 525, 526, 527, 528, 529, 530, 531, 532, 533, 534, 535, 536, 537, 538, 539] (by decide +kernel) (by decide +kernel)
set_option maxRecDepth 20000 in
theorem gL_law_X3_turn : GoodIn wsL_law (wsV RL 95 RX3 yX3_turn wsX3_turn) := goodIn_app (goodIn_of _ (by decide +kernel)) ggL_law_X3_turn
set_option maxRecDepth 20000 in
theorem ggL_law_L_take : GoodIn wsL_law wsL_take := goodIn_ca (goodIn_ca (goodIn_r _ [224, 50, 111, 225, 226, 227, 2, 228, 61, 62, 116, 117, 182, 14, 175, 176, 177, 178, 118, 18, 66, 67, 68, 179, 180, 181, 146, 147, 148, 149, 120, 150, 139, 136, 137, 70, 71, 72, 73, 74, 142, 143, 144, 145, 15, 75, 76, 77, 229, 230, 231, 232, 540, 541, 542, 543, 544, 545, 546, 547, 514, 515, 516, 517, 518, 519, 520, 521, 522] (by decide +kernel) (by decide +kernel)) (goodIn_sub (fun _ h => List.mem_append_left _ (List.mem_append_right _ h)) (by decide +kernel))) (goodIn_sub (fun _ h => List.mem_append_right _ h) (by decide +kernel))
set_option maxRecDepth 20000 in
theorem gL_law_L_take : GoodIn wsL_law (va_wsS RL 96 yL_take wsL_take) := goodIn_app (goodIn_of _ (by decide +kernel)) ggL_law_L_take
set_option maxRecDepth 20000 in
theorem ggL_law_X3_take : GoodIn wsL_law wsX3_take := goodIn_r _ [236, 82, 31, 39, 192, 193, 194, 5, 195, 155, 86, 87, 88, 89, 90, 91, 92, 196, 197, 198, 38, 199, 43, 45, 204, 205, 206, 207, 28, 27, 26, 163, 164, 165, 166, 32, 523, 524, 525, 526, 527, 528, 529, 530, 531, 532, 533, 534, 535, 536, 537, 538, 539] (by decide +kernel) (by decide +kernel)
set_option maxRecDepth 20000 in
theorem gL_law_X3_take : GoodIn wsL_law (wsV RL 98 RX3 yX3_take wsX3_take) := goodIn_app (goodIn_of _ (by decide +kernel)) ggL_law_X3_take
set_option maxRecDepth 20000 in
theorem ggL_law_L_cell : GoodIn wsL_law wsL_cell := goodIn_ca (goodIn_r _ [239, 50, 240, 241, 242, 2, 243, 61, 62, 58, 59, 60, 63, 64, 65, 66, 67, 68, 69, 70, 71, 244, 245, 246, 247, 14, 15, 72, 73, 74, 248, 249, 250, 251, 175, 176, 177, 178, 118, 18, 183, 184, 185, 120, 186, 187, 141, 140, 514, 515, 516, 517, 518, 519, 520, 521, 522, 540, 541, 542, 543, 544, 545, 546, 547] (by decide +kernel) (by decide +kernel)) (goodIn_sub (fun _ h => List.mem_append_left _ (List.mem_append_right _ h)) (by decide +kernel))
set_option maxRecDepth 20000 in
theorem gL_law_L_cell : GoodIn wsL_law (va_wsS RL 99 yL_cell wsL_cell) := goodIn_app (goodIn_of _ (by decide +kernel)) ggL_law_L_cell
set_option maxRecDepth 20000 in
theorem ggL_law_X3_cell : GoodIn wsL_law wsX3_cell := goodIn_r _ [255, 82, 83, 84, 5, 85, 86, 87, 88, 256, 257, 258, 259, 39, 32, 260, 261, 262, 263, 29, 89, 90, 91, 92, 523, 524, 525, 526, 527, 528, 529, 530, 531, 532, 533, 534, 535, 536, 537, 538, 539] (by decide +kernel) (by decide +kernel)
set_option maxRecDepth 20000 in
theorem gL_law_X3_cell : GoodIn wsL_law (wsV RL 102 RX3 yX3_cell wsX3_cell) := goodIn_app (goodIn_of _ (by decide +kernel)) ggL_law_X3_cell
set_option maxRecDepth 20000 in
theorem ggL_law_L_piece : GoodIn wsL_law wsL_piece := goodIn_ca (goodIn_r _ [266, 50, 267, 268, 269, 2, 270, 61, 62, 175, 176, 177, 178, 118, 18, 66, 67, 68, 271, 272, 273, 274, 215, 216, 146, 217, 14, 182, 183, 184, 185, 120, 186, 187, 141, 140, 275, 276, 277, 278, 179, 180, 181, 147, 148, 149, 150, 139, 136, 137, 70, 71, 72, 73, 74, 514, 515, 516, 517, 518, 519, 520, 521, 522, 540, 541, 542, 543, 544, 545, 546, 547] (by decide +kernel) (by decide +kernel)) (goodIn_sub (fun _ h => List.mem_append_left _ (List.mem_append_right _ h)) (by decide +kernel))
set_option maxRecDepth 20000 in
theorem gL_law_L_piece : GoodIn wsL_law (va_wsS RL 103 yL_piece wsL_piece) := goodIn_app (goodIn_of _ (by decide +kernel)) ggL_law_L_piece
set_option maxRecDepth 20000 in
theorem ggL_law_X3_piece : GoodIn wsL_law wsX3_piece := goodIn_r _ [282, 82, 192, 193, 194, 5, 195, 155, 86, 87, 88, 283, 284, 285, 286, 26, 27, 28, 29, 30, 39, 31, 196, 197, 198, 38, 199, 43, 45, 89, 90, 91, 92, 523, 524, 525, 526, 527, 528, 529, 530, 531, 532, 533, 534, 535, 536, 537, 538, 539] (by decide +kernel) (by decide +kernel)
set_option maxRecDepth 20000 in
theorem gL_law_X3_piece : GoodIn wsL_law (wsV RL 105 RX3 yX3_piece wsX3_piece) := goodIn_app (goodIn_of _ (by decide +kernel)) ggL_law_X3_piece
set_option maxRecDepth 20000 in
theorem ggL_law_L_count : GoodIn wsL_law wsL_count := goodIn_ca (goodIn_r _ [289, 50, 290, 291, 292, 2, 293, 61, 62, 66, 67, 68, 294, 295, 296, 297, 298, 118, 14, 15, 299, 300, 301, 302, 182, 175, 176, 177, 178, 18, 303, 304, 305, 306, 179, 180, 181, 146, 147, 148, 149, 120, 150, 139, 136, 137, 70, 71, 72, 73, 74, 307, 308, 309, 310, 311, 312, 313, 314, 315, 316, 317, 20, 318, 319, 320, 321, 21, 322, 323, 324, 325, 69, 63, 64, 65, 75, 76, 77, 514, 515, 516, 517, 518, 519, 520, 521, 522, 540, 541, 542, 543, 544, 545, 546, 547] (by decide +kernel) (by decide +kernel)) (goodIn_sub (fun _ h => List.mem_append_left _ (List.mem_append_right _ h)) (by decide +kernel))
set_option maxRecDepth 20000 in
theorem gL_law_L_count : GoodIn wsL_law (va_wsS RL 106 yL_count wsL_count) := goodIn_app (goodIn_of _ (by decide +kernel)) ggL_law_L_count
set_option maxRecDepth 20000 in
theorem ggL_law_X3_count : GoodIn wsL_law wsX3_count := goodIn_r _ [329, 82, 86, 87, 5, 88, 330, 331, 332, 333, 39, 155, 31, 334, 335, 336, 337, 196, 197, 198, 38, 199, 43, 45, 338, 339, 340, 341, 342, 343, 344, 345, 32, 346, 347, 348, 349, 35, 350, 351, 352, 353, 354, 355, 356, 357, 34, 358, 359, 360, 83, 84, 85, 89, 90, 91, 92, 523, 524, 525, 526, 527, 528, 529, 530, 531, 532, 533, 534, 535, 536, 537, 538, 539] (by decide +kernel) (by decide +kernel)
set_option maxRecDepth 20000 in
theorem gL_law_X3_count : GoodIn wsL_law (wsV RL 108 RX3 yX3_count wsX3_count) := goodIn_app (goodIn_of _ (by decide +kernel)) ggL_law_X3_count
set_option maxRecDepth 20000 in
theorem ggL_law_L_off : GoodIn wsL_law wsL_off := goodIn_ca (goodIn_r _ [363, 51, 364, 365, 366, 2, 367, 368, 369, 370, 56, 57, 66, 67, 68, 121, 122, 123, 371, 372, 373, 374, 375, 376, 377, 378, 69, 70, 71, 248, 249, 250, 251, 15, 72, 73, 74, 175, 176, 177, 178, 118, 18, 183, 184, 185, 120, 186, 187, 141, 140, 514, 515, 516, 517, 518, 519, 520, 521, 522, 540, 541, 542, 543, 544, 545, 546, 547] (by decide +kernel) (by decide +kernel)) (goodIn_sub (fun _ h => List.mem_append_left _ (List.mem_append_left _ (List.mem_append_right _ h))) (by decide +kernel))
set_option maxRecDepth 20000 in
theorem gL_law_L_off : GoodIn wsL_law (va_wsS RL 109 yL_off wsL_off) := goodIn_app (goodIn_of _ (by decide +kernel)) ggL_law_L_off
set_option maxRecDepth 20000 in
theorem ggL_law_X3_off : GoodIn wsL_law wsX3_off := goodIn_r _ [382, 82, 383, 384, 5, 385, 86, 87, 88, 156, 157, 158, 386, 387, 388, 389, 390, 391, 392, 393, 260, 261, 262, 263, 32, 29, 89, 90, 91, 92, 523, 524, 525, 526, 527, 528, 529, 530, 531, 532, 533, 534, 535, 536] (by decide +kernel) (by decide +kernel)
set_option maxRecDepth 20000 in
theorem gL_law_X3_off : GoodIn wsL_law (wsV RL 111 RX3 yX3_off wsX3_off) := goodIn_app (goodIn_of _ (by decide +kernel)) ggL_law_X3_off
set_option maxRecDepth 20000 in
theorem ggL_law_L_advise : GoodIn wsL_law wsL_advise := goodIn_ca (goodIn_r _ [396, 51, 397, 398, 399, 2, 400, 118, 14, 368, 369, 370, 56, 57, 66, 67, 68, 121, 122, 123, 371, 372, 373, 374, 375, 376, 377, 378, 69, 70, 71, 248, 249, 250, 251, 15, 72, 73, 74, 175, 176, 177, 178, 18, 183, 184, 185, 120, 186, 187, 141, 140, 179, 180, 181, 182, 146, 147, 148, 149, 150, 139, 136, 137, 401, 402, 403, 404, 174, 514, 515, 516, 517, 518, 519, 520, 521, 522, 540, 541, 542, 543, 544, 545, 546, 547] (by decide +kernel) (by decide +kernel)) (goodIn_sub (fun _ h => List.mem_append_left _ (List.mem_append_left _ (List.mem_append_right _ h))) (by decide +kernel))
set_option maxRecDepth 20000 in
theorem gL_law_L_advise : GoodIn wsL_law (va_wsS RL 112 yL_advise wsL_advise) := goodIn_app (goodIn_of _ (by decide +kernel)) ggL_law_L_advise
set_option maxRecDepth 20000 in
theorem ggL_law_X3_advise : GoodIn wsL_law wsX3_advise := goodIn_r _ [408, 82, 155, 39, 383, 384, 5, 385, 86, 87, 88, 156, 157, 158, 89, 90, 91, 92, 386, 387, 388, 389, 390, 391, 392, 393, 260, 261, 262, 263, 32, 29, 196, 197, 198, 38, 199, 43, 45, 200, 201, 202, 203, 30, 523, 524, 525, 526, 527, 528, 529, 530, 531, 532, 533, 534, 535, 536, 537, 538, 539] (by decide +kernel) (by decide +kernel)
set_option maxRecDepth 20000 in
theorem gL_law_X3_advise : GoodIn wsL_law (wsV RL 114 RX3 yX3_advise wsX3_advise) := goodIn_app (goodIn_of _ (by decide +kernel)) ggL_law_X3_advise
set_option maxRecDepth 20000 in
theorem ggL_law_L_mends : GoodIn wsL_law wsL_mends := goodIn_ca (goodIn_r _ [411, 50, 412, 413, 414, 2, 415, 58, 59, 60, 61, 62, 63, 64, 65, 66, 67, 68, 314, 315, 316, 317, 20, 318, 319, 320, 321, 21, 322, 323, 324, 325, 15, 69, 70, 71, 72, 73, 74, 75, 76, 77, 416, 417, 418, 419, 514, 515, 516, 517, 518, 519, 520, 521, 522] (by decide +kernel) (by decide +kernel)) (goodIn_sub (fun _ h => List.mem_append_left _ (List.mem_append_right _ h)) (by decide +kernel))
set_option maxRecDepth 20000 in
theorem gL_law_L_mends : GoodIn wsL_law (va_wsS RL 115 yL_mends wsL_mends) := goodIn_app (goodIn_of _ (by decide +kernel)) ggL_law_L_mends
set_option maxRecDepth 20000 in
theorem ggL_law_X3_mends : GoodIn wsL_law wsX3_mends := goodIn_r _ [423, 82, 32, 35, 83, 84, 5, 85, 86, 87, 88, 89, 90, 91, 92, 350, 351, 352, 353, 354, 355, 356, 357, 34, 358, 359, 360, 523, 524, 525, 526, 527, 528, 529, 530, 531, 532, 533, 534, 535, 536] (by decide +kernel) (by decide +kernel)
set_option maxRecDepth 20000 in
theorem gL_law_X3_mends : GoodIn wsL_law (wsV RL 118 RX3 yX3_mends wsX3_mends) := goodIn_app (goodIn_of _ (by decide +kernel)) ggL_law_X3_mends
set_option maxRecDepth 20000 in
theorem ggL_law_L_gap : GoodIn wsL_law wsL_gap := goodIn_ca (goodIn_r _ [426, 50, 427, 428, 429, 2, 430, 58, 59, 60, 61, 62, 63, 64, 65, 66, 67, 68, 314, 315, 316, 317, 20, 318, 319, 320, 321, 21, 322, 323, 324, 325, 15, 69, 70, 71, 72, 73, 74, 75, 76, 77, 514, 515, 516, 517, 518, 519, 520, 521, 522] (by decide +kernel) (by decide +kernel)) (goodIn_sub (fun _ h => List.mem_append_left _ (List.mem_append_right _ h)) (by decide +kernel))
set_option maxRecDepth 20000 in
theorem gL_law_L_gap : GoodIn wsL_law (va_wsS RL 119 yL_gap wsL_gap) := goodIn_app (goodIn_of _ (by decide +kernel)) ggL_law_L_gap
set_option maxRecDepth 20000 in
theorem ggL_law_X3_gap : GoodIn wsL_law wsX3_gap := goodIn_r _ [434, 82, 32, 83, 84, 5, 85, 86, 87, 88, 89, 90, 91, 92, 350, 351, 352, 353, 35, 354, 355, 356, 357, 34, 358, 359, 360, 523, 524, 525, 526, 527, 528, 529, 530, 531, 532, 533, 534, 535, 536] (by decide +kernel) (by decide +kernel)
set_option maxRecDepth 20000 in
theorem gL_law_X3_gap : GoodIn wsL_law (wsV RL 121 RX3 yX3_gap wsX3_gap) := goodIn_app (goodIn_of _ (by decide +kernel)) ggL_law_X3_gap
set_option maxRecDepth 20000 in
theorem ggL_law_L_pass : GoodIn wsL_law wsL_pass := goodIn_ca (goodIn_r _ [437, 51, 438, 439, 440, 2, 441, 56, 57, 14, 298, 66, 67, 68, 442, 443, 444, 445, 16, 15, 446, 447, 448, 449, 450, 451, 452, 453, 72, 73, 74, 75, 76, 77, 303, 304, 305, 306, 118, 175, 176, 177, 178, 18, 179, 180, 181, 182, 146, 147, 148, 149, 120, 150, 139, 136, 137, 70, 71, 514, 515, 516, 517, 518, 519, 520, 521, 522, 540, 541, 542, 543, 544, 545, 546, 547] (by decide +kernel) (by decide +kernel)) (goodIn_sub (fun _ h => List.mem_append_left _ (List.mem_append_left _ (List.mem_append_right _ h))) (by decide +kernel))
set_option maxRecDepth 20000 in
theorem gL_law_L_pass : GoodIn wsL_law (va_wsS RL 122 yL_pass wsL_pass) := goodIn_app (goodIn_of _ (by decide +kernel)) ggL_law_L_pass
set_option maxRecDepth 20000 in
theorem ggL_law_X3_pass : GoodIn wsL_law wsX3_pass := goodIn_r _ [457, 82, 39, 86, 87, 5, 88, 89, 90, 91, 92, 458, 459, 460, 38, 461, 43, 462, 45, 463, 447, 448, 449, 334, 335, 336, 337, 155, 196, 197, 198, 199, 523, 524, 525, 526, 527, 528, 529, 530, 531, 532, 533, 534, 535, 536, 537, 538, 539] (by decide +kernel) (by decide +kernel)
set_option maxRecDepth 20000 in
theorem gL_law_X3_pass : GoodIn wsL_law (wsV RL 124 RX3 yX3_pass wsX3_pass) := goodIn_app (goodIn_of _ (by decide +kernel)) ggL_law_X3_pass
set_option maxRecDepth 20000 in
theorem ggL_law_L_loose : GoodIn wsL_law wsL_loose := goodIn_ca (goodIn_r _ [466, 50, 467, 468, 469, 2, 470, 61, 62, 14, 19, 471, 472, 473, 474, 298, 175, 176, 177, 178, 118, 18, 66, 67, 68, 179, 180, 181, 182, 146, 147, 148, 149, 120, 150, 139, 136, 137, 70, 71, 72, 73, 74, 442, 443, 444, 445, 16, 15, 446, 447, 448, 449, 450, 451, 452, 453, 75, 76, 77, 514, 515, 516, 517, 518, 519, 520, 521, 522, 540, 541, 542, 543, 544, 545, 546, 547] (by decide +kernel) (by decide +kernel)) (goodIn_sub (fun _ h => List.mem_append_left _ (List.mem_append_right _ h)) (by decide +kernel))
set_option maxRecDepth 20000 in
theorem gL_law_L_loose : GoodIn wsL_law (va_wsS RL 125 yL_loose wsL_loose) := goodIn_app (goodIn_of _ (by decide +kernel)) ggL_law_L_loose
set_option maxRecDepth 20000 in
theorem ggL_law_X3_loose : GoodIn wsL_law wsX3_loose := goodIn_r _ [478, 82, 40, 39, 192, 193, 194, 5, 195, 155, 86, 87, 88, 89, 90, 91, 92, 479, 480, 481, 38, 482, 462, 45, 483, 472, 473, 474, 196, 197, 198, 199, 43, 458, 459, 460, 461, 463, 447, 448, 449, 523, 524, 525, 526, 527, 528, 529, 530, 531, 532, 533, 534, 535, 536, 537, 538, 539] (by decide +kernel) (by decide +kernel)
set_option maxRecDepth 20000 in
theorem gL_law_X3_loose : GoodIn wsL_law (wsV RL 127 RX3 yX3_loose wsX3_loose) := goodIn_app (goodIn_of _ (by decide +kernel)) ggL_law_X3_loose
set_option maxRecDepth 20000 in
theorem ggL_law_X1_dry : GoodIn wsL_law wsX1_dry := goodIn_r _ [487, 14, 19, 471, 472, 473, 474, 298, 307, 308, 2, 309, 442, 443, 444, 445, 16, 15, 446, 447, 448, 449, 450, 451, 452, 453, 72, 73, 74, 66, 67, 68, 75, 76, 77, 514, 515, 516, 517, 518, 519, 520, 521, 522] (by decide +kernel) (by decide +kernel)
set_option maxRecDepth 20000 in
theorem gL_law_X1_dry : GoodIn wsL_law (wsV RL 128 RX1 yX1_dry wsX1_dry) := goodIn_app (goodIn_of _ (by decide +kernel)) ggL_law_X1_dry
set_option maxRecDepth 20000 in
theorem ggL_law_X3_dry : GoodIn wsL_law wsX3_dry := goodIn_r _ [491, 82, 40, 39, 479, 480, 481, 38, 482, 462, 45, 483, 472, 473, 474, 338, 339, 340, 341, 458, 459, 460, 461, 43, 463, 447, 448, 449, 523, 524, 525, 526, 527, 528, 529, 530, 531, 532, 533, 534, 535, 536, 537, 538, 539] (by decide +kernel) (by decide +kernel)
set_option maxRecDepth 20000 in
theorem gL_law_X3_dry : GoodIn wsL_law (wsV RL 131 RX3 yX3_dry wsX3_dry) := goodIn_app (goodIn_of _ (by decide +kernel)) ggL_law_X3_dry
set_option maxRecDepth 20000 in
theorem ggL_law_X1_share : GoodIn wsL_law wsX1_share := goodIn_r _ [495, 15, 496, 307, 308, 2, 309, 514, 515, 516, 517, 518, 519, 520, 521, 522] (by decide +kernel) (by decide +kernel)
set_option maxRecDepth 20000 in
theorem gL_law_X1_share : GoodIn wsL_law (wsV RL 132 RX1 yX1_share wsX1_share) := goodIn_app (goodIn_of _ (by decide +kernel)) ggL_law_X1_share
set_option maxRecDepth 20000 in
theorem ggL_law_X3_share : GoodIn wsL_law wsX3_share := goodIn_r _ [500, 82, 501, 342, 343, 344, 5, 345, 32, 523, 524, 525, 526, 527, 528, 529, 530, 531, 532, 533, 534, 535, 536] (by decide +kernel) (by decide +kernel)
set_option maxRecDepth 20000 in
theorem gL_law_X3_share : GoodIn wsL_law (wsV RL 136 RX3 yX3_share wsX3_share) := goodIn_app (goodIn_of _ (by decide +kernel)) ggL_law_X3_share
set_option maxRecDepth 20000 in
theorem ggL_law_X1_digest : GoodIn wsL_law wsX1_digest := goodIn_r _ [505, 506, 507, 118, 16, 294, 295, 296, 2, 297, 298, 14, 15, 299, 300, 301, 302, 182, 175, 176, 177, 178, 18, 66, 67, 68, 303, 304, 305, 306, 179, 180, 181, 146, 147, 148, 149, 120, 150, 139, 136, 137, 70, 71, 72, 73, 74, 307, 308, 309, 310, 311, 312, 313, 314, 315, 316, 317, 20, 318, 319, 320, 321, 21, 322, 323, 324, 325, 69, 63, 64, 65, 75, 76, 77, 244, 245, 246, 247, 248, 249, 250, 251, 183, 184, 185, 186, 187, 141, 140, 271, 272, 273, 274, 215, 216, 217, 275, 276, 277, 278, 514, 515, 516, 517, 518, 519, 520, 521, 522, 540, 541, 542, 543, 544, 545, 546, 547] (by decide +kernel) (by decide +kernel)
set_option maxRecDepth 20000 in
theorem gL_law_X1_digest : GoodIn wsL_law (wsV RL 137 RX1 yX1_digest wsX1_digest) := goodIn_app (goodIn_of _ (by decide +kernel)) ggL_law_X1_digest
set_option maxRecDepth 20000 in
theorem ggL_law_X3_digest : GoodIn wsL_law wsX3_digest := goodIn_r _ [511, 82, 512, 513, 155, 33, 330, 331, 332, 5, 333, 39, 31, 334, 335, 336, 337, 196, 197, 198, 38, 199, 43, 45, 338, 339, 340, 341, 342, 343, 344, 345, 32, 346, 347, 348, 349, 35, 350, 351, 352, 353, 354, 355, 356, 357, 34, 358, 359, 360, 83, 84, 85, 86, 87, 88, 256, 257, 258, 259, 260, 261, 262, 263, 29, 283, 284, 285, 286, 26, 27, 28, 30, 523, 524, 525, 526, 527, 528, 529, 530, 531, 532, 533, 534, 535, 536, 537, 538, 539] (by decide +kernel) (by decide +kernel)
set_option maxRecDepth 20000 in
theorem gL_law_X3_digest : GoodIn wsL_law (wsV RL 141 RX3 yX3_digest wsX3_digest) := goodIn_app (goodIn_of _ (by decide +kernel)) ggL_law_X3_digest
end
section
theorem dL_law_0 : decode cL_law 0 = .ok (.new 8, 3) := by decide +kernel
theorem dL_law_3 : decode cL_law 3 = .ok (.dup, 1) := by decide +kernel
theorem dL_law_4 : decode cL_law 4 = .ok (.invokespecial 67, 3) := by decide +kernel
theorem dL_law_7 : decode cL_law 7 = .ok (.astore_n 1, 1) := by decide +kernel
theorem dL_law_8 : decode cL_law 8 = .ok (.new 68, 3) := by decide +kernel
theorem dL_law_11 : decode cL_law 11 = .ok (.dup, 1) := by decide +kernel
theorem dL_law_12 : decode cL_law 12 = .ok (.invokespecial 70, 3) := by decide +kernel
theorem dL_law_15 : decode cL_law 15 = .ok (.astore_n 2, 1) := by decide +kernel
theorem dL_law_16 : decode cL_law 16 = .ok (.iconst 1, 1) := by decide +kernel
theorem dL_law_17 : decode cL_law 17 = .ok (.newarray .long, 2) := by decide +kernel
theorem dL_law_19 : decode cL_law 19 = .ok (.astore_n 3, 1) := by decide +kernel
theorem dL_law_20 : decode cL_law 20 = .ok (.iconst 0, 1) := by decide +kernel
theorem dL_law_21 : decode cL_law 21 = .ok (.istore 4, 2) := by decide +kernel
theorem dL_law_23 : decode cL_law 23 = .ok (.iload 4, 2) := by decide +kernel
theorem dL_law_25 : decode cL_law 25 = .ok (.aload_n 0, 1) := by decide +kernel
theorem dL_law_26 : decode cL_law 26 = .ok (.arraylength, 1) := by decide +kernel
theorem dL_law_27 : decode cL_law 27 = .ok (.bipush 7, 2) := by decide +kernel
theorem dL_law_29 : decode cL_law 29 = .ok (.isub, 1) := by decide +kernel
theorem dL_law_30 : decode cL_law 30 = .ok (.if_icmp .gt 1281, 3) := by decide +kernel
theorem dL_law_33 : decode cL_law 33 = .ok (.aload_n 0, 1) := by decide +kernel
theorem dL_law_34 : decode cL_law 34 = .ok (.iload 4, 2) := by decide +kernel
theorem dL_law_36 : decode cL_law 36 = .ok (.iaload, 1) := by decide +kernel
theorem dL_law_37 : decode cL_law 37 = .ok (.bipush 31, 2) := by decide +kernel
theorem dL_law_39 : decode cL_law 39 = .ok (.iand, 1) := by decide +kernel
theorem dL_law_40 : decode cL_law 40 = .ok (.tableswitch 1265 0 17 #[88, 180, 248, 382, 438, 494, 557, 637, 705, 761, 841, 921, 1017, 1085, 1141, 1197, 1210, 1251], 88) := by decide +kernel
theorem dL_law_128 : decode cL_law 128 = .ok (.aload_n 1, 1) := by decide +kernel
theorem dL_law_129 : decode cL_law 129 = .ok (.aload_n 0, 1) := by decide +kernel
theorem dL_law_130 : decode cL_law 130 = .ok (.iload 4, 2) := by decide +kernel
theorem dL_law_132 : decode cL_law 132 = .ok (.iconst 1, 1) := by decide +kernel
theorem dL_law_133 : decode cL_law 133 = .ok (.iadd, 1) := by decide +kernel
theorem dL_law_134 : decode cL_law 134 = .ok (.iaload, 1) := by decide +kernel
theorem dL_law_135 : decode cL_law 135 = .ok (.aload_n 0, 1) := by decide +kernel
theorem dL_law_136 : decode cL_law 136 = .ok (.iload 4, 2) := by decide +kernel
theorem dL_law_138 : decode cL_law 138 = .ok (.iconst 2, 1) := by decide +kernel
theorem dL_law_139 : decode cL_law 139 = .ok (.iadd, 1) := by decide +kernel
theorem dL_law_140 : decode cL_law 140 = .ok (.iaload, 1) := by decide +kernel
theorem dL_law_141 : decode cL_law 141 = .ok (.aload_n 0, 1) := by decide +kernel
theorem dL_law_142 : decode cL_law 142 = .ok (.iload 4, 2) := by decide +kernel
theorem dL_law_144 : decode cL_law 144 = .ok (.iconst 3, 1) := by decide +kernel
theorem dL_law_145 : decode cL_law 145 = .ok (.iadd, 1) := by decide +kernel
theorem dL_law_146 : decode cL_law 146 = .ok (.iaload, 1) := by decide +kernel
theorem dL_law_147 : decode cL_law 147 = .ok (.aload_n 0, 1) := by decide +kernel
theorem dL_law_148 : decode cL_law 148 = .ok (.iload 4, 2) := by decide +kernel
theorem dL_law_150 : decode cL_law 150 = .ok (.iconst 4, 1) := by decide +kernel
theorem dL_law_151 : decode cL_law 151 = .ok (.iadd, 1) := by decide +kernel
theorem dL_law_152 : decode cL_law 152 = .ok (.iaload, 1) := by decide +kernel
theorem dL_law_153 : decode cL_law 153 = .ok (.aload_n 3, 1) := by decide +kernel
theorem dL_law_154 : decode cL_law 154 = .ok (.invokestatic 71, 3) := by decide +kernel
theorem dL_law_157 : decode cL_law 157 = .ok (.istore 5, 2) := by decide +kernel
theorem dL_law_159 : decode cL_law 159 = .ok (.aload_n 2, 1) := by decide +kernel
theorem dL_law_160 : decode cL_law 160 = .ok (.aload_n 0, 1) := by decide +kernel
theorem dL_law_161 : decode cL_law 161 = .ok (.iload 4, 2) := by decide +kernel
theorem dL_law_163 : decode cL_law 163 = .ok (.iconst 1, 1) := by decide +kernel
theorem dL_law_164 : decode cL_law 164 = .ok (.iadd, 1) := by decide +kernel
theorem dL_law_165 : decode cL_law 165 = .ok (.iaload, 1) := by decide +kernel
theorem dL_law_166 : decode cL_law 166 = .ok (.aload_n 0, 1) := by decide +kernel
theorem dL_law_167 : decode cL_law 167 = .ok (.iload 4, 2) := by decide +kernel
theorem dL_law_169 : decode cL_law 169 = .ok (.iconst 2, 1) := by decide +kernel
theorem dL_law_170 : decode cL_law 170 = .ok (.iadd, 1) := by decide +kernel
theorem dL_law_171 : decode cL_law 171 = .ok (.iaload, 1) := by decide +kernel
theorem dL_law_172 : decode cL_law 172 = .ok (.aload_n 0, 1) := by decide +kernel
theorem dL_law_173 : decode cL_law 173 = .ok (.iload 4, 2) := by decide +kernel
theorem dL_law_175 : decode cL_law 175 = .ok (.iconst 3, 1) := by decide +kernel
theorem dL_law_176 : decode cL_law 176 = .ok (.iadd, 1) := by decide +kernel
theorem dL_law_177 : decode cL_law 177 = .ok (.iaload, 1) := by decide +kernel
theorem dL_law_178 : decode cL_law 178 = .ok (.aload_n 0, 1) := by decide +kernel
theorem dL_law_179 : decode cL_law 179 = .ok (.iload 4, 2) := by decide +kernel
theorem dL_law_181 : decode cL_law 181 = .ok (.iconst 4, 1) := by decide +kernel
theorem dL_law_182 : decode cL_law 182 = .ok (.iadd, 1) := by decide +kernel
theorem dL_law_183 : decode cL_law 183 = .ok (.iaload, 1) := by decide +kernel
theorem dL_law_184 : decode cL_law 184 = .ok (.invokevirtual 76, 3) := by decide +kernel
theorem dL_law_187 : decode cL_law 187 = .ok (.istore 6, 2) := by decide +kernel
theorem dL_law_189 : decode cL_law 189 = .ok (.aload_n 2, 1) := by decide +kernel
theorem dL_law_190 : decode cL_law 190 = .ok (.invokevirtual 77, 3) := by decide +kernel
theorem dL_law_193 : decode cL_law 193 = .ok (.iload 5, 2) := by decide +kernel
theorem dL_law_195 : decode cL_law 195 = .ok (.if_icmp .eq 5, 3) := by decide +kernel
theorem dL_law_198 : decode cL_law 198 = .ok (.iconst 0, 1) := by decide +kernel
theorem dL_law_199 : decode cL_law 199 = .ok (.ireturn, 1) := by decide +kernel
theorem dL_law_200 : decode cL_law 200 = .ok (.iload 5, 2) := by decide +kernel
theorem dL_law_202 : decode cL_law 202 = .ok (.ifCond .ne 15, 3) := by decide +kernel
theorem dL_law_205 : decode cL_law 205 = .ok (.aload_n 3, 1) := by decide +kernel
theorem dL_law_206 : decode cL_law 206 = .ok (.iconst 0, 1) := by decide +kernel
theorem dL_law_207 : decode cL_law 207 = .ok (.laload, 1) := by decide +kernel
theorem dL_law_208 : decode cL_law 208 = .ok (.iload 6, 2) := by decide +kernel
theorem dL_law_210 : decode cL_law 210 = .ok (.i2l, 1) := by decide +kernel
theorem dL_law_211 : decode cL_law 211 = .ok (.lcmp, 1) := by decide +kernel
theorem dL_law_212 : decode cL_law 212 = .ok (.ifCond .eq 5, 3) := by decide +kernel
theorem dL_law_215 : decode cL_law 215 = .ok (.iconst 0, 1) := by decide +kernel
theorem dL_law_216 : decode cL_law 216 = .ok (.ireturn, 1) := by decide +kernel
theorem dL_law_217 : decode cL_law 217 = .ok (.goto 1088, 3) := by decide +kernel
theorem dL_law_220 : decode cL_law 220 = .ok (.aload_n 1, 1) := by decide +kernel
theorem dL_law_221 : decode cL_law 221 = .ok (.aload_n 0, 1) := by decide +kernel
theorem dL_law_222 : decode cL_law 222 = .ok (.iload 4, 2) := by decide +kernel
theorem dL_law_224 : decode cL_law 224 = .ok (.iconst 1, 1) := by decide +kernel
theorem dL_law_225 : decode cL_law 225 = .ok (.iadd, 1) := by decide +kernel
theorem dL_law_226 : decode cL_law 226 = .ok (.iaload, 1) := by decide +kernel
theorem dL_law_227 : decode cL_law 227 = .ok (.aload_n 0, 1) := by decide +kernel
theorem dL_law_228 : decode cL_law 228 = .ok (.iload 4, 2) := by decide +kernel
theorem dL_law_230 : decode cL_law 230 = .ok (.iconst 2, 1) := by decide +kernel
theorem dL_law_231 : decode cL_law 231 = .ok (.iadd, 1) := by decide +kernel
theorem dL_law_232 : decode cL_law 232 = .ok (.iaload, 1) := by decide +kernel
theorem dL_law_233 : decode cL_law 233 = .ok (.aload_n 3, 1) := by decide +kernel
theorem dL_law_234 : decode cL_law 234 = .ok (.invokestatic 81, 3) := by decide +kernel
theorem dL_law_237 : decode cL_law 237 = .ok (.istore 5, 2) := by decide +kernel
theorem dL_law_239 : decode cL_law 239 = .ok (.aload_n 2, 1) := by decide +kernel
theorem dL_law_240 : decode cL_law 240 = .ok (.aload_n 0, 1) := by decide +kernel
theorem dL_law_241 : decode cL_law 241 = .ok (.iload 4, 2) := by decide +kernel
theorem dL_law_243 : decode cL_law 243 = .ok (.iconst 1, 1) := by decide +kernel
theorem dL_law_244 : decode cL_law 244 = .ok (.iadd, 1) := by decide +kernel
theorem dL_law_245 : decode cL_law 245 = .ok (.iaload, 1) := by decide +kernel
theorem dL_law_246 : decode cL_law 246 = .ok (.aload_n 0, 1) := by decide +kernel
theorem dL_law_247 : decode cL_law 247 = .ok (.iload 4, 2) := by decide +kernel
theorem dL_law_249 : decode cL_law 249 = .ok (.iconst 2, 1) := by decide +kernel
theorem dL_law_250 : decode cL_law 250 = .ok (.iadd, 1) := by decide +kernel
theorem dL_law_251 : decode cL_law 251 = .ok (.iaload, 1) := by decide +kernel
theorem dL_law_252 : decode cL_law 252 = .ok (.invokevirtual 84, 3) := by decide +kernel
theorem dL_law_255 : decode cL_law 255 = .ok (.istore 6, 2) := by decide +kernel
theorem dL_law_257 : decode cL_law 257 = .ok (.aload_n 2, 1) := by decide +kernel
theorem dL_law_258 : decode cL_law 258 = .ok (.invokevirtual 77, 3) := by decide +kernel
theorem dL_law_261 : decode cL_law 261 = .ok (.iload 5, 2) := by decide +kernel
theorem dL_law_263 : decode cL_law 263 = .ok (.if_icmp .eq 5, 3) := by decide +kernel
theorem dL_law_266 : decode cL_law 266 = .ok (.iconst 0, 1) := by decide +kernel
theorem dL_law_267 : decode cL_law 267 = .ok (.ireturn, 1) := by decide +kernel
theorem dL_law_268 : decode cL_law 268 = .ok (.iload 5, 2) := by decide +kernel
theorem dL_law_270 : decode cL_law 270 = .ok (.ifCond .ne 15, 3) := by decide +kernel
theorem dL_law_273 : decode cL_law 273 = .ok (.aload_n 3, 1) := by decide +kernel
theorem dL_law_274 : decode cL_law 274 = .ok (.iconst 0, 1) := by decide +kernel
theorem dL_law_275 : decode cL_law 275 = .ok (.laload, 1) := by decide +kernel
theorem dL_law_276 : decode cL_law 276 = .ok (.iload 6, 2) := by decide +kernel
theorem dL_law_278 : decode cL_law 278 = .ok (.i2l, 1) := by decide +kernel
theorem dL_law_279 : decode cL_law 279 = .ok (.lcmp, 1) := by decide +kernel
theorem dL_law_280 : decode cL_law 280 = .ok (.ifCond .eq 5, 3) := by decide +kernel
theorem dL_law_283 : decode cL_law 283 = .ok (.iconst 0, 1) := by decide +kernel
theorem dL_law_284 : decode cL_law 284 = .ok (.ireturn, 1) := by decide +kernel
theorem dL_law_285 : decode cL_law 285 = .ok (.goto 1020, 3) := by decide +kernel
theorem dL_law_288 : decode cL_law 288 = .ok (.aload_n 1, 1) := by decide +kernel
theorem dL_law_289 : decode cL_law 289 = .ok (.aload_n 0, 1) := by decide +kernel
theorem dL_law_290 : decode cL_law 290 = .ok (.iload 4, 2) := by decide +kernel
theorem dL_law_292 : decode cL_law 292 = .ok (.iconst 1, 1) := by decide +kernel
theorem dL_law_293 : decode cL_law 293 = .ok (.iadd, 1) := by decide +kernel
theorem dL_law_294 : decode cL_law 294 = .ok (.iaload, 1) := by decide +kernel
theorem dL_law_295 : decode cL_law 295 = .ok (.aload_n 0, 1) := by decide +kernel
theorem dL_law_296 : decode cL_law 296 = .ok (.iload 4, 2) := by decide +kernel
theorem dL_law_298 : decode cL_law 298 = .ok (.iconst 2, 1) := by decide +kernel
theorem dL_law_299 : decode cL_law 299 = .ok (.iadd, 1) := by decide +kernel
theorem dL_law_300 : decode cL_law 300 = .ok (.iaload, 1) := by decide +kernel
theorem dL_law_301 : decode cL_law 301 = .ok (.aload_n 0, 1) := by decide +kernel
theorem dL_law_302 : decode cL_law 302 = .ok (.iload 4, 2) := by decide +kernel
theorem dL_law_304 : decode cL_law 304 = .ok (.iconst 3, 1) := by decide +kernel
theorem dL_law_305 : decode cL_law 305 = .ok (.iadd, 1) := by decide +kernel
theorem dL_law_306 : decode cL_law 306 = .ok (.iaload, 1) := by decide +kernel
theorem dL_law_307 : decode cL_law 307 = .ok (.aload_n 0, 1) := by decide +kernel
theorem dL_law_308 : decode cL_law 308 = .ok (.iload 4, 2) := by decide +kernel
theorem dL_law_310 : decode cL_law 310 = .ok (.iconst 4, 1) := by decide +kernel
theorem dL_law_311 : decode cL_law 311 = .ok (.iadd, 1) := by decide +kernel
theorem dL_law_312 : decode cL_law 312 = .ok (.iaload, 1) := by decide +kernel
theorem dL_law_313 : decode cL_law 313 = .ok (.ifCond .eq 7, 3) := by decide +kernel
theorem dL_law_316 : decode cL_law 316 = .ok (.iconst 1, 1) := by decide +kernel
theorem dL_law_317 : decode cL_law 317 = .ok (.goto 4, 3) := by decide +kernel
theorem dL_law_320 : decode cL_law 320 = .ok (.iconst 0, 1) := by decide +kernel
theorem dL_law_321 : decode cL_law 321 = .ok (.aload_n 0, 1) := by decide +kernel
theorem dL_law_322 : decode cL_law 322 = .ok (.iload 4, 2) := by decide +kernel
theorem dL_law_324 : decode cL_law 324 = .ok (.iconst 5, 1) := by decide +kernel
theorem dL_law_325 : decode cL_law 325 = .ok (.iadd, 1) := by decide +kernel
theorem dL_law_326 : decode cL_law 326 = .ok (.iaload, 1) := by decide +kernel
theorem dL_law_327 : decode cL_law 327 = .ok (.aload_n 0, 1) := by decide +kernel
theorem dL_law_328 : decode cL_law 328 = .ok (.iload 4, 2) := by decide +kernel
theorem dL_law_330 : decode cL_law 330 = .ok (.bipush 6, 2) := by decide +kernel
theorem dL_law_332 : decode cL_law 332 = .ok (.iadd, 1) := by decide +kernel
theorem dL_law_333 : decode cL_law 333 = .ok (.iaload, 1) := by decide +kernel
theorem dL_law_334 : decode cL_law 334 = .ok (.aload_n 3, 1) := by decide +kernel
theorem dL_law_335 : decode cL_law 335 = .ok (.invokestatic 85, 3) := by decide +kernel
theorem dL_law_338 : decode cL_law 338 = .ok (.istore 5, 2) := by decide +kernel
theorem dL_law_340 : decode cL_law 340 = .ok (.aload_n 2, 1) := by decide +kernel
theorem dL_law_341 : decode cL_law 341 = .ok (.aload_n 0, 1) := by decide +kernel
theorem dL_law_342 : decode cL_law 342 = .ok (.iload 4, 2) := by decide +kernel
theorem dL_law_344 : decode cL_law 344 = .ok (.iconst 1, 1) := by decide +kernel
theorem dL_law_345 : decode cL_law 345 = .ok (.iadd, 1) := by decide +kernel
theorem dL_law_346 : decode cL_law 346 = .ok (.iaload, 1) := by decide +kernel
theorem dL_law_347 : decode cL_law 347 = .ok (.aload_n 0, 1) := by decide +kernel
theorem dL_law_348 : decode cL_law 348 = .ok (.iload 4, 2) := by decide +kernel
theorem dL_law_350 : decode cL_law 350 = .ok (.iconst 2, 1) := by decide +kernel
theorem dL_law_351 : decode cL_law 351 = .ok (.iadd, 1) := by decide +kernel
theorem dL_law_352 : decode cL_law 352 = .ok (.iaload, 1) := by decide +kernel
theorem dL_law_353 : decode cL_law 353 = .ok (.aload_n 0, 1) := by decide +kernel
theorem dL_law_354 : decode cL_law 354 = .ok (.iload 4, 2) := by decide +kernel
theorem dL_law_356 : decode cL_law 356 = .ok (.iconst 3, 1) := by decide +kernel
theorem dL_law_357 : decode cL_law 357 = .ok (.iadd, 1) := by decide +kernel
theorem dL_law_358 : decode cL_law 358 = .ok (.iaload, 1) := by decide +kernel
theorem dL_law_359 : decode cL_law 359 = .ok (.aload_n 0, 1) := by decide +kernel
theorem dL_law_360 : decode cL_law 360 = .ok (.iload 4, 2) := by decide +kernel
theorem dL_law_362 : decode cL_law 362 = .ok (.iconst 4, 1) := by decide +kernel
theorem dL_law_363 : decode cL_law 363 = .ok (.iadd, 1) := by decide +kernel
theorem dL_law_364 : decode cL_law 364 = .ok (.iaload, 1) := by decide +kernel
theorem dL_law_365 : decode cL_law 365 = .ok (.ifCond .eq 7, 3) := by decide +kernel
theorem dL_law_368 : decode cL_law 368 = .ok (.iconst 1, 1) := by decide +kernel
theorem dL_law_369 : decode cL_law 369 = .ok (.goto 4, 3) := by decide +kernel
theorem dL_law_372 : decode cL_law 372 = .ok (.iconst 0, 1) := by decide +kernel
theorem dL_law_373 : decode cL_law 373 = .ok (.aload_n 0, 1) := by decide +kernel
theorem dL_law_374 : decode cL_law 374 = .ok (.iload 4, 2) := by decide +kernel
theorem dL_law_376 : decode cL_law 376 = .ok (.iconst 5, 1) := by decide +kernel
theorem dL_law_377 : decode cL_law 377 = .ok (.iadd, 1) := by decide +kernel
theorem dL_law_378 : decode cL_law 378 = .ok (.iaload, 1) := by decide +kernel
theorem dL_law_379 : decode cL_law 379 = .ok (.aload_n 0, 1) := by decide +kernel
theorem dL_law_380 : decode cL_law 380 = .ok (.iload 4, 2) := by decide +kernel
theorem dL_law_382 : decode cL_law 382 = .ok (.bipush 6, 2) := by decide +kernel
theorem dL_law_384 : decode cL_law 384 = .ok (.iadd, 1) := by decide +kernel
theorem dL_law_385 : decode cL_law 385 = .ok (.iaload, 1) := by decide +kernel
theorem dL_law_386 : decode cL_law 386 = .ok (.invokevirtual 88, 3) := by decide +kernel
theorem dL_law_389 : decode cL_law 389 = .ok (.istore 6, 2) := by decide +kernel
theorem dL_law_391 : decode cL_law 391 = .ok (.aload_n 2, 1) := by decide +kernel
theorem dL_law_392 : decode cL_law 392 = .ok (.invokevirtual 77, 3) := by decide +kernel
theorem dL_law_395 : decode cL_law 395 = .ok (.iload 5, 2) := by decide +kernel
theorem dL_law_397 : decode cL_law 397 = .ok (.if_icmp .eq 5, 3) := by decide +kernel
theorem dL_law_400 : decode cL_law 400 = .ok (.iconst 0, 1) := by decide +kernel
theorem dL_law_401 : decode cL_law 401 = .ok (.ireturn, 1) := by decide +kernel
theorem dL_law_402 : decode cL_law 402 = .ok (.iload 5, 2) := by decide +kernel
theorem dL_law_404 : decode cL_law 404 = .ok (.ifCond .ne 15, 3) := by decide +kernel
theorem dL_law_407 : decode cL_law 407 = .ok (.aload_n 3, 1) := by decide +kernel
theorem dL_law_408 : decode cL_law 408 = .ok (.iconst 0, 1) := by decide +kernel
theorem dL_law_409 : decode cL_law 409 = .ok (.laload, 1) := by decide +kernel
theorem dL_law_410 : decode cL_law 410 = .ok (.iload 6, 2) := by decide +kernel
theorem dL_law_412 : decode cL_law 412 = .ok (.i2l, 1) := by decide +kernel
theorem dL_law_413 : decode cL_law 413 = .ok (.lcmp, 1) := by decide +kernel
theorem dL_law_414 : decode cL_law 414 = .ok (.ifCond .eq 5, 3) := by decide +kernel
theorem dL_law_417 : decode cL_law 417 = .ok (.iconst 0, 1) := by decide +kernel
theorem dL_law_418 : decode cL_law 418 = .ok (.ireturn, 1) := by decide +kernel
theorem dL_law_419 : decode cL_law 419 = .ok (.goto 886, 3) := by decide +kernel
theorem dL_law_422 : decode cL_law 422 = .ok (.aload_n 1, 1) := by decide +kernel
theorem dL_law_423 : decode cL_law 423 = .ok (.aload_n 0, 1) := by decide +kernel
theorem dL_law_424 : decode cL_law 424 = .ok (.iload 4, 2) := by decide +kernel
theorem dL_law_426 : decode cL_law 426 = .ok (.iconst 1, 1) := by decide +kernel
theorem dL_law_427 : decode cL_law 427 = .ok (.iadd, 1) := by decide +kernel
theorem dL_law_428 : decode cL_law 428 = .ok (.iaload, 1) := by decide +kernel
theorem dL_law_429 : decode cL_law 429 = .ok (.aload_n 3, 1) := by decide +kernel
theorem dL_law_430 : decode cL_law 430 = .ok (.invokestatic 89, 3) := by decide +kernel
theorem dL_law_433 : decode cL_law 433 = .ok (.istore 5, 2) := by decide +kernel
theorem dL_law_435 : decode cL_law 435 = .ok (.aload_n 2, 1) := by decide +kernel
theorem dL_law_436 : decode cL_law 436 = .ok (.aload_n 0, 1) := by decide +kernel
theorem dL_law_437 : decode cL_law 437 = .ok (.iload 4, 2) := by decide +kernel
theorem dL_law_439 : decode cL_law 439 = .ok (.iconst 1, 1) := by decide +kernel
theorem dL_law_440 : decode cL_law 440 = .ok (.iadd, 1) := by decide +kernel
theorem dL_law_441 : decode cL_law 441 = .ok (.iaload, 1) := by decide +kernel
theorem dL_law_442 : decode cL_law 442 = .ok (.invokevirtual 92, 3) := by decide +kernel
theorem dL_law_445 : decode cL_law 445 = .ok (.istore 6, 2) := by decide +kernel
theorem dL_law_447 : decode cL_law 447 = .ok (.aload_n 2, 1) := by decide +kernel
theorem dL_law_448 : decode cL_law 448 = .ok (.invokevirtual 77, 3) := by decide +kernel
theorem dL_law_451 : decode cL_law 451 = .ok (.iload 5, 2) := by decide +kernel
theorem dL_law_453 : decode cL_law 453 = .ok (.if_icmp .eq 5, 3) := by decide +kernel
theorem dL_law_456 : decode cL_law 456 = .ok (.iconst 0, 1) := by decide +kernel
theorem dL_law_457 : decode cL_law 457 = .ok (.ireturn, 1) := by decide +kernel
theorem dL_law_458 : decode cL_law 458 = .ok (.iload 5, 2) := by decide +kernel
theorem dL_law_460 : decode cL_law 460 = .ok (.ifCond .ne 15, 3) := by decide +kernel
theorem dL_law_463 : decode cL_law 463 = .ok (.aload_n 3, 1) := by decide +kernel
theorem dL_law_464 : decode cL_law 464 = .ok (.iconst 0, 1) := by decide +kernel
theorem dL_law_465 : decode cL_law 465 = .ok (.laload, 1) := by decide +kernel
theorem dL_law_466 : decode cL_law 466 = .ok (.iload 6, 2) := by decide +kernel
theorem dL_law_468 : decode cL_law 468 = .ok (.i2l, 1) := by decide +kernel
theorem dL_law_469 : decode cL_law 469 = .ok (.lcmp, 1) := by decide +kernel
theorem dL_law_470 : decode cL_law 470 = .ok (.ifCond .eq 5, 3) := by decide +kernel
theorem dL_law_473 : decode cL_law 473 = .ok (.iconst 0, 1) := by decide +kernel
theorem dL_law_474 : decode cL_law 474 = .ok (.ireturn, 1) := by decide +kernel
theorem dL_law_475 : decode cL_law 475 = .ok (.goto 830, 3) := by decide +kernel
theorem dL_law_478 : decode cL_law 478 = .ok (.aload_n 1, 1) := by decide +kernel
theorem dL_law_479 : decode cL_law 479 = .ok (.aload_n 0, 1) := by decide +kernel
theorem dL_law_480 : decode cL_law 480 = .ok (.iload 4, 2) := by decide +kernel
theorem dL_law_482 : decode cL_law 482 = .ok (.iconst 1, 1) := by decide +kernel
theorem dL_law_483 : decode cL_law 483 = .ok (.iadd, 1) := by decide +kernel
theorem dL_law_484 : decode cL_law 484 = .ok (.iaload, 1) := by decide +kernel
theorem dL_law_485 : decode cL_law 485 = .ok (.aload_n 3, 1) := by decide +kernel
theorem dL_law_486 : decode cL_law 486 = .ok (.invokestatic 93, 3) := by decide +kernel
theorem dL_law_489 : decode cL_law 489 = .ok (.istore 5, 2) := by decide +kernel
theorem dL_law_491 : decode cL_law 491 = .ok (.aload_n 2, 1) := by decide +kernel
theorem dL_law_492 : decode cL_law 492 = .ok (.aload_n 0, 1) := by decide +kernel
theorem dL_law_493 : decode cL_law 493 = .ok (.iload 4, 2) := by decide +kernel
theorem dL_law_495 : decode cL_law 495 = .ok (.iconst 1, 1) := by decide +kernel
theorem dL_law_496 : decode cL_law 496 = .ok (.iadd, 1) := by decide +kernel
theorem dL_law_497 : decode cL_law 497 = .ok (.iaload, 1) := by decide +kernel
theorem dL_law_498 : decode cL_law 498 = .ok (.invokevirtual 95, 3) := by decide +kernel
theorem dL_law_501 : decode cL_law 501 = .ok (.istore 6, 2) := by decide +kernel
theorem dL_law_503 : decode cL_law 503 = .ok (.aload_n 2, 1) := by decide +kernel
theorem dL_law_504 : decode cL_law 504 = .ok (.invokevirtual 77, 3) := by decide +kernel
theorem dL_law_507 : decode cL_law 507 = .ok (.iload 5, 2) := by decide +kernel
theorem dL_law_509 : decode cL_law 509 = .ok (.if_icmp .eq 5, 3) := by decide +kernel
theorem dL_law_512 : decode cL_law 512 = .ok (.iconst 0, 1) := by decide +kernel
theorem dL_law_513 : decode cL_law 513 = .ok (.ireturn, 1) := by decide +kernel
theorem dL_law_514 : decode cL_law 514 = .ok (.iload 5, 2) := by decide +kernel
theorem dL_law_516 : decode cL_law 516 = .ok (.ifCond .ne 15, 3) := by decide +kernel
theorem dL_law_519 : decode cL_law 519 = .ok (.aload_n 3, 1) := by decide +kernel
theorem dL_law_520 : decode cL_law 520 = .ok (.iconst 0, 1) := by decide +kernel
theorem dL_law_521 : decode cL_law 521 = .ok (.laload, 1) := by decide +kernel
theorem dL_law_522 : decode cL_law 522 = .ok (.iload 6, 2) := by decide +kernel
theorem dL_law_524 : decode cL_law 524 = .ok (.i2l, 1) := by decide +kernel
theorem dL_law_525 : decode cL_law 525 = .ok (.lcmp, 1) := by decide +kernel
theorem dL_law_526 : decode cL_law 526 = .ok (.ifCond .eq 5, 3) := by decide +kernel
theorem dL_law_529 : decode cL_law 529 = .ok (.iconst 0, 1) := by decide +kernel
theorem dL_law_530 : decode cL_law 530 = .ok (.ireturn, 1) := by decide +kernel
theorem dL_law_531 : decode cL_law 531 = .ok (.goto 774, 3) := by decide +kernel
theorem dL_law_534 : decode cL_law 534 = .ok (.aload_n 1, 1) := by decide +kernel
theorem dL_law_535 : decode cL_law 535 = .ok (.aload_n 0, 1) := by decide +kernel
theorem dL_law_536 : decode cL_law 536 = .ok (.iload 4, 2) := by decide +kernel
theorem dL_law_538 : decode cL_law 538 = .ok (.iconst 1, 1) := by decide +kernel
theorem dL_law_539 : decode cL_law 539 = .ok (.iadd, 1) := by decide +kernel
theorem dL_law_540 : decode cL_law 540 = .ok (.iaload, 1) := by decide +kernel
theorem dL_law_541 : decode cL_law 541 = .ok (.aload_n 3, 1) := by decide +kernel
theorem dL_law_542 : decode cL_law 542 = .ok (.invokestatic 96, 3) := by decide +kernel
theorem dL_law_545 : decode cL_law 545 = .ok (.istore 5, 2) := by decide +kernel
theorem dL_law_547 : decode cL_law 547 = .ok (.aload_n 2, 1) := by decide +kernel
theorem dL_law_548 : decode cL_law 548 = .ok (.aload_n 0, 1) := by decide +kernel
theorem dL_law_549 : decode cL_law 549 = .ok (.iload 4, 2) := by decide +kernel
theorem dL_law_551 : decode cL_law 551 = .ok (.iconst 1, 1) := by decide +kernel
theorem dL_law_552 : decode cL_law 552 = .ok (.iadd, 1) := by decide +kernel
theorem dL_law_553 : decode cL_law 553 = .ok (.iaload, 1) := by decide +kernel
theorem dL_law_554 : decode cL_law 554 = .ok (.invokevirtual 98, 3) := by decide +kernel
theorem dL_law_557 : decode cL_law 557 = .ok (.istore 6, 2) := by decide +kernel
theorem dL_law_559 : decode cL_law 559 = .ok (.aload_n 2, 1) := by decide +kernel
theorem dL_law_560 : decode cL_law 560 = .ok (.invokevirtual 77, 3) := by decide +kernel
theorem dL_law_563 : decode cL_law 563 = .ok (.iload 5, 2) := by decide +kernel
theorem dL_law_565 : decode cL_law 565 = .ok (.if_icmp .eq 5, 3) := by decide +kernel
theorem dL_law_568 : decode cL_law 568 = .ok (.iconst 0, 1) := by decide +kernel
theorem dL_law_569 : decode cL_law 569 = .ok (.ireturn, 1) := by decide +kernel
theorem dL_law_570 : decode cL_law 570 = .ok (.iload 5, 2) := by decide +kernel
theorem dL_law_572 : decode cL_law 572 = .ok (.ifCond .ne 22, 3) := by decide +kernel
theorem dL_law_575 : decode cL_law 575 = .ok (.aload_n 3, 1) := by decide +kernel
theorem dL_law_576 : decode cL_law 576 = .ok (.iconst 0, 1) := by decide +kernel
theorem dL_law_577 : decode cL_law 577 = .ok (.laload, 1) := by decide +kernel
theorem dL_law_578 : decode cL_law 578 = .ok (.iload 6, 2) := by decide +kernel
theorem dL_law_580 : decode cL_law 580 = .ok (.ifCond .eq 7, 3) := by decide +kernel
theorem dL_law_583 : decode cL_law 583 = .ok (.lconst 1, 1) := by decide +kernel
theorem dL_law_584 : decode cL_law 584 = .ok (.goto 4, 3) := by decide +kernel
theorem dL_law_587 : decode cL_law 587 = .ok (.lconst 0, 1) := by decide +kernel
theorem dL_law_588 : decode cL_law 588 = .ok (.lcmp, 1) := by decide +kernel
theorem dL_law_589 : decode cL_law 589 = .ok (.ifCond .eq 5, 3) := by decide +kernel
theorem dL_law_592 : decode cL_law 592 = .ok (.iconst 0, 1) := by decide +kernel
theorem dL_law_593 : decode cL_law 593 = .ok (.ireturn, 1) := by decide +kernel
theorem dL_law_594 : decode cL_law 594 = .ok (.goto 711, 3) := by decide +kernel
theorem dL_law_597 : decode cL_law 597 = .ok (.aload_n 1, 1) := by decide +kernel
theorem dL_law_598 : decode cL_law 598 = .ok (.aload_n 0, 1) := by decide +kernel
theorem dL_law_599 : decode cL_law 599 = .ok (.iload 4, 2) := by decide +kernel
theorem dL_law_601 : decode cL_law 601 = .ok (.iconst 1, 1) := by decide +kernel
theorem dL_law_602 : decode cL_law 602 = .ok (.iadd, 1) := by decide +kernel
theorem dL_law_603 : decode cL_law 603 = .ok (.iaload, 1) := by decide +kernel
theorem dL_law_604 : decode cL_law 604 = .ok (.aload_n 0, 1) := by decide +kernel
theorem dL_law_605 : decode cL_law 605 = .ok (.iload 4, 2) := by decide +kernel
theorem dL_law_607 : decode cL_law 607 = .ok (.iconst 2, 1) := by decide +kernel
theorem dL_law_608 : decode cL_law 608 = .ok (.iadd, 1) := by decide +kernel
theorem dL_law_609 : decode cL_law 609 = .ok (.iaload, 1) := by decide +kernel
theorem dL_law_610 : decode cL_law 610 = .ok (.aload_n 0, 1) := by decide +kernel
theorem dL_law_611 : decode cL_law 611 = .ok (.iload 4, 2) := by decide +kernel
theorem dL_law_613 : decode cL_law 613 = .ok (.iconst 3, 1) := by decide +kernel
theorem dL_law_614 : decode cL_law 614 = .ok (.iadd, 1) := by decide +kernel
theorem dL_law_615 : decode cL_law 615 = .ok (.iaload, 1) := by decide +kernel
theorem dL_law_616 : decode cL_law 616 = .ok (.aload_n 3, 1) := by decide +kernel
theorem dL_law_617 : decode cL_law 617 = .ok (.invokestatic 99, 3) := by decide +kernel
theorem dL_law_620 : decode cL_law 620 = .ok (.istore 5, 2) := by decide +kernel
theorem dL_law_622 : decode cL_law 622 = .ok (.aload_n 2, 1) := by decide +kernel
theorem dL_law_623 : decode cL_law 623 = .ok (.aload_n 0, 1) := by decide +kernel
theorem dL_law_624 : decode cL_law 624 = .ok (.iload 4, 2) := by decide +kernel
theorem dL_law_626 : decode cL_law 626 = .ok (.iconst 1, 1) := by decide +kernel
theorem dL_law_627 : decode cL_law 627 = .ok (.iadd, 1) := by decide +kernel
theorem dL_law_628 : decode cL_law 628 = .ok (.iaload, 1) := by decide +kernel
theorem dL_law_629 : decode cL_law 629 = .ok (.aload_n 0, 1) := by decide +kernel
theorem dL_law_630 : decode cL_law 630 = .ok (.iload 4, 2) := by decide +kernel
theorem dL_law_632 : decode cL_law 632 = .ok (.iconst 2, 1) := by decide +kernel
theorem dL_law_633 : decode cL_law 633 = .ok (.iadd, 1) := by decide +kernel
theorem dL_law_634 : decode cL_law 634 = .ok (.iaload, 1) := by decide +kernel
theorem dL_law_635 : decode cL_law 635 = .ok (.aload_n 0, 1) := by decide +kernel
theorem dL_law_636 : decode cL_law 636 = .ok (.iload 4, 2) := by decide +kernel
theorem dL_law_638 : decode cL_law 638 = .ok (.iconst 3, 1) := by decide +kernel
theorem dL_law_639 : decode cL_law 639 = .ok (.iadd, 1) := by decide +kernel
theorem dL_law_640 : decode cL_law 640 = .ok (.iaload, 1) := by decide +kernel
theorem dL_law_641 : decode cL_law 641 = .ok (.invokevirtual 102, 3) := by decide +kernel
theorem dL_law_644 : decode cL_law 644 = .ok (.istore 6, 2) := by decide +kernel
theorem dL_law_646 : decode cL_law 646 = .ok (.aload_n 2, 1) := by decide +kernel
theorem dL_law_647 : decode cL_law 647 = .ok (.invokevirtual 77, 3) := by decide +kernel
theorem dL_law_650 : decode cL_law 650 = .ok (.iload 5, 2) := by decide +kernel
theorem dL_law_652 : decode cL_law 652 = .ok (.if_icmp .eq 5, 3) := by decide +kernel
theorem dL_law_655 : decode cL_law 655 = .ok (.iconst 0, 1) := by decide +kernel
theorem dL_law_656 : decode cL_law 656 = .ok (.ireturn, 1) := by decide +kernel
theorem dL_law_657 : decode cL_law 657 = .ok (.iload 5, 2) := by decide +kernel
theorem dL_law_659 : decode cL_law 659 = .ok (.ifCond .ne 15, 3) := by decide +kernel
theorem dL_law_662 : decode cL_law 662 = .ok (.aload_n 3, 1) := by decide +kernel
theorem dL_law_663 : decode cL_law 663 = .ok (.iconst 0, 1) := by decide +kernel
theorem dL_law_664 : decode cL_law 664 = .ok (.laload, 1) := by decide +kernel
theorem dL_law_665 : decode cL_law 665 = .ok (.iload 6, 2) := by decide +kernel
theorem dL_law_667 : decode cL_law 667 = .ok (.i2l, 1) := by decide +kernel
theorem dL_law_668 : decode cL_law 668 = .ok (.lcmp, 1) := by decide +kernel
theorem dL_law_669 : decode cL_law 669 = .ok (.ifCond .eq 5, 3) := by decide +kernel
theorem dL_law_672 : decode cL_law 672 = .ok (.iconst 0, 1) := by decide +kernel
theorem dL_law_673 : decode cL_law 673 = .ok (.ireturn, 1) := by decide +kernel
theorem dL_law_674 : decode cL_law 674 = .ok (.goto 631, 3) := by decide +kernel
theorem dL_law_677 : decode cL_law 677 = .ok (.aload_n 1, 1) := by decide +kernel
theorem dL_law_678 : decode cL_law 678 = .ok (.aload_n 0, 1) := by decide +kernel
theorem dL_law_679 : decode cL_law 679 = .ok (.iload 4, 2) := by decide +kernel
theorem dL_law_681 : decode cL_law 681 = .ok (.iconst 1, 1) := by decide +kernel
theorem dL_law_682 : decode cL_law 682 = .ok (.iadd, 1) := by decide +kernel
theorem dL_law_683 : decode cL_law 683 = .ok (.iaload, 1) := by decide +kernel
theorem dL_law_684 : decode cL_law 684 = .ok (.aload_n 0, 1) := by decide +kernel
theorem dL_law_685 : decode cL_law 685 = .ok (.iload 4, 2) := by decide +kernel
theorem dL_law_687 : decode cL_law 687 = .ok (.iconst 2, 1) := by decide +kernel
theorem dL_law_688 : decode cL_law 688 = .ok (.iadd, 1) := by decide +kernel
theorem dL_law_689 : decode cL_law 689 = .ok (.iaload, 1) := by decide +kernel
theorem dL_law_690 : decode cL_law 690 = .ok (.aload_n 3, 1) := by decide +kernel
theorem dL_law_691 : decode cL_law 691 = .ok (.invokestatic 103, 3) := by decide +kernel
theorem dL_law_694 : decode cL_law 694 = .ok (.istore 5, 2) := by decide +kernel
theorem dL_law_696 : decode cL_law 696 = .ok (.aload_n 2, 1) := by decide +kernel
theorem dL_law_697 : decode cL_law 697 = .ok (.aload_n 0, 1) := by decide +kernel
theorem dL_law_698 : decode cL_law 698 = .ok (.iload 4, 2) := by decide +kernel
theorem dL_law_700 : decode cL_law 700 = .ok (.iconst 1, 1) := by decide +kernel
theorem dL_law_701 : decode cL_law 701 = .ok (.iadd, 1) := by decide +kernel
theorem dL_law_702 : decode cL_law 702 = .ok (.iaload, 1) := by decide +kernel
theorem dL_law_703 : decode cL_law 703 = .ok (.aload_n 0, 1) := by decide +kernel
theorem dL_law_704 : decode cL_law 704 = .ok (.iload 4, 2) := by decide +kernel
theorem dL_law_706 : decode cL_law 706 = .ok (.iconst 2, 1) := by decide +kernel
theorem dL_law_707 : decode cL_law 707 = .ok (.iadd, 1) := by decide +kernel
theorem dL_law_708 : decode cL_law 708 = .ok (.iaload, 1) := by decide +kernel
theorem dL_law_709 : decode cL_law 709 = .ok (.invokevirtual 105, 3) := by decide +kernel
theorem dL_law_712 : decode cL_law 712 = .ok (.istore 6, 2) := by decide +kernel
theorem dL_law_714 : decode cL_law 714 = .ok (.aload_n 2, 1) := by decide +kernel
theorem dL_law_715 : decode cL_law 715 = .ok (.invokevirtual 77, 3) := by decide +kernel
theorem dL_law_718 : decode cL_law 718 = .ok (.iload 5, 2) := by decide +kernel
theorem dL_law_720 : decode cL_law 720 = .ok (.if_icmp .eq 5, 3) := by decide +kernel
theorem dL_law_723 : decode cL_law 723 = .ok (.iconst 0, 1) := by decide +kernel
theorem dL_law_724 : decode cL_law 724 = .ok (.ireturn, 1) := by decide +kernel
theorem dL_law_725 : decode cL_law 725 = .ok (.iload 5, 2) := by decide +kernel
theorem dL_law_727 : decode cL_law 727 = .ok (.ifCond .ne 15, 3) := by decide +kernel
theorem dL_law_730 : decode cL_law 730 = .ok (.aload_n 3, 1) := by decide +kernel
theorem dL_law_731 : decode cL_law 731 = .ok (.iconst 0, 1) := by decide +kernel
theorem dL_law_732 : decode cL_law 732 = .ok (.laload, 1) := by decide +kernel
theorem dL_law_733 : decode cL_law 733 = .ok (.iload 6, 2) := by decide +kernel
theorem dL_law_735 : decode cL_law 735 = .ok (.i2l, 1) := by decide +kernel
theorem dL_law_736 : decode cL_law 736 = .ok (.lcmp, 1) := by decide +kernel
theorem dL_law_737 : decode cL_law 737 = .ok (.ifCond .eq 5, 3) := by decide +kernel
theorem dL_law_740 : decode cL_law 740 = .ok (.iconst 0, 1) := by decide +kernel
theorem dL_law_741 : decode cL_law 741 = .ok (.ireturn, 1) := by decide +kernel
theorem dL_law_742 : decode cL_law 742 = .ok (.goto 563, 3) := by decide +kernel
theorem dL_law_745 : decode cL_law 745 = .ok (.aload_n 1, 1) := by decide +kernel
theorem dL_law_746 : decode cL_law 746 = .ok (.aload_n 0, 1) := by decide +kernel
theorem dL_law_747 : decode cL_law 747 = .ok (.iload 4, 2) := by decide +kernel
theorem dL_law_749 : decode cL_law 749 = .ok (.iconst 1, 1) := by decide +kernel
theorem dL_law_750 : decode cL_law 750 = .ok (.iadd, 1) := by decide +kernel
theorem dL_law_751 : decode cL_law 751 = .ok (.iaload, 1) := by decide +kernel
theorem dL_law_752 : decode cL_law 752 = .ok (.aload_n 3, 1) := by decide +kernel
theorem dL_law_753 : decode cL_law 753 = .ok (.invokestatic 106, 3) := by decide +kernel
theorem dL_law_756 : decode cL_law 756 = .ok (.istore 5, 2) := by decide +kernel
theorem dL_law_758 : decode cL_law 758 = .ok (.aload_n 2, 1) := by decide +kernel
theorem dL_law_759 : decode cL_law 759 = .ok (.aload_n 0, 1) := by decide +kernel
theorem dL_law_760 : decode cL_law 760 = .ok (.iload 4, 2) := by decide +kernel
theorem dL_law_762 : decode cL_law 762 = .ok (.iconst 1, 1) := by decide +kernel
theorem dL_law_763 : decode cL_law 763 = .ok (.iadd, 1) := by decide +kernel
theorem dL_law_764 : decode cL_law 764 = .ok (.iaload, 1) := by decide +kernel
theorem dL_law_765 : decode cL_law 765 = .ok (.invokevirtual 108, 3) := by decide +kernel
theorem dL_law_768 : decode cL_law 768 = .ok (.istore 6, 2) := by decide +kernel
theorem dL_law_770 : decode cL_law 770 = .ok (.aload_n 2, 1) := by decide +kernel
theorem dL_law_771 : decode cL_law 771 = .ok (.invokevirtual 77, 3) := by decide +kernel
theorem dL_law_774 : decode cL_law 774 = .ok (.iload 5, 2) := by decide +kernel
theorem dL_law_776 : decode cL_law 776 = .ok (.if_icmp .eq 5, 3) := by decide +kernel
theorem dL_law_779 : decode cL_law 779 = .ok (.iconst 0, 1) := by decide +kernel
theorem dL_law_780 : decode cL_law 780 = .ok (.ireturn, 1) := by decide +kernel
theorem dL_law_781 : decode cL_law 781 = .ok (.iload 5, 2) := by decide +kernel
theorem dL_law_783 : decode cL_law 783 = .ok (.ifCond .ne 15, 3) := by decide +kernel
theorem dL_law_786 : decode cL_law 786 = .ok (.aload_n 3, 1) := by decide +kernel
theorem dL_law_787 : decode cL_law 787 = .ok (.iconst 0, 1) := by decide +kernel
theorem dL_law_788 : decode cL_law 788 = .ok (.laload, 1) := by decide +kernel
theorem dL_law_789 : decode cL_law 789 = .ok (.iload 6, 2) := by decide +kernel
theorem dL_law_791 : decode cL_law 791 = .ok (.i2l, 1) := by decide +kernel
theorem dL_law_792 : decode cL_law 792 = .ok (.lcmp, 1) := by decide +kernel
theorem dL_law_793 : decode cL_law 793 = .ok (.ifCond .eq 5, 3) := by decide +kernel
theorem dL_law_796 : decode cL_law 796 = .ok (.iconst 0, 1) := by decide +kernel
theorem dL_law_797 : decode cL_law 797 = .ok (.ireturn, 1) := by decide +kernel
theorem dL_law_798 : decode cL_law 798 = .ok (.goto 507, 3) := by decide +kernel
theorem dL_law_801 : decode cL_law 801 = .ok (.aload_n 1, 1) := by decide +kernel
theorem dL_law_802 : decode cL_law 802 = .ok (.aload_n 0, 1) := by decide +kernel
theorem dL_law_803 : decode cL_law 803 = .ok (.iload 4, 2) := by decide +kernel
theorem dL_law_805 : decode cL_law 805 = .ok (.iconst 1, 1) := by decide +kernel
theorem dL_law_806 : decode cL_law 806 = .ok (.iadd, 1) := by decide +kernel
theorem dL_law_807 : decode cL_law 807 = .ok (.iaload, 1) := by decide +kernel
theorem dL_law_808 : decode cL_law 808 = .ok (.aload_n 0, 1) := by decide +kernel
theorem dL_law_809 : decode cL_law 809 = .ok (.iload 4, 2) := by decide +kernel
theorem dL_law_811 : decode cL_law 811 = .ok (.iconst 2, 1) := by decide +kernel
theorem dL_law_812 : decode cL_law 812 = .ok (.iadd, 1) := by decide +kernel
theorem dL_law_813 : decode cL_law 813 = .ok (.iaload, 1) := by decide +kernel
theorem dL_law_814 : decode cL_law 814 = .ok (.aload_n 0, 1) := by decide +kernel
theorem dL_law_815 : decode cL_law 815 = .ok (.iload 4, 2) := by decide +kernel
theorem dL_law_817 : decode cL_law 817 = .ok (.iconst 3, 1) := by decide +kernel
theorem dL_law_818 : decode cL_law 818 = .ok (.iadd, 1) := by decide +kernel
theorem dL_law_819 : decode cL_law 819 = .ok (.iaload, 1) := by decide +kernel
theorem dL_law_820 : decode cL_law 820 = .ok (.aload_n 3, 1) := by decide +kernel
theorem dL_law_821 : decode cL_law 821 = .ok (.invokestatic 109, 3) := by decide +kernel
theorem dL_law_824 : decode cL_law 824 = .ok (.istore 5, 2) := by decide +kernel
theorem dL_law_826 : decode cL_law 826 = .ok (.aload_n 2, 1) := by decide +kernel
theorem dL_law_827 : decode cL_law 827 = .ok (.aload_n 0, 1) := by decide +kernel
theorem dL_law_828 : decode cL_law 828 = .ok (.iload 4, 2) := by decide +kernel
theorem dL_law_830 : decode cL_law 830 = .ok (.iconst 1, 1) := by decide +kernel
theorem dL_law_831 : decode cL_law 831 = .ok (.iadd, 1) := by decide +kernel
theorem dL_law_832 : decode cL_law 832 = .ok (.iaload, 1) := by decide +kernel
theorem dL_law_833 : decode cL_law 833 = .ok (.aload_n 0, 1) := by decide +kernel
theorem dL_law_834 : decode cL_law 834 = .ok (.iload 4, 2) := by decide +kernel
theorem dL_law_836 : decode cL_law 836 = .ok (.iconst 2, 1) := by decide +kernel
theorem dL_law_837 : decode cL_law 837 = .ok (.iadd, 1) := by decide +kernel
theorem dL_law_838 : decode cL_law 838 = .ok (.iaload, 1) := by decide +kernel
theorem dL_law_839 : decode cL_law 839 = .ok (.aload_n 0, 1) := by decide +kernel
theorem dL_law_840 : decode cL_law 840 = .ok (.iload 4, 2) := by decide +kernel
theorem dL_law_842 : decode cL_law 842 = .ok (.iconst 3, 1) := by decide +kernel
theorem dL_law_843 : decode cL_law 843 = .ok (.iadd, 1) := by decide +kernel
theorem dL_law_844 : decode cL_law 844 = .ok (.iaload, 1) := by decide +kernel
theorem dL_law_845 : decode cL_law 845 = .ok (.invokevirtual 111, 3) := by decide +kernel
theorem dL_law_848 : decode cL_law 848 = .ok (.istore 6, 2) := by decide +kernel
theorem dL_law_850 : decode cL_law 850 = .ok (.aload_n 2, 1) := by decide +kernel
theorem dL_law_851 : decode cL_law 851 = .ok (.invokevirtual 77, 3) := by decide +kernel
theorem dL_law_854 : decode cL_law 854 = .ok (.iload 5, 2) := by decide +kernel
theorem dL_law_856 : decode cL_law 856 = .ok (.if_icmp .eq 5, 3) := by decide +kernel
theorem dL_law_859 : decode cL_law 859 = .ok (.iconst 0, 1) := by decide +kernel
theorem dL_law_860 : decode cL_law 860 = .ok (.ireturn, 1) := by decide +kernel
theorem dL_law_861 : decode cL_law 861 = .ok (.iload 5, 2) := by decide +kernel
theorem dL_law_863 : decode cL_law 863 = .ok (.ifCond .ne 15, 3) := by decide +kernel
theorem dL_law_866 : decode cL_law 866 = .ok (.aload_n 3, 1) := by decide +kernel
theorem dL_law_867 : decode cL_law 867 = .ok (.iconst 0, 1) := by decide +kernel
theorem dL_law_868 : decode cL_law 868 = .ok (.laload, 1) := by decide +kernel
theorem dL_law_869 : decode cL_law 869 = .ok (.iload 6, 2) := by decide +kernel
theorem dL_law_871 : decode cL_law 871 = .ok (.i2l, 1) := by decide +kernel
theorem dL_law_872 : decode cL_law 872 = .ok (.lcmp, 1) := by decide +kernel
theorem dL_law_873 : decode cL_law 873 = .ok (.ifCond .eq 5, 3) := by decide +kernel
theorem dL_law_876 : decode cL_law 876 = .ok (.iconst 0, 1) := by decide +kernel
theorem dL_law_877 : decode cL_law 877 = .ok (.ireturn, 1) := by decide +kernel
theorem dL_law_878 : decode cL_law 878 = .ok (.goto 427, 3) := by decide +kernel
theorem dL_law_881 : decode cL_law 881 = .ok (.aload_n 1, 1) := by decide +kernel
theorem dL_law_882 : decode cL_law 882 = .ok (.aload_n 0, 1) := by decide +kernel
theorem dL_law_883 : decode cL_law 883 = .ok (.iload 4, 2) := by decide +kernel
theorem dL_law_885 : decode cL_law 885 = .ok (.iconst 1, 1) := by decide +kernel
theorem dL_law_886 : decode cL_law 886 = .ok (.iadd, 1) := by decide +kernel
theorem dL_law_887 : decode cL_law 887 = .ok (.iaload, 1) := by decide +kernel
theorem dL_law_888 : decode cL_law 888 = .ok (.aload_n 0, 1) := by decide +kernel
theorem dL_law_889 : decode cL_law 889 = .ok (.iload 4, 2) := by decide +kernel
theorem dL_law_891 : decode cL_law 891 = .ok (.iconst 2, 1) := by decide +kernel
theorem dL_law_892 : decode cL_law 892 = .ok (.iadd, 1) := by decide +kernel
theorem dL_law_893 : decode cL_law 893 = .ok (.iaload, 1) := by decide +kernel
theorem dL_law_894 : decode cL_law 894 = .ok (.aload_n 0, 1) := by decide +kernel
theorem dL_law_895 : decode cL_law 895 = .ok (.iload 4, 2) := by decide +kernel
theorem dL_law_897 : decode cL_law 897 = .ok (.iconst 3, 1) := by decide +kernel
theorem dL_law_898 : decode cL_law 898 = .ok (.iadd, 1) := by decide +kernel
theorem dL_law_899 : decode cL_law 899 = .ok (.iaload, 1) := by decide +kernel
theorem dL_law_900 : decode cL_law 900 = .ok (.aload_n 3, 1) := by decide +kernel
theorem dL_law_901 : decode cL_law 901 = .ok (.invokestatic 112, 3) := by decide +kernel
theorem dL_law_904 : decode cL_law 904 = .ok (.istore 5, 2) := by decide +kernel
theorem dL_law_906 : decode cL_law 906 = .ok (.aload_n 2, 1) := by decide +kernel
theorem dL_law_907 : decode cL_law 907 = .ok (.aload_n 0, 1) := by decide +kernel
theorem dL_law_908 : decode cL_law 908 = .ok (.iload 4, 2) := by decide +kernel
theorem dL_law_910 : decode cL_law 910 = .ok (.iconst 1, 1) := by decide +kernel
theorem dL_law_911 : decode cL_law 911 = .ok (.iadd, 1) := by decide +kernel
theorem dL_law_912 : decode cL_law 912 = .ok (.iaload, 1) := by decide +kernel
theorem dL_law_913 : decode cL_law 913 = .ok (.aload_n 0, 1) := by decide +kernel
theorem dL_law_914 : decode cL_law 914 = .ok (.iload 4, 2) := by decide +kernel
theorem dL_law_916 : decode cL_law 916 = .ok (.iconst 2, 1) := by decide +kernel
theorem dL_law_917 : decode cL_law 917 = .ok (.iadd, 1) := by decide +kernel
theorem dL_law_918 : decode cL_law 918 = .ok (.iaload, 1) := by decide +kernel
theorem dL_law_919 : decode cL_law 919 = .ok (.aload_n 0, 1) := by decide +kernel
theorem dL_law_920 : decode cL_law 920 = .ok (.iload 4, 2) := by decide +kernel
theorem dL_law_922 : decode cL_law 922 = .ok (.iconst 3, 1) := by decide +kernel
theorem dL_law_923 : decode cL_law 923 = .ok (.iadd, 1) := by decide +kernel
theorem dL_law_924 : decode cL_law 924 = .ok (.iaload, 1) := by decide +kernel
theorem dL_law_925 : decode cL_law 925 = .ok (.invokevirtual 114, 3) := by decide +kernel
theorem dL_law_928 : decode cL_law 928 = .ok (.istore 6, 2) := by decide +kernel
theorem dL_law_930 : decode cL_law 930 = .ok (.aload_n 2, 1) := by decide +kernel
theorem dL_law_931 : decode cL_law 931 = .ok (.invokevirtual 77, 3) := by decide +kernel
theorem dL_law_934 : decode cL_law 934 = .ok (.iload 5, 2) := by decide +kernel
theorem dL_law_936 : decode cL_law 936 = .ok (.if_icmp .eq 5, 3) := by decide +kernel
theorem dL_law_939 : decode cL_law 939 = .ok (.iconst 0, 1) := by decide +kernel
theorem dL_law_940 : decode cL_law 940 = .ok (.ireturn, 1) := by decide +kernel
theorem dL_law_941 : decode cL_law 941 = .ok (.iload 5, 2) := by decide +kernel
theorem dL_law_943 : decode cL_law 943 = .ok (.ifCond .ne 15, 3) := by decide +kernel
theorem dL_law_946 : decode cL_law 946 = .ok (.aload_n 3, 1) := by decide +kernel
theorem dL_law_947 : decode cL_law 947 = .ok (.iconst 0, 1) := by decide +kernel
theorem dL_law_948 : decode cL_law 948 = .ok (.laload, 1) := by decide +kernel
theorem dL_law_949 : decode cL_law 949 = .ok (.iload 6, 2) := by decide +kernel
theorem dL_law_951 : decode cL_law 951 = .ok (.i2l, 1) := by decide +kernel
theorem dL_law_952 : decode cL_law 952 = .ok (.lcmp, 1) := by decide +kernel
theorem dL_law_953 : decode cL_law 953 = .ok (.ifCond .eq 5, 3) := by decide +kernel
theorem dL_law_956 : decode cL_law 956 = .ok (.iconst 0, 1) := by decide +kernel
theorem dL_law_957 : decode cL_law 957 = .ok (.ireturn, 1) := by decide +kernel
theorem dL_law_958 : decode cL_law 958 = .ok (.goto 347, 3) := by decide +kernel
theorem dL_law_961 : decode cL_law 961 = .ok (.aload_n 1, 1) := by decide +kernel
theorem dL_law_962 : decode cL_law 962 = .ok (.aload_n 0, 1) := by decide +kernel
theorem dL_law_963 : decode cL_law 963 = .ok (.iload 4, 2) := by decide +kernel
theorem dL_law_965 : decode cL_law 965 = .ok (.iconst 1, 1) := by decide +kernel
theorem dL_law_966 : decode cL_law 966 = .ok (.iadd, 1) := by decide +kernel
theorem dL_law_967 : decode cL_law 967 = .ok (.iaload, 1) := by decide +kernel
theorem dL_law_968 : decode cL_law 968 = .ok (.aload_n 0, 1) := by decide +kernel
theorem dL_law_969 : decode cL_law 969 = .ok (.iload 4, 2) := by decide +kernel
theorem dL_law_971 : decode cL_law 971 = .ok (.iconst 2, 1) := by decide +kernel
theorem dL_law_972 : decode cL_law 972 = .ok (.iadd, 1) := by decide +kernel
theorem dL_law_973 : decode cL_law 973 = .ok (.iaload, 1) := by decide +kernel
theorem dL_law_974 : decode cL_law 974 = .ok (.aload_n 0, 1) := by decide +kernel
theorem dL_law_975 : decode cL_law 975 = .ok (.iload 4, 2) := by decide +kernel
theorem dL_law_977 : decode cL_law 977 = .ok (.iconst 3, 1) := by decide +kernel
theorem dL_law_978 : decode cL_law 978 = .ok (.iadd, 1) := by decide +kernel
theorem dL_law_979 : decode cL_law 979 = .ok (.iaload, 1) := by decide +kernel
theorem dL_law_980 : decode cL_law 980 = .ok (.ifCond .eq 7, 3) := by decide +kernel
theorem dL_law_983 : decode cL_law 983 = .ok (.iconst 1, 1) := by decide +kernel
theorem dL_law_984 : decode cL_law 984 = .ok (.goto 4, 3) := by decide +kernel
theorem dL_law_987 : decode cL_law 987 = .ok (.iconst 0, 1) := by decide +kernel
theorem dL_law_988 : decode cL_law 988 = .ok (.aload_n 3, 1) := by decide +kernel
theorem dL_law_989 : decode cL_law 989 = .ok (.invokestatic 115, 3) := by decide +kernel
theorem dL_law_992 : decode cL_law 992 = .ok (.istore 5, 2) := by decide +kernel
theorem dL_law_994 : decode cL_law 994 = .ok (.aload_n 2, 1) := by decide +kernel
theorem dL_law_995 : decode cL_law 995 = .ok (.aload_n 0, 1) := by decide +kernel
theorem dL_law_996 : decode cL_law 996 = .ok (.iload 4, 2) := by decide +kernel
theorem dL_law_998 : decode cL_law 998 = .ok (.iconst 1, 1) := by decide +kernel
theorem dL_law_999 : decode cL_law 999 = .ok (.iadd, 1) := by decide +kernel
theorem dL_law_1000 : decode cL_law 1000 = .ok (.iaload, 1) := by decide +kernel
theorem dL_law_1001 : decode cL_law 1001 = .ok (.aload_n 0, 1) := by decide +kernel
theorem dL_law_1002 : decode cL_law 1002 = .ok (.iload 4, 2) := by decide +kernel
theorem dL_law_1004 : decode cL_law 1004 = .ok (.iconst 2, 1) := by decide +kernel
theorem dL_law_1005 : decode cL_law 1005 = .ok (.iadd, 1) := by decide +kernel
theorem dL_law_1006 : decode cL_law 1006 = .ok (.iaload, 1) := by decide +kernel
theorem dL_law_1007 : decode cL_law 1007 = .ok (.aload_n 0, 1) := by decide +kernel
theorem dL_law_1008 : decode cL_law 1008 = .ok (.iload 4, 2) := by decide +kernel
theorem dL_law_1010 : decode cL_law 1010 = .ok (.iconst 3, 1) := by decide +kernel
theorem dL_law_1011 : decode cL_law 1011 = .ok (.iadd, 1) := by decide +kernel
theorem dL_law_1012 : decode cL_law 1012 = .ok (.iaload, 1) := by decide +kernel
theorem dL_law_1013 : decode cL_law 1013 = .ok (.ifCond .eq 7, 3) := by decide +kernel
theorem dL_law_1016 : decode cL_law 1016 = .ok (.iconst 1, 1) := by decide +kernel
theorem dL_law_1017 : decode cL_law 1017 = .ok (.goto 4, 3) := by decide +kernel
theorem dL_law_1020 : decode cL_law 1020 = .ok (.iconst 0, 1) := by decide +kernel
theorem dL_law_1021 : decode cL_law 1021 = .ok (.invokevirtual 118, 3) := by decide +kernel
theorem dL_law_1024 : decode cL_law 1024 = .ok (.istore 6, 2) := by decide +kernel
theorem dL_law_1026 : decode cL_law 1026 = .ok (.aload_n 2, 1) := by decide +kernel
theorem dL_law_1027 : decode cL_law 1027 = .ok (.invokevirtual 77, 3) := by decide +kernel
theorem dL_law_1030 : decode cL_law 1030 = .ok (.iload 5, 2) := by decide +kernel
theorem dL_law_1032 : decode cL_law 1032 = .ok (.if_icmp .eq 5, 3) := by decide +kernel
theorem dL_law_1035 : decode cL_law 1035 = .ok (.iconst 0, 1) := by decide +kernel
theorem dL_law_1036 : decode cL_law 1036 = .ok (.ireturn, 1) := by decide +kernel
theorem dL_law_1037 : decode cL_law 1037 = .ok (.iload 5, 2) := by decide +kernel
theorem dL_law_1039 : decode cL_law 1039 = .ok (.ifCond .ne 15, 3) := by decide +kernel
theorem dL_law_1042 : decode cL_law 1042 = .ok (.aload_n 3, 1) := by decide +kernel
theorem dL_law_1043 : decode cL_law 1043 = .ok (.iconst 0, 1) := by decide +kernel
theorem dL_law_1044 : decode cL_law 1044 = .ok (.laload, 1) := by decide +kernel
theorem dL_law_1045 : decode cL_law 1045 = .ok (.iload 6, 2) := by decide +kernel
theorem dL_law_1047 : decode cL_law 1047 = .ok (.i2l, 1) := by decide +kernel
theorem dL_law_1048 : decode cL_law 1048 = .ok (.lcmp, 1) := by decide +kernel
theorem dL_law_1049 : decode cL_law 1049 = .ok (.ifCond .eq 5, 3) := by decide +kernel
theorem dL_law_1052 : decode cL_law 1052 = .ok (.iconst 0, 1) := by decide +kernel
theorem dL_law_1053 : decode cL_law 1053 = .ok (.ireturn, 1) := by decide +kernel
theorem dL_law_1054 : decode cL_law 1054 = .ok (.goto 251, 3) := by decide +kernel
theorem dL_law_1057 : decode cL_law 1057 = .ok (.aload_n 1, 1) := by decide +kernel
theorem dL_law_1058 : decode cL_law 1058 = .ok (.aload_n 0, 1) := by decide +kernel
theorem dL_law_1059 : decode cL_law 1059 = .ok (.iload 4, 2) := by decide +kernel
theorem dL_law_1061 : decode cL_law 1061 = .ok (.iconst 1, 1) := by decide +kernel
theorem dL_law_1062 : decode cL_law 1062 = .ok (.iadd, 1) := by decide +kernel
theorem dL_law_1063 : decode cL_law 1063 = .ok (.iaload, 1) := by decide +kernel
theorem dL_law_1064 : decode cL_law 1064 = .ok (.aload_n 0, 1) := by decide +kernel
theorem dL_law_1065 : decode cL_law 1065 = .ok (.iload 4, 2) := by decide +kernel
theorem dL_law_1067 : decode cL_law 1067 = .ok (.iconst 2, 1) := by decide +kernel
theorem dL_law_1068 : decode cL_law 1068 = .ok (.iadd, 1) := by decide +kernel
theorem dL_law_1069 : decode cL_law 1069 = .ok (.iaload, 1) := by decide +kernel
theorem dL_law_1070 : decode cL_law 1070 = .ok (.aload_n 3, 1) := by decide +kernel
theorem dL_law_1071 : decode cL_law 1071 = .ok (.invokestatic 119, 3) := by decide +kernel
theorem dL_law_1074 : decode cL_law 1074 = .ok (.istore 5, 2) := by decide +kernel
theorem dL_law_1076 : decode cL_law 1076 = .ok (.aload_n 2, 1) := by decide +kernel
theorem dL_law_1077 : decode cL_law 1077 = .ok (.aload_n 0, 1) := by decide +kernel
theorem dL_law_1078 : decode cL_law 1078 = .ok (.iload 4, 2) := by decide +kernel
theorem dL_law_1080 : decode cL_law 1080 = .ok (.iconst 1, 1) := by decide +kernel
theorem dL_law_1081 : decode cL_law 1081 = .ok (.iadd, 1) := by decide +kernel
theorem dL_law_1082 : decode cL_law 1082 = .ok (.iaload, 1) := by decide +kernel
theorem dL_law_1083 : decode cL_law 1083 = .ok (.aload_n 0, 1) := by decide +kernel
theorem dL_law_1084 : decode cL_law 1084 = .ok (.iload 4, 2) := by decide +kernel
theorem dL_law_1086 : decode cL_law 1086 = .ok (.iconst 2, 1) := by decide +kernel
theorem dL_law_1087 : decode cL_law 1087 = .ok (.iadd, 1) := by decide +kernel
theorem dL_law_1088 : decode cL_law 1088 = .ok (.iaload, 1) := by decide +kernel
theorem dL_law_1089 : decode cL_law 1089 = .ok (.invokevirtual 121, 3) := by decide +kernel
theorem dL_law_1092 : decode cL_law 1092 = .ok (.istore 6, 2) := by decide +kernel
theorem dL_law_1094 : decode cL_law 1094 = .ok (.aload_n 2, 1) := by decide +kernel
theorem dL_law_1095 : decode cL_law 1095 = .ok (.invokevirtual 77, 3) := by decide +kernel
theorem dL_law_1098 : decode cL_law 1098 = .ok (.iload 5, 2) := by decide +kernel
theorem dL_law_1100 : decode cL_law 1100 = .ok (.if_icmp .eq 5, 3) := by decide +kernel
theorem dL_law_1103 : decode cL_law 1103 = .ok (.iconst 0, 1) := by decide +kernel
theorem dL_law_1104 : decode cL_law 1104 = .ok (.ireturn, 1) := by decide +kernel
theorem dL_law_1105 : decode cL_law 1105 = .ok (.iload 5, 2) := by decide +kernel
theorem dL_law_1107 : decode cL_law 1107 = .ok (.ifCond .ne 15, 3) := by decide +kernel
theorem dL_law_1110 : decode cL_law 1110 = .ok (.aload_n 3, 1) := by decide +kernel
theorem dL_law_1111 : decode cL_law 1111 = .ok (.iconst 0, 1) := by decide +kernel
theorem dL_law_1112 : decode cL_law 1112 = .ok (.laload, 1) := by decide +kernel
theorem dL_law_1113 : decode cL_law 1113 = .ok (.iload 6, 2) := by decide +kernel
theorem dL_law_1115 : decode cL_law 1115 = .ok (.i2l, 1) := by decide +kernel
theorem dL_law_1116 : decode cL_law 1116 = .ok (.lcmp, 1) := by decide +kernel
theorem dL_law_1117 : decode cL_law 1117 = .ok (.ifCond .eq 5, 3) := by decide +kernel
theorem dL_law_1120 : decode cL_law 1120 = .ok (.iconst 0, 1) := by decide +kernel
theorem dL_law_1121 : decode cL_law 1121 = .ok (.ireturn, 1) := by decide +kernel
theorem dL_law_1122 : decode cL_law 1122 = .ok (.goto 183, 3) := by decide +kernel
theorem dL_law_1125 : decode cL_law 1125 = .ok (.aload_n 1, 1) := by decide +kernel
theorem dL_law_1126 : decode cL_law 1126 = .ok (.aload_n 0, 1) := by decide +kernel
theorem dL_law_1127 : decode cL_law 1127 = .ok (.iload 4, 2) := by decide +kernel
theorem dL_law_1129 : decode cL_law 1129 = .ok (.iconst 1, 1) := by decide +kernel
theorem dL_law_1130 : decode cL_law 1130 = .ok (.iadd, 1) := by decide +kernel
theorem dL_law_1131 : decode cL_law 1131 = .ok (.iaload, 1) := by decide +kernel
theorem dL_law_1132 : decode cL_law 1132 = .ok (.aload_n 3, 1) := by decide +kernel
theorem dL_law_1133 : decode cL_law 1133 = .ok (.invokestatic 122, 3) := by decide +kernel
theorem dL_law_1136 : decode cL_law 1136 = .ok (.istore 5, 2) := by decide +kernel
theorem dL_law_1138 : decode cL_law 1138 = .ok (.aload_n 2, 1) := by decide +kernel
theorem dL_law_1139 : decode cL_law 1139 = .ok (.aload_n 0, 1) := by decide +kernel
theorem dL_law_1140 : decode cL_law 1140 = .ok (.iload 4, 2) := by decide +kernel
theorem dL_law_1142 : decode cL_law 1142 = .ok (.iconst 1, 1) := by decide +kernel
theorem dL_law_1143 : decode cL_law 1143 = .ok (.iadd, 1) := by decide +kernel
theorem dL_law_1144 : decode cL_law 1144 = .ok (.iaload, 1) := by decide +kernel
theorem dL_law_1145 : decode cL_law 1145 = .ok (.invokevirtual 124, 3) := by decide +kernel
theorem dL_law_1148 : decode cL_law 1148 = .ok (.istore 6, 2) := by decide +kernel
theorem dL_law_1150 : decode cL_law 1150 = .ok (.aload_n 2, 1) := by decide +kernel
theorem dL_law_1151 : decode cL_law 1151 = .ok (.invokevirtual 77, 3) := by decide +kernel
theorem dL_law_1154 : decode cL_law 1154 = .ok (.iload 5, 2) := by decide +kernel
theorem dL_law_1156 : decode cL_law 1156 = .ok (.if_icmp .eq 5, 3) := by decide +kernel
theorem dL_law_1159 : decode cL_law 1159 = .ok (.iconst 0, 1) := by decide +kernel
theorem dL_law_1160 : decode cL_law 1160 = .ok (.ireturn, 1) := by decide +kernel
theorem dL_law_1161 : decode cL_law 1161 = .ok (.iload 5, 2) := by decide +kernel
theorem dL_law_1163 : decode cL_law 1163 = .ok (.ifCond .ne 15, 3) := by decide +kernel
theorem dL_law_1166 : decode cL_law 1166 = .ok (.aload_n 3, 1) := by decide +kernel
theorem dL_law_1167 : decode cL_law 1167 = .ok (.iconst 0, 1) := by decide +kernel
theorem dL_law_1168 : decode cL_law 1168 = .ok (.laload, 1) := by decide +kernel
theorem dL_law_1169 : decode cL_law 1169 = .ok (.iload 6, 2) := by decide +kernel
theorem dL_law_1171 : decode cL_law 1171 = .ok (.i2l, 1) := by decide +kernel
theorem dL_law_1172 : decode cL_law 1172 = .ok (.lcmp, 1) := by decide +kernel
theorem dL_law_1173 : decode cL_law 1173 = .ok (.ifCond .eq 5, 3) := by decide +kernel
theorem dL_law_1176 : decode cL_law 1176 = .ok (.iconst 0, 1) := by decide +kernel
theorem dL_law_1177 : decode cL_law 1177 = .ok (.ireturn, 1) := by decide +kernel
theorem dL_law_1178 : decode cL_law 1178 = .ok (.goto 127, 3) := by decide +kernel
theorem dL_law_1181 : decode cL_law 1181 = .ok (.aload_n 1, 1) := by decide +kernel
theorem dL_law_1182 : decode cL_law 1182 = .ok (.aload_n 0, 1) := by decide +kernel
theorem dL_law_1183 : decode cL_law 1183 = .ok (.iload 4, 2) := by decide +kernel
theorem dL_law_1185 : decode cL_law 1185 = .ok (.iconst 1, 1) := by decide +kernel
theorem dL_law_1186 : decode cL_law 1186 = .ok (.iadd, 1) := by decide +kernel
theorem dL_law_1187 : decode cL_law 1187 = .ok (.iaload, 1) := by decide +kernel
theorem dL_law_1188 : decode cL_law 1188 = .ok (.aload_n 3, 1) := by decide +kernel
theorem dL_law_1189 : decode cL_law 1189 = .ok (.invokestatic 125, 3) := by decide +kernel
theorem dL_law_1192 : decode cL_law 1192 = .ok (.istore 5, 2) := by decide +kernel
theorem dL_law_1194 : decode cL_law 1194 = .ok (.aload_n 2, 1) := by decide +kernel
theorem dL_law_1195 : decode cL_law 1195 = .ok (.aload_n 0, 1) := by decide +kernel
theorem dL_law_1196 : decode cL_law 1196 = .ok (.iload 4, 2) := by decide +kernel
theorem dL_law_1198 : decode cL_law 1198 = .ok (.iconst 1, 1) := by decide +kernel
theorem dL_law_1199 : decode cL_law 1199 = .ok (.iadd, 1) := by decide +kernel
theorem dL_law_1200 : decode cL_law 1200 = .ok (.iaload, 1) := by decide +kernel
theorem dL_law_1201 : decode cL_law 1201 = .ok (.invokevirtual 127, 3) := by decide +kernel
theorem dL_law_1204 : decode cL_law 1204 = .ok (.istore 6, 2) := by decide +kernel
theorem dL_law_1206 : decode cL_law 1206 = .ok (.aload_n 2, 1) := by decide +kernel
theorem dL_law_1207 : decode cL_law 1207 = .ok (.invokevirtual 77, 3) := by decide +kernel
theorem dL_law_1210 : decode cL_law 1210 = .ok (.iload 5, 2) := by decide +kernel
theorem dL_law_1212 : decode cL_law 1212 = .ok (.if_icmp .eq 5, 3) := by decide +kernel
theorem dL_law_1215 : decode cL_law 1215 = .ok (.iconst 0, 1) := by decide +kernel
theorem dL_law_1216 : decode cL_law 1216 = .ok (.ireturn, 1) := by decide +kernel
theorem dL_law_1217 : decode cL_law 1217 = .ok (.iload 5, 2) := by decide +kernel
theorem dL_law_1219 : decode cL_law 1219 = .ok (.ifCond .ne 15, 3) := by decide +kernel
theorem dL_law_1222 : decode cL_law 1222 = .ok (.aload_n 3, 1) := by decide +kernel
theorem dL_law_1223 : decode cL_law 1223 = .ok (.iconst 0, 1) := by decide +kernel
theorem dL_law_1224 : decode cL_law 1224 = .ok (.laload, 1) := by decide +kernel
theorem dL_law_1225 : decode cL_law 1225 = .ok (.iload 6, 2) := by decide +kernel
theorem dL_law_1227 : decode cL_law 1227 = .ok (.i2l, 1) := by decide +kernel
theorem dL_law_1228 : decode cL_law 1228 = .ok (.lcmp, 1) := by decide +kernel
theorem dL_law_1229 : decode cL_law 1229 = .ok (.ifCond .eq 5, 3) := by decide +kernel
theorem dL_law_1232 : decode cL_law 1232 = .ok (.iconst 0, 1) := by decide +kernel
theorem dL_law_1233 : decode cL_law 1233 = .ok (.ireturn, 1) := by decide +kernel
theorem dL_law_1234 : decode cL_law 1234 = .ok (.goto 71, 3) := by decide +kernel
theorem dL_law_1237 : decode cL_law 1237 = .ok (.aload_n 1, 1) := by decide +kernel
theorem dL_law_1238 : decode cL_law 1238 = .ok (.invokevirtual 128, 3) := by decide +kernel
theorem dL_law_1241 : decode cL_law 1241 = .ok (.aload_n 2, 1) := by decide +kernel
theorem dL_law_1242 : decode cL_law 1242 = .ok (.invokevirtual 131, 3) := by decide +kernel
theorem dL_law_1245 : decode cL_law 1245 = .ok (.if_icmp .eq 60, 3) := by decide +kernel
theorem dL_law_1248 : decode cL_law 1248 = .ok (.iconst 0, 1) := by decide +kernel
theorem dL_law_1249 : decode cL_law 1249 = .ok (.ireturn, 1) := by decide +kernel
theorem dL_law_1250 : decode cL_law 1250 = .ok (.aload_n 1, 1) := by decide +kernel
theorem dL_law_1251 : decode cL_law 1251 = .ok (.invokevirtual 132, 3) := by decide +kernel
theorem dL_law_1254 : decode cL_law 1254 = .ok (.dstore 5, 2) := by decide +kernel
theorem dL_law_1256 : decode cL_law 1256 = .ok (.aload_n 2, 1) := by decide +kernel
theorem dL_law_1257 : decode cL_law 1257 = .ok (.invokevirtual 136, 3) := by decide +kernel
theorem dL_law_1260 : decode cL_law 1260 = .ok (.dstore 7, 2) := by decide +kernel
theorem dL_law_1262 : decode cL_law 1262 = .ok (.dload 5, 2) := by decide +kernel
theorem dL_law_1264 : decode cL_law 1264 = .ok (.dload 7, 2) := by decide +kernel
theorem dL_law_1266 : decode cL_law 1266 = .ok (.dcmp .l, 1) := by decide +kernel
theorem dL_law_1267 : decode cL_law 1267 = .ok (.ifCond .eq 21, 3) := by decide +kernel
theorem dL_law_1270 : decode cL_law 1270 = .ok (.dload 5, 2) := by decide +kernel
theorem dL_law_1272 : decode cL_law 1272 = .ok (.dload 5, 2) := by decide +kernel
theorem dL_law_1274 : decode cL_law 1274 = .ok (.dcmp .l, 1) := by decide +kernel
theorem dL_law_1275 : decode cL_law 1275 = .ok (.ifCond .eq 11, 3) := by decide +kernel
theorem dL_law_1278 : decode cL_law 1278 = .ok (.dload 7, 2) := by decide +kernel
theorem dL_law_1280 : decode cL_law 1280 = .ok (.dload 7, 2) := by decide +kernel
theorem dL_law_1282 : decode cL_law 1282 = .ok (.dcmp .l, 1) := by decide +kernel
theorem dL_law_1283 : decode cL_law 1283 = .ok (.ifCond .ne 5, 3) := by decide +kernel
theorem dL_law_1286 : decode cL_law 1286 = .ok (.iconst 0, 1) := by decide +kernel
theorem dL_law_1287 : decode cL_law 1287 = .ok (.ireturn, 1) := by decide +kernel
theorem dL_law_1288 : decode cL_law 1288 = .ok (.goto 17, 3) := by decide +kernel
theorem dL_law_1291 : decode cL_law 1291 = .ok (.aload_n 1, 1) := by decide +kernel
theorem dL_law_1292 : decode cL_law 1292 = .ok (.invokevirtual 137, 3) := by decide +kernel
theorem dL_law_1295 : decode cL_law 1295 = .ok (.aload_n 2, 1) := by decide +kernel
theorem dL_law_1296 : decode cL_law 1296 = .ok (.invokevirtual 141, 3) := by decide +kernel
theorem dL_law_1299 : decode cL_law 1299 = .ok (.lcmp, 1) := by decide +kernel
theorem dL_law_1300 : decode cL_law 1300 = .ok (.ifCond .eq 5, 3) := by decide +kernel
theorem dL_law_1303 : decode cL_law 1303 = .ok (.iconst 0, 1) := by decide +kernel
theorem dL_law_1304 : decode cL_law 1304 = .ok (.ireturn, 1) := by decide +kernel
theorem dL_law_1305 : decode cL_law 1305 = .ok (.iinc 4 7, 3) := by decide +kernel
theorem dL_law_1308 : decode cL_law 1308 = .ok (.goto (-1285), 3) := by decide +kernel
theorem dL_law_1311 : decode cL_law 1311 = .ok (.iconst 1, 1) := by decide +kernel
theorem dL_law_1312 : decode cL_law 1312 = .ok (.ireturn, 1) := by decide +kernel
abbrev vwCl : List vw_C := [(RX0, TX0, 8), (RX1, TX1, 9), (RX2, TX2, 3), (RX3, TX3, 14)]
end
section
/-- the words of nest mates, and the constants that are texts -/
def gN : List Cond := [.methodLinkNest "WetMosaic$Piece" 32 ({ cls := "WetMosaic", name := "cellOf", desc := "(II)I" } : Jvm.MethodName) "WetMosaic", .methodLinkNest "WetMosaicModel" 42 ({ cls := "WetMosaicModel$State", name := "<init>", desc := "(LWetMosaicModel;)V" } : Jvm.MethodName) "WetMosaicModel", .fieldLinkNest "WetMosaicModel" 119 "WetMosaicModel$State" "hour" "I" "WetMosaicModel", .fieldLinkNest "WetMosaicModel" 52 "WetMosaicModel$State" "wet" "[I" "WetMosaicModel", .fieldLinkNest "WetMosaicModel$State" 50 "WetMosaicModel" "first" "[I" "WetMosaicModel", .fieldLinkNest "WetMosaicModel$State" 47 "WetMosaicModel" "length" "[I" "WetMosaicModel", .fieldLinkNest "WetMosaicModel$State" 44 "WetMosaicModel" "across" "[I" "WetMosaicModel", .fieldLinkNest "WetMosaicModel$State" 41 "WetMosaicModel" "isOut" "[I" "WetMosaicModel", .fieldLinkNest "WetMosaicModel$State" 32 "WetMosaicModel" "cover" "[I" "WetMosaicModel", .fieldLinkNest "WetMosaicModel$State" 29 "WetMosaicModel" "sun" "[I" "WetMosaicModel"]
def gStr : List (String × Nat × String) := [("WetMosaic", 210, "no such cell"), ("WetMosaic", 44, "the part reaches beyond the wall"), ("WetMosaic", 63, "no such hour in the table"), ("WetMosaic", 66, "no such sun"), ("WetMosaic", 72, "no such length or colour"), ("WetMosaic", 84, "no piece can be pressed there"), ("WetMosaic", 98, "no such piece"), ("WetMosaic", 104, "the piece is not loose"), ("WetMosaic", 130, "the piece cannot be turned"), ("WetMosaic", 135, "the piece is out"), ("WetMosaic", 141, "a cell has no such fact"), ("WetMosaic", 146, "a piece has no such fact"), ("WetMosaic", 152, "no such count"), ("WetMosaic", 212, "no such pattern"), ("WetMosaic", 179, "so many hours cannot pass")]
theorem gN_ok : ∀ w ∈ gN, (∃ a i b n d h, w = .fieldLinkNest a i b n d h) ∨ (∃ a i x h, w = .methodLinkNest a i x h) := by
  intro w hw
  simp only [gN, List.mem_cons, List.not_mem_nil, or_false] at hw
  rcases hw with rfl | rfl | rfl | rfl | rfl | rfl | rfl | rfl | rfl | rfl
  · exact Or.inr ⟨_, _, _, _, rfl⟩
  · exact Or.inr ⟨_, _, _, _, rfl⟩
  · exact Or.inl ⟨_, _, _, _, _, _, rfl⟩
  · exact Or.inl ⟨_, _, _, _, _, _, rfl⟩
  · exact Or.inl ⟨_, _, _, _, _, _, rfl⟩
  · exact Or.inl ⟨_, _, _, _, _, _, rfl⟩
  · exact Or.inl ⟨_, _, _, _, _, _, rfl⟩
  · exact Or.inl ⟨_, _, _, _, _, _, rfl⟩
  · exact Or.inl ⟨_, _, _, _, _, _, rfl⟩
  · exact Or.inl ⟨_, _, _, _, _, _, rfl⟩
def gE (A : Nat → Prop) (U : State) (H : Heap) : Prop := vx_Zq Bundle.tN "UNASSIGNED_STACK" Bundle.steD A U H ∧ vx_Zq Bundle.tN "SUPPRESSED_SENTINEL" Bundle.listD A U H ∧ (∀ w ∈ gN, va_Nw w U) ∧ ∀ q ∈ gStr, ∃ a, vk_R q.1 q.2.1 q.2.2 a U
theorem gE.call {A B : Nat → Prop} {s U : State} {H0 H : Heap} {locs : List Loc} (h : gE A s H0) (hS : va_S A H0 H locs) (hAB : ∀ q, B q → A q) (hW : s.WarmedH U.vm) : gE B U H := by
  obtain ⟨h1, h2, h3, h4⟩ := h
  refine ⟨((h1.kept (fun a ha hn => hS.2.1 a ha hn)).narrow hAB).moved hW.alike, ((h2.kept (fun a ha hn => hS.2.1 a ha hn)).narrow hAB).moved hW.alike, fun w hw => ?_, fun q hq => ?_⟩
  · rcases gN_ok w hw with ⟨a, i, b, n, d, h, rfl⟩ | ⟨a, i, x, h, rfl⟩
    · exact va_Nw.warmF hW (h3 _ hw)
    · exact va_Nw.warmM hW (h3 _ hw)
  · obtain ⟨a, ha⟩ := h4 q hq
    exact ⟨a, vk_R.warm hW ha⟩
theorem gE.vm {B : Nat → Prop} {u U : State} {H : Heap} (h : gE B u H) (hv : u.vm = U.vm) : gE B U H := by
  obtain ⟨h1, h2, h3, h4⟩ := h
  have ha : u.vm.Alike U.vm := by rw [hv]; exact Vm.Alike.refl U.vm
  refine ⟨h1.moved ha, h2.moved ha, fun w hw => ?_, fun q hq => ?_⟩
  · rcases gN_ok w hw with ⟨a, i, b, n, d, h, rfl⟩ | ⟨a, i, x, h, rfl⟩
    · exact va_Nw.same rfl hv (h3 _ hw)
    · exact va_Nw.same rfl hv (h3 _ hw)
  · obtain ⟨a, ha⟩ := h4 q hq
    exact ⟨a, vk_R.same hv.symm ha⟩
/-- a method's contract, in any world given as a list: from W0 it comes to an answer and a world that post allows -/
def gP (D : va_G) (tys : List (ClassId × FieldType)) (As : List Value) (W0 : va_W) (sz : Nat) : Array Value → State → Prop := va_Pc As (fun U => U.heap.size = sz ∧ va_P D vwCl W0 U.heap ∧ va_K D vwCl tys U ∧ va_D (fun _ => True) W0 ∧ gE (va_A W0 sz) U U.heap)
def gQ (post : Option Value → va_W → Prop) (D : va_G) (A : Nat → Prop) : Array Value → State → Outcome → State → Prop := fun _ st oc t => (∃ (v : Option Value) (w : va_W), oc = .returned v ∧ post v w ∧ va_P D vwCl w t.heap ∧ va_D A w) ∧ va_F A st t
def gX (px : String → Prop) (D : va_G) (A : Nat → Prop) (W0 : va_W) : String → State → State → Prop := fun E st t => px E ∧ (va_P D vwCl W0 t.heap ∧ va_D A W0) ∧ va_F A st t
def gM (l : Launch) (y : MethodName) (words : List Cond) (rm : Room) (D : va_G) (tys : List (ClassId × FieldType)) (As : List Value) (W0 : va_W) (post : Option Value → va_W → Prop) (mc ms : Nat) : Prop := ∀ sz, Met l y words rm (gP D tys As W0 sz) (gQ post D (va_A W0 sz)) mc ms (va_A W0 sz)
def gMx (l : Launch) (y : MethodName) (words : List Cond) (rm : Room) (D : va_G) (tys : List (ClassId × FieldType)) (As : List Value) (W0 : va_W) (post : Option Value → va_W → Prop) (px : String → Prop) (mc ms : Nat) : Prop := ∀ sz, vx_Met l y words rm (gP D tys As W0 sz) (gQ post D (va_A W0 sz)) (gX px D (va_A W0 sz) W0) mc ms (va_A W0 sz)
/-- .. and answers just v, in the world W1 -/
def gIs (v : Option Value) (W1 : va_W) : Option Value → va_W → Prop := fun u w => u = v ∧ w = W1
theorem gP_blind {D : va_G} {tys : List (ClassId × FieldType)} {As : List Value} {W0 : va_W} {sz : Nat} : FrameBlind (gP D tys As W0 sz) := by
  intro a U g mk h
  obtain ⟨h1, h2, h3, h4, h5, h6⟩ := h
  exact ⟨h1, h2, h3, va_K.moved (u := U) (U := U.calling g mk a) (Vm.Alike.refl U.vm) h4, h5, h6.vm rfl⟩
theorem gm0 {x : Nat × va_E} {l : va_W} : x ∈ x :: l := List.mem_cons_self
theorem gmT {x y : Nat × va_E} {l : va_W} (h : x ∈ l) : x ∈ y :: l := List.mem_cons_of_mem _ h
section GL
variable {p : Program} {l : Launch} {e : Env} {R : Room} {s : State} {m : MethodId} {args : Array Value} {below : List Frame} {meth : Method} {c : Code} {Q : State → Prop} {D : va_G} {A : Nat → Prop} {H0 : Heap} {tys : List (ClassId × FieldType)} {cc : ByteArray} {nL k n mc ms : Nat} {Ts : List Cond} {own : String} {ret : Option FieldType} {pc : Nat} {lv lv' : List (Nat × Value)} {rest : List Value} {ws ws' : va_W} {post : Option Value → va_W → Prop}
/-- what holds all through a method's body -/
def gC (p : Program) (s : State) (m : MethodId) (args : Array Value) (meth : Method) (c : Code) (D : va_G) (A : Nat → Prop) (H0 : Heap) (tys : List (ClassId × FieldType)) (cc : ByteArray) (nL : Nat) (Ts : List Cond) (own : String) (ret : Option FieldType) : Prop :=
  p.tables.exec = Jvm.exec ∧ c.code = cc ∧ c.maxLocals = nL ∧ s.vm.findClass own = some m.cls ∧ (∀ w ∈ Ts, w.before args s = true) ∧ va_K D vwCl tys s ∧ (∀ q : Nat, H0.size ≤ q → A q) ∧ meth.sig.returnType = ret ∧ meth.locks = false ∧ gE A s H0 ∧ H0 = s.heap
theorem gC.x (C : gC p s m args meth c D A H0 tys cc nL Ts own ret) : p.tables.exec = Jvm.exec := C.1
theorem gC.b (C : gC p s m args meth c D A H0 tys cc nL Ts own ret) : c.code = cc := C.2.1
theorem gC.ml (C : gC p s m args meth c D A H0 tys cc nL Ts own ret) : c.maxLocals = nL := C.2.2.1
theorem gC.ow (C : gC p s m args meth c D A H0 tys cc nL Ts own ret) : s.vm.findClass own = some m.cls := C.2.2.2.1
theorem gC.w (C : gC p s m args meth c D A H0 tys cc nL Ts own ret) (w : Cond) (h : w ∈ Ts) : w.before args s = true := C.2.2.2.2.1 w h
theorem gC.ts (C : gC p s m args meth c D A H0 tys cc nL Ts own ret) : ∀ w ∈ Ts, w.before args s = true := C.2.2.2.2.1
theorem gC.K (C : gC p s m args meth c D A H0 tys cc nL Ts own ret) : va_K D vwCl tys s := C.2.2.2.2.2.1
theorem gC.fr (C : gC p s m args meth c D A H0 tys cc nL Ts own ret) : ∀ q : Nat, H0.size ≤ q → A q := C.2.2.2.2.2.2.1
theorem gC.r (C : gC p s m args meth c D A H0 tys cc nL Ts own ret) : meth.sig.returnType = ret := C.2.2.2.2.2.2.2.1
theorem gC.lk (C : gC p s m args meth c D A H0 tys cc nL Ts own ret) : meth.locks = false := C.2.2.2.2.2.2.2.2.1
theorem gC.E (C : gC p s m args meth c D A H0 tys cc nL Ts own ret) : gE A s H0 := C.2.2.2.2.2.2.2.2.2.1
theorem gC.h (C : gC p s m args meth c D A H0 tys cc nL Ts own ret) : H0 = s.heap := C.2.2.2.2.2.2.2.2.2.2
theorem gC.fix (C : gC p s m args meth c D A H0 tys cc nL Ts own ret) : CallFix p m c cc nL s args Ts own := ⟨C.1, C.2.1, C.2.2.1, C.2.2.2.1, C.2.2.2.2.1⟩
def G (p : Program) (l : Launch) (e : Env) (R : Room) (s : State) (m : MethodId) (args : Array Value) (below : List Frame) (meth : Method) (c : Code) (D : va_G) (A : Nat → Prop) (H0 : Heap) (nL k n : Nat) (Q : State → Prop) (pc : Nat) (lv : List (Nat × Value)) (st : List Value) (ws : va_W) : Prop :=
  ∀ (H : Heap) (locs : List Loc) (ls : Array Slot), va_P D vwCl ws H → va_D A ws → va_S A H0 H locs → lv_has ls nL lv → W p l e R s m args below meth c H locs k n Q (F0 m pc ls st)

theorem g_iconst (C : gC p s m args meth c D A H0 tys cc nL Ts own ret) {i : Int} {v : Int32} (hdg : decode cc pc = .ok (.iconst i, 1)) (hv : Int32.ofInt i = v)
    (kk : G p l e R s m args below meth c D A H0 nL k n Q (pc + 1) lv (.int v :: rest) ws) : G p l e R s m args below meth c D A H0 nL k n Q pc lv (rest) ws := fun H locs ls hP hD hS hl => lv_iconst C.x C.b hdg hv (kk H locs ls hP hD hS hl)
theorem g_bipush (C : gC p s m args meth c D A H0 tys cc nL Ts own ret) {i : Int} {v : Int32} (hdg : decode cc pc = .ok (.bipush i, 2)) (hv : (Int8.ofInt i).toInt32 = v)
    (kk : G p l e R s m args below meth c D A H0 nL k n Q (pc + 2) lv (.int v :: rest) ws) : G p l e R s m args below meth c D A H0 nL k n Q pc lv (rest) ws := fun H locs ls hP hD hS hl => lv_bipush C.x C.b hdg hv (kk H locs ls hP hD hS hl)
theorem g_sipush (C : gC p s m args meth c D A H0 tys cc nL Ts own ret) {i : Int} {v : Int32} (hdg : decode cc pc = .ok (.sipush i, 3)) (hv : (Int16.ofInt i).toInt32 = v)
    (kk : G p l e R s m args below meth c D A H0 nL k n Q (pc + 3) lv (.int v :: rest) ws) : G p l e R s m args below meth c D A H0 nL k n Q pc lv (rest) ws := fun H locs ls hP hD hS hl => lv_sipush C.x C.b hdg hv (kk H locs ls hP hD hS hl)
theorem g_lconst (C : gC p s m args meth c D A H0 tys cc nL Ts own ret) {i : Fin 2} {v : Int64} (hdg : decode cc pc = .ok (.lconst i, 1)) (hv : Int64.ofNat (i : Nat) = v)
    (kk : G p l e R s m args below meth c D A H0 nL k n Q (pc + 1) lv (.long v :: rest) ws) : G p l e R s m args below meth c D A H0 nL k n Q pc lv (rest) ws := fun H locs ls hP hD hS hl => lv_lconst C.x C.b hdg hv (kk H locs ls hP hD hS hl)
theorem g_iload_n (C : gC p s m args meth c D A H0 tys cc nL Ts own ret) {j : Fin 4} {i : Nat} {x : Int32} (hdg : decode cc pc = .ok (.iload_n j, 1)) (hi : (j : Nat) = i) (w : Nat) (hw : lv[w]? = some (i, .int x)) (kk : G p l e R s m args below meth c D A H0 nL k n Q (pc + 1) lv (.int x :: rest) ws) : G p l e R s m args below meth c D A H0 nL k n Q pc lv rest ws := fun H locs ls hP hD hS hl => lv_iload_n C.x C.b hdg hi (lv_at hl w hw) (kk H locs ls hP hD hS hl)
theorem g_iload (C : gC p s m args meth c D A H0 tys cc nL Ts own ret) {i : Nat} {x : Int32} (hdg : decode cc pc = .ok (.iload i, 2)) (w : Nat) (hw : lv[w]? = some (i, .int x)) (kk : G p l e R s m args below meth c D A H0 nL k n Q (pc + 2) lv (.int x :: rest) ws) : G p l e R s m args below meth c D A H0 nL k n Q pc lv rest ws := fun H locs ls hP hD hS hl => lv_iload C.x C.b hdg (lv_at hl w hw) (kk H locs ls hP hD hS hl)
theorem g_aload_n (C : gC p s m args meth c D A H0 tys cc nL Ts own ret) {j : Fin 4} {i : Nat} {x : Nat} (hdg : decode cc pc = .ok (.aload_n j, 1)) (hi : (j : Nat) = i) (w : Nat) (hw : lv[w]? = some (i, .ref x)) (kk : G p l e R s m args below meth c D A H0 nL k n Q (pc + 1) lv (.ref x :: rest) ws) : G p l e R s m args below meth c D A H0 nL k n Q pc lv rest ws := fun H locs ls hP hD hS hl => lv_aload_n C.x C.b hdg hi (lv_at hl w hw) (kk H locs ls hP hD hS hl)
theorem g_aload (C : gC p s m args meth c D A H0 tys cc nL Ts own ret) {i : Nat} {x : Nat} (hdg : decode cc pc = .ok (.aload i, 2)) (w : Nat) (hw : lv[w]? = some (i, .ref x)) (kk : G p l e R s m args below meth c D A H0 nL k n Q (pc + 2) lv (.ref x :: rest) ws) : G p l e R s m args below meth c D A H0 nL k n Q pc lv rest ws := fun H locs ls hP hD hS hl => lv_aload C.x C.b hdg (lv_at hl w hw) (kk H locs ls hP hD hS hl)
theorem g_lload_n (C : gC p s m args meth c D A H0 tys cc nL Ts own ret) {j : Fin 4} {i : Nat} {x : Int64} (hdg : decode cc pc = .ok (.lload_n j, 1)) (hi : (j : Nat) = i) (w : Nat) (hw : lv[w]? = some (i, .long x)) (kk : G p l e R s m args below meth c D A H0 nL k n Q (pc + 1) lv (.long x :: rest) ws) : G p l e R s m args below meth c D A H0 nL k n Q pc lv rest ws := fun H locs ls hP hD hS hl => lv_lload_n C.x C.b hdg hi (lv_at hl w hw) (kk H locs ls hP hD hS hl)
theorem g_lload (C : gC p s m args meth c D A H0 tys cc nL Ts own ret) {i : Nat} {x : Int64} (hdg : decode cc pc = .ok (.lload i, 2)) (w : Nat) (hw : lv[w]? = some (i, .long x)) (kk : G p l e R s m args below meth c D A H0 nL k n Q (pc + 2) lv (.long x :: rest) ws) : G p l e R s m args below meth c D A H0 nL k n Q pc lv rest ws := fun H locs ls hP hD hS hl => lv_lload C.x C.b hdg (lv_at hl w hw) (kk H locs ls hP hD hS hl)
theorem g_dload_n (C : gC p s m args meth c D A H0 tys cc nL Ts own ret) {j : Fin 4} {i : Nat} {x : UInt64} (hdg : decode cc pc = .ok (.dload_n j, 1)) (hi : (j : Nat) = i) (w : Nat) (hw : lv[w]? = some (i, .double x)) (kk : G p l e R s m args below meth c D A H0 nL k n Q (pc + 1) lv (.double x :: rest) ws) : G p l e R s m args below meth c D A H0 nL k n Q pc lv rest ws := fun H locs ls hP hD hS hl => lv_dload_n C.x C.b hdg hi (lv_at hl w hw) (kk H locs ls hP hD hS hl)
theorem g_dload (C : gC p s m args meth c D A H0 tys cc nL Ts own ret) {i : Nat} {x : UInt64} (hdg : decode cc pc = .ok (.dload i, 2)) (w : Nat) (hw : lv[w]? = some (i, .double x)) (kk : G p l e R s m args below meth c D A H0 nL k n Q (pc + 2) lv (.double x :: rest) ws) : G p l e R s m args below meth c D A H0 nL k n Q pc lv rest ws := fun H locs ls hP hD hS hl => lv_dload C.x C.b hdg (lv_at hl w hw) (kk H locs ls hP hD hS hl)
theorem g_aload_nN (C : gC p s m args meth c D A H0 tys cc nL Ts own ret) {j : Fin 4} {i : Nat} (hdg : decode cc pc = .ok (.aload_n j, 1)) (hi : (j : Nat) = i) (w : Nat) (hw : lv[w]? = some (i, .null)) (kk : G p l e R s m args below meth c D A H0 nL k n Q (pc + 1) lv (.null :: rest) ws) : G p l e R s m args below meth c D A H0 nL k n Q pc lv rest ws := fun H locs ls hP hD hS hl => lv_aload_nN C.x C.b hdg hi (lv_at hl w hw) (kk H locs ls hP hD hS hl)
theorem g_aloadN (C : gC p s m args meth c D A H0 tys cc nL Ts own ret) {i : Nat} (hdg : decode cc pc = .ok (.aload i, 2)) (w : Nat) (hw : lv[w]? = some (i, .null)) (kk : G p l e R s m args below meth c D A H0 nL k n Q (pc + 2) lv (.null :: rest) ws) : G p l e R s m args below meth c D A H0 nL k n Q pc lv rest ws := fun H locs ls hP hD hS hl => lv_aloadN C.x C.b hdg (lv_at hl w hw) (kk H locs ls hP hD hS hl)
theorem g_istore_n (C : gC p s m args meth c D A H0 tys cc nL Ts own ret) {j : Fin 4} {i : Nat} {x : Int32} (hdg : decode cc pc = .ok (.istore_n j, 1)) (hi : (j : Nat) = i) (hn : i < nL) (hl9 : (i, Value.int x) :: lv.filter (fun q => !(q.1 == i) && !(q.1 + 1 == i && q.2.category == 2)) = lv') (kk : G p l e R s m args below meth c D A H0 nL k n Q (pc + 1) lv' rest ws) : G p l e R s m args below meth c D A H0 nL k n Q pc lv (.int x :: rest) ws := fun H locs ls hP hD hS hl => lv_istore_n C.x C.b hdg hi hl hn hl9 (fun ls2 hl2 => kk H locs ls2 hP hD hS hl2)
theorem g_istore (C : gC p s m args meth c D A H0 tys cc nL Ts own ret) {i : Nat} {x : Int32} (hdg : decode cc pc = .ok (.istore i, 2)) (hn : i < nL) (hl9 : (i, Value.int x) :: lv.filter (fun q => !(q.1 == i) && !(q.1 + 1 == i && q.2.category == 2)) = lv') (kk : G p l e R s m args below meth c D A H0 nL k n Q (pc + 2) lv' rest ws) : G p l e R s m args below meth c D A H0 nL k n Q pc lv (.int x :: rest) ws := fun H locs ls hP hD hS hl => lv_istore C.x C.b hdg hl hn hl9 (fun ls2 hl2 => kk H locs ls2 hP hD hS hl2)
theorem g_astore_n (C : gC p s m args meth c D A H0 tys cc nL Ts own ret) {j : Fin 4} {i : Nat} {x : Nat} (hdg : decode cc pc = .ok (.astore_n j, 1)) (hi : (j : Nat) = i) (hn : i < nL) (hl9 : (i, Value.ref x) :: lv.filter (fun q => !(q.1 == i) && !(q.1 + 1 == i && q.2.category == 2)) = lv') (kk : G p l e R s m args below meth c D A H0 nL k n Q (pc + 1) lv' rest ws) : G p l e R s m args below meth c D A H0 nL k n Q pc lv (.ref x :: rest) ws := fun H locs ls hP hD hS hl => lv_astore_n C.x C.b hdg hi hl hn hl9 (fun ls2 hl2 => kk H locs ls2 hP hD hS hl2)
theorem g_astore (C : gC p s m args meth c D A H0 tys cc nL Ts own ret) {i : Nat} {x : Nat} (hdg : decode cc pc = .ok (.astore i, 2)) (hn : i < nL) (hl9 : (i, Value.ref x) :: lv.filter (fun q => !(q.1 == i) && !(q.1 + 1 == i && q.2.category == 2)) = lv') (kk : G p l e R s m args below meth c D A H0 nL k n Q (pc + 2) lv' rest ws) : G p l e R s m args below meth c D A H0 nL k n Q pc lv (.ref x :: rest) ws := fun H locs ls hP hD hS hl => lv_astore C.x C.b hdg hl hn hl9 (fun ls2 hl2 => kk H locs ls2 hP hD hS hl2)
theorem g_lstore_n (C : gC p s m args meth c D A H0 tys cc nL Ts own ret) {j : Fin 4} {i : Nat} {x : Int64} (hdg : decode cc pc = .ok (.lstore_n j, 1)) (hi : (j : Nat) = i) (hn : i + 1 < nL) (hl9 : (i, Value.long x) :: lv.filter (fun q => !(q.1 == i) && (!(q.1 == i + 1) && !(q.1 + 1 == i && q.2.category == 2))) = lv') (kk : G p l e R s m args below meth c D A H0 nL k n Q (pc + 1) lv' rest ws) : G p l e R s m args below meth c D A H0 nL k n Q pc lv (.long x :: rest) ws := fun H locs ls hP hD hS hl => lv_lstore_n C.x C.b hdg hi hl hn hl9 (fun ls2 hl2 => kk H locs ls2 hP hD hS hl2)
theorem g_lstore (C : gC p s m args meth c D A H0 tys cc nL Ts own ret) {i : Nat} {x : Int64} (hdg : decode cc pc = .ok (.lstore i, 2)) (hn : i + 1 < nL) (hl9 : (i, Value.long x) :: lv.filter (fun q => !(q.1 == i) && (!(q.1 == i + 1) && !(q.1 + 1 == i && q.2.category == 2))) = lv') (kk : G p l e R s m args below meth c D A H0 nL k n Q (pc + 2) lv' rest ws) : G p l e R s m args below meth c D A H0 nL k n Q pc lv (.long x :: rest) ws := fun H locs ls hP hD hS hl => lv_lstore C.x C.b hdg hl hn hl9 (fun ls2 hl2 => kk H locs ls2 hP hD hS hl2)
theorem g_dstore_n (C : gC p s m args meth c D A H0 tys cc nL Ts own ret) {j : Fin 4} {i : Nat} {x : UInt64} (hdg : decode cc pc = .ok (.dstore_n j, 1)) (hi : (j : Nat) = i) (hn : i + 1 < nL) (hl9 : (i, Value.double x) :: lv.filter (fun q => !(q.1 == i) && (!(q.1 == i + 1) && !(q.1 + 1 == i && q.2.category == 2))) = lv') (kk : G p l e R s m args below meth c D A H0 nL k n Q (pc + 1) lv' rest ws) : G p l e R s m args below meth c D A H0 nL k n Q pc lv (.double x :: rest) ws := fun H locs ls hP hD hS hl => lv_dstore_n C.x C.b hdg hi hl hn hl9 (fun ls2 hl2 => kk H locs ls2 hP hD hS hl2)
theorem g_dstore (C : gC p s m args meth c D A H0 tys cc nL Ts own ret) {i : Nat} {x : UInt64} (hdg : decode cc pc = .ok (.dstore i, 2)) (hn : i + 1 < nL) (hl9 : (i, Value.double x) :: lv.filter (fun q => !(q.1 == i) && (!(q.1 == i + 1) && !(q.1 + 1 == i && q.2.category == 2))) = lv') (kk : G p l e R s m args below meth c D A H0 nL k n Q (pc + 2) lv' rest ws) : G p l e R s m args below meth c D A H0 nL k n Q pc lv (.double x :: rest) ws := fun H locs ls hP hD hS hl => lv_dstore C.x C.b hdg hl hn hl9 (fun ls2 hl2 => kk H locs ls2 hP hD hS hl2)
theorem g_astore_nN (C : gC p s m args meth c D A H0 tys cc nL Ts own ret) {j : Fin 4} {i : Nat} (hdg : decode cc pc = .ok (.astore_n j, 1)) (hi : (j : Nat) = i) (hn : i < nL) (hl9 : (i, Value.null) :: lv.filter (fun q => !(q.1 == i) && !(q.1 + 1 == i && q.2.category == 2)) = lv') (kk : G p l e R s m args below meth c D A H0 nL k n Q (pc + 1) lv' rest ws) : G p l e R s m args below meth c D A H0 nL k n Q pc lv (.null :: rest) ws := fun H locs ls hP hD hS hl => lv_astore_nN C.x C.b hdg hi hl hn hl9 (fun ls2 hl2 => kk H locs ls2 hP hD hS hl2)
theorem g_astoreN (C : gC p s m args meth c D A H0 tys cc nL Ts own ret) {i : Nat} (hdg : decode cc pc = .ok (.astore i, 2)) (hn : i < nL) (hl9 : (i, Value.null) :: lv.filter (fun q => !(q.1 == i) && !(q.1 + 1 == i && q.2.category == 2)) = lv') (kk : G p l e R s m args below meth c D A H0 nL k n Q (pc + 2) lv' rest ws) : G p l e R s m args below meth c D A H0 nL k n Q pc lv (.null :: rest) ws := fun H locs ls hP hD hS hl => lv_astoreN C.x C.b hdg hl hn hl9 (fun ls2 hl2 => kk H locs ls2 hP hD hS hl2)
theorem g_iinc (C : gC p s m args meth c D A H0 tys cc nL Ts own ret) {i : Nat} {z : Int} {x v : Int32} (hdg : decode cc pc = .ok (.iinc i z, 3)) (w : Nat) (hw : lv[w]? = some (i, .int x)) (hv : x + Int32.ofInt z = v) (hn : i < nL) (hl9 : (i, Value.int v) :: lv.filter (fun q => !(q.1 == i) && !(q.1 + 1 == i && q.2.category == 2)) = lv') (kk : G p l e R s m args below meth c D A H0 nL k n Q (pc + 3) lv' rest ws) : G p l e R s m args below meth c D A H0 nL k n Q pc lv rest ws := fun H locs ls hP hD hS hl => lv_iinc C.x C.b hdg hl hw hv hn hl9 (fun ls2 hl2 => kk H locs ls2 hP hD hS hl2)
theorem g_iadd (C : gC p s m args meth c D A H0 tys cc nL Ts own ret) {x y : Int32} (hdg : decode cc pc = .ok (.iadd, 1)) 
    (kk : G p l e R s m args below meth c D A H0 nL k n Q (pc + 1) lv (.int (x + y) :: rest) ws) : G p l e R s m args below meth c D A H0 nL k n Q pc lv (.int y :: .int x :: rest) ws := fun H locs ls hP hD hS hl => lv_iadd C.x C.b hdg  (kk H locs ls hP hD hS hl)
theorem g_isub (C : gC p s m args meth c D A H0 tys cc nL Ts own ret) {x y : Int32} (hdg : decode cc pc = .ok (.isub, 1)) 
    (kk : G p l e R s m args below meth c D A H0 nL k n Q (pc + 1) lv (.int (x - y) :: rest) ws) : G p l e R s m args below meth c D A H0 nL k n Q pc lv (.int y :: .int x :: rest) ws := fun H locs ls hP hD hS hl => lv_isub C.x C.b hdg  (kk H locs ls hP hD hS hl)
theorem g_imul (C : gC p s m args meth c D A H0 tys cc nL Ts own ret) {x y : Int32} (hdg : decode cc pc = .ok (.imul, 1)) 
    (kk : G p l e R s m args below meth c D A H0 nL k n Q (pc + 1) lv (.int (x * y) :: rest) ws) : G p l e R s m args below meth c D A H0 nL k n Q pc lv (.int y :: .int x :: rest) ws := fun H locs ls hP hD hS hl => lv_imul C.x C.b hdg  (kk H locs ls hP hD hS hl)
theorem g_iand (C : gC p s m args meth c D A H0 tys cc nL Ts own ret) {x y : Int32} (hdg : decode cc pc = .ok (.iand, 1)) 
    (kk : G p l e R s m args below meth c D A H0 nL k n Q (pc + 1) lv (.int (x &&& y) :: rest) ws) : G p l e R s m args below meth c D A H0 nL k n Q pc lv (.int y :: .int x :: rest) ws := fun H locs ls hP hD hS hl => lv_iand C.x C.b hdg  (kk H locs ls hP hD hS hl)
theorem g_idiv (C : gC p s m args meth c D A H0 tys cc nL Ts own ret) {x y : Int32} (hdg : decode cc pc = .ok (.idiv, 1)) (hne : ¬ y = 0)
    (kk : G p l e R s m args below meth c D A H0 nL k n Q (pc + 1) lv (.int (x / y) :: rest) ws) : G p l e R s m args below meth c D A H0 nL k n Q pc lv (.int y :: .int x :: rest) ws := fun H locs ls hP hD hS hl => lv_idiv C.x C.b hdg hne (kk H locs ls hP hD hS hl)
theorem g_irem (C : gC p s m args meth c D A H0 tys cc nL Ts own ret) {x y : Int32} (hdg : decode cc pc = .ok (.irem, 1)) (hne : ¬ y = 0)
    (kk : G p l e R s m args below meth c D A H0 nL k n Q (pc + 1) lv (.int (x - x / y * y) :: rest) ws) : G p l e R s m args below meth c D A H0 nL k n Q pc lv (.int y :: .int x :: rest) ws := fun H locs ls hP hD hS hl => lv_irem C.x C.b hdg hne (kk H locs ls hP hD hS hl)
theorem g_ladd (C : gC p s m args meth c D A H0 tys cc nL Ts own ret) {x y : Int64} (hdg : decode cc pc = .ok (.ladd, 1)) 
    (kk : G p l e R s m args below meth c D A H0 nL k n Q (pc + 1) lv (.long (x + y) :: rest) ws) : G p l e R s m args below meth c D A H0 nL k n Q pc lv (.long y :: .long x :: rest) ws := fun H locs ls hP hD hS hl => lv_ladd C.x C.b hdg  (kk H locs ls hP hD hS hl)
theorem g_lmul (C : gC p s m args meth c D A H0 tys cc nL Ts own ret) {x y : Int64} (hdg : decode cc pc = .ok (.lmul, 1)) 
    (kk : G p l e R s m args below meth c D A H0 nL k n Q (pc + 1) lv (.long (x * y) :: rest) ws) : G p l e R s m args below meth c D A H0 nL k n Q pc lv (.long y :: .long x :: rest) ws := fun H locs ls hP hD hS hl => lv_lmul C.x C.b hdg  (kk H locs ls hP hD hS hl)
theorem g_i2l (C : gC p s m args meth c D A H0 tys cc nL Ts own ret) {x : Int32} (hdg : decode cc pc = .ok (.i2l, 1)) 
    (kk : G p l e R s m args below meth c D A H0 nL k n Q (pc + 1) lv (.long x.toInt64 :: rest) ws) : G p l e R s m args below meth c D A H0 nL k n Q pc lv (.int x :: rest) ws := fun H locs ls hP hD hS hl => lv_i2l C.x C.b hdg rfl (kk H locs ls hP hD hS hl)
theorem g_i2d (C : gC p s m args meth c D A H0 tys cc nL Ts own ret) {x : Int32} (hdg : decode cc pc = .ok (.i2d, 1)) 
    (kk : G p l e R s m args below meth c D A H0 nL k n Q (pc + 1) lv (.double (FP.i2d x) :: rest) ws) : G p l e R s m args below meth c D A H0 nL k n Q pc lv (.int x :: rest) ws := fun H locs ls hP hD hS hl => lv_i2d C.x C.b hdg  (kk H locs ls hP hD hS hl)
theorem g_ddiv (C : gC p s m args meth c D A H0 tys cc nL Ts own ret) {x y : UInt64} (hdg : decode cc pc = .ok (.ddiv, 1)) (hne : vf_n64 (FP.ddiv x y))
    (kk : G p l e R s m args below meth c D A H0 nL k n Q (pc + 1) lv (.double (FP.ddiv x y) :: rest) ws) : G p l e R s m args below meth c D A H0 nL k n Q pc lv (.double y :: .double x :: rest) ws := fun H locs ls hP hD hS hl => lv_ddiv C.x C.b hdg hne (kk H locs ls hP hD hS hl)
theorem g_lcmp (C : gC p s m args meth c D A H0 tys cc nL Ts own ret) {x y : Int64} (hdg : decode cc pc = .ok (.lcmp, 1)) 
    (kk : G p l e R s m args below meth c D A H0 nL k n Q (pc + 1) lv (.int (lg_cmp x y) :: rest) ws) : G p l e R s m args below meth c D A H0 nL k n Q pc lv (.long y :: .long x :: rest) ws := fun H locs ls hP hD hS hl => W.lcmp C.x C.b hdg  (kk H locs ls hP hD hS hl)
theorem g_dcmp (C : gC p s m args meth c D A H0 tys cc nL Ts own ret) {x y : UInt64} {op : CmpOp} (hdg : decode cc pc = .ok (.dcmp op, 1)) 
    (kk : G p l e R s m args below meth c D A H0 nL k n Q (pc + 1) lv (.int (Op.cmpValue (FP.dcmp x y) op) :: rest) ws) : G p l e R s m args below meth c D A H0 nL k n Q pc lv (.double y :: .double x :: rest) ws := fun H locs ls hP hD hS hl => lv_dcmp C.x C.b hdg  (kk H locs ls hP hD hS hl)
theorem g_dup (C : gC p s m args meth c D A H0 tys cc nL Ts own ret) {va : Value} (hdg : decode cc pc = .ok (.dup, 1)) (hva : va.category = 1)
    (kk : G p l e R s m args below meth c D A H0 nL k n Q (pc + 1) lv (va :: va :: rest) ws) : G p l e R s m args below meth c D A H0 nL k n Q pc lv (va :: rest) ws := fun H locs ls hP hD hS hl => lv_dup C.x C.b hdg hva (kk H locs ls hP hD hS hl)
theorem g_pop (C : gC p s m args meth c D A H0 tys cc nL Ts own ret) {va : Value} (hdg : decode cc pc = .ok (.pop, 1)) (hva : va.category = 1)
    (kk : G p l e R s m args below meth c D A H0 nL k n Q (pc + 1) lv (rest) ws) : G p l e R s m args below meth c D A H0 nL k n Q pc lv (va :: rest) ws := fun H locs ls hP hD hS hl => lv_pop C.x C.b hdg hva (kk H locs ls hP hD hS hl)
theorem g_null (C : gC p s m args meth c D A H0 tys cc nL Ts own ret)  (hdg : decode cc pc = .ok (.aconst_null, 1)) 
    (kk : G p l e R s m args below meth c D A H0 nL k n Q (pc + 1) lv (.null :: rest) ws) : G p l e R s m args below meth c D A H0 nL k n Q pc lv (rest) ws := fun H locs ls hP hD hS hl => lv_null C.x C.b hdg  (kk H locs ls hP hD hS hl)
theorem g_if_eq (C : gC p s m args meth c D A H0 tys cc nL Ts own ret) {x : Int32} {off : Int} {tgt : Nat} (hdg : decode cc pc = .ok (.ifCond .eq off, 3)) (ht : (pc : Int) + off = (tgt : Int)) (kt : x = 0 → G p l e R s m args below meth c D A H0 nL k n Q tgt lv rest ws) (kf : ¬ x = 0 → G p l e R s m args below meth c D A H0 nL k n Q (pc + 3) lv rest ws) : G p l e R s m args below meth c D A H0 nL k n Q pc lv (.int x :: rest) ws := fun H locs ls hP hD hS hl => lv_if_eq C.x C.b hdg ht (fun h => kt h H locs ls hP hD hS hl) (fun h => kf h H locs ls hP hD hS hl)
theorem g_icmp_eq (C : gC p s m args meth c D A H0 tys cc nL Ts own ret) {x y : Int32} {off : Int} {tgt : Nat} (hdg : decode cc pc = .ok (.if_icmp .eq off, 3)) (ht : (pc : Int) + off = (tgt : Int)) (kt : x = y → G p l e R s m args below meth c D A H0 nL k n Q tgt lv rest ws) (kf : ¬ x = y → G p l e R s m args below meth c D A H0 nL k n Q (pc + 3) lv rest ws) : G p l e R s m args below meth c D A H0 nL k n Q pc lv (.int y :: .int x :: rest) ws := fun H locs ls hP hD hS hl => lv_icmp_eq C.x C.b hdg ht (fun h => kt h H locs ls hP hD hS hl) (fun h => kf h H locs ls hP hD hS hl)
theorem g_if_ne (C : gC p s m args meth c D A H0 tys cc nL Ts own ret) {x : Int32} {off : Int} {tgt : Nat} (hdg : decode cc pc = .ok (.ifCond .ne off, 3)) (ht : (pc : Int) + off = (tgt : Int)) (kt : ¬ x = 0 → G p l e R s m args below meth c D A H0 nL k n Q tgt lv rest ws) (kf : x = 0 → G p l e R s m args below meth c D A H0 nL k n Q (pc + 3) lv rest ws) : G p l e R s m args below meth c D A H0 nL k n Q pc lv (.int x :: rest) ws := fun H locs ls hP hD hS hl => lv_if_ne C.x C.b hdg ht (fun h => kt h H locs ls hP hD hS hl) (fun h => kf h H locs ls hP hD hS hl)
theorem g_icmp_ne (C : gC p s m args meth c D A H0 tys cc nL Ts own ret) {x y : Int32} {off : Int} {tgt : Nat} (hdg : decode cc pc = .ok (.if_icmp .ne off, 3)) (ht : (pc : Int) + off = (tgt : Int)) (kt : ¬ x = y → G p l e R s m args below meth c D A H0 nL k n Q tgt lv rest ws) (kf : x = y → G p l e R s m args below meth c D A H0 nL k n Q (pc + 3) lv rest ws) : G p l e R s m args below meth c D A H0 nL k n Q pc lv (.int y :: .int x :: rest) ws := fun H locs ls hP hD hS hl => lv_icmp_ne C.x C.b hdg ht (fun h => kt h H locs ls hP hD hS hl) (fun h => kf h H locs ls hP hD hS hl)
theorem g_if_lt (C : gC p s m args meth c D A H0 tys cc nL Ts own ret) {x : Int32} {off : Int} {tgt : Nat} (hdg : decode cc pc = .ok (.ifCond .lt off, 3)) (ht : (pc : Int) + off = (tgt : Int)) (kt : x < 0 → G p l e R s m args below meth c D A H0 nL k n Q tgt lv rest ws) (kf : ¬ x < 0 → G p l e R s m args below meth c D A H0 nL k n Q (pc + 3) lv rest ws) : G p l e R s m args below meth c D A H0 nL k n Q pc lv (.int x :: rest) ws := fun H locs ls hP hD hS hl => lv_if_lt C.x C.b hdg ht (fun h => kt h H locs ls hP hD hS hl) (fun h => kf h H locs ls hP hD hS hl)
theorem g_icmp_lt (C : gC p s m args meth c D A H0 tys cc nL Ts own ret) {x y : Int32} {off : Int} {tgt : Nat} (hdg : decode cc pc = .ok (.if_icmp .lt off, 3)) (ht : (pc : Int) + off = (tgt : Int)) (kt : x < y → G p l e R s m args below meth c D A H0 nL k n Q tgt lv rest ws) (kf : ¬ x < y → G p l e R s m args below meth c D A H0 nL k n Q (pc + 3) lv rest ws) : G p l e R s m args below meth c D A H0 nL k n Q pc lv (.int y :: .int x :: rest) ws := fun H locs ls hP hD hS hl => lv_icmp_lt C.x C.b hdg ht (fun h => kt h H locs ls hP hD hS hl) (fun h => kf h H locs ls hP hD hS hl)
theorem g_if_ge (C : gC p s m args meth c D A H0 tys cc nL Ts own ret) {x : Int32} {off : Int} {tgt : Nat} (hdg : decode cc pc = .ok (.ifCond .ge off, 3)) (ht : (pc : Int) + off = (tgt : Int)) (kt : 0 ≤ x → G p l e R s m args below meth c D A H0 nL k n Q tgt lv rest ws) (kf : ¬ 0 ≤ x → G p l e R s m args below meth c D A H0 nL k n Q (pc + 3) lv rest ws) : G p l e R s m args below meth c D A H0 nL k n Q pc lv (.int x :: rest) ws := fun H locs ls hP hD hS hl => lv_if_ge C.x C.b hdg ht (fun h => kt h H locs ls hP hD hS hl) (fun h => kf h H locs ls hP hD hS hl)
theorem g_icmp_ge (C : gC p s m args meth c D A H0 tys cc nL Ts own ret) {x y : Int32} {off : Int} {tgt : Nat} (hdg : decode cc pc = .ok (.if_icmp .ge off, 3)) (ht : (pc : Int) + off = (tgt : Int)) (kt : y ≤ x → G p l e R s m args below meth c D A H0 nL k n Q tgt lv rest ws) (kf : ¬ y ≤ x → G p l e R s m args below meth c D A H0 nL k n Q (pc + 3) lv rest ws) : G p l e R s m args below meth c D A H0 nL k n Q pc lv (.int y :: .int x :: rest) ws := fun H locs ls hP hD hS hl => lv_icmp_ge C.x C.b hdg ht (fun h => kt h H locs ls hP hD hS hl) (fun h => kf h H locs ls hP hD hS hl)
theorem g_if_gt (C : gC p s m args meth c D A H0 tys cc nL Ts own ret) {x : Int32} {off : Int} {tgt : Nat} (hdg : decode cc pc = .ok (.ifCond .gt off, 3)) (ht : (pc : Int) + off = (tgt : Int)) (kt : 0 < x → G p l e R s m args below meth c D A H0 nL k n Q tgt lv rest ws) (kf : ¬ 0 < x → G p l e R s m args below meth c D A H0 nL k n Q (pc + 3) lv rest ws) : G p l e R s m args below meth c D A H0 nL k n Q pc lv (.int x :: rest) ws := fun H locs ls hP hD hS hl => lv_if_gt C.x C.b hdg ht (fun h => kt h H locs ls hP hD hS hl) (fun h => kf h H locs ls hP hD hS hl)
theorem g_icmp_gt (C : gC p s m args meth c D A H0 tys cc nL Ts own ret) {x y : Int32} {off : Int} {tgt : Nat} (hdg : decode cc pc = .ok (.if_icmp .gt off, 3)) (ht : (pc : Int) + off = (tgt : Int)) (kt : y < x → G p l e R s m args below meth c D A H0 nL k n Q tgt lv rest ws) (kf : ¬ y < x → G p l e R s m args below meth c D A H0 nL k n Q (pc + 3) lv rest ws) : G p l e R s m args below meth c D A H0 nL k n Q pc lv (.int y :: .int x :: rest) ws := fun H locs ls hP hD hS hl => lv_icmp_gt C.x C.b hdg ht (fun h => kt h H locs ls hP hD hS hl) (fun h => kf h H locs ls hP hD hS hl)
theorem g_if_le (C : gC p s m args meth c D A H0 tys cc nL Ts own ret) {x : Int32} {off : Int} {tgt : Nat} (hdg : decode cc pc = .ok (.ifCond .le off, 3)) (ht : (pc : Int) + off = (tgt : Int)) (kt : x ≤ 0 → G p l e R s m args below meth c D A H0 nL k n Q tgt lv rest ws) (kf : ¬ x ≤ 0 → G p l e R s m args below meth c D A H0 nL k n Q (pc + 3) lv rest ws) : G p l e R s m args below meth c D A H0 nL k n Q pc lv (.int x :: rest) ws := fun H locs ls hP hD hS hl => lv_if_le C.x C.b hdg ht (fun h => kt h H locs ls hP hD hS hl) (fun h => kf h H locs ls hP hD hS hl)
theorem g_icmp_le (C : gC p s m args meth c D A H0 tys cc nL Ts own ret) {x y : Int32} {off : Int} {tgt : Nat} (hdg : decode cc pc = .ok (.if_icmp .le off, 3)) (ht : (pc : Int) + off = (tgt : Int)) (kt : x ≤ y → G p l e R s m args below meth c D A H0 nL k n Q tgt lv rest ws) (kf : ¬ x ≤ y → G p l e R s m args below meth c D A H0 nL k n Q (pc + 3) lv rest ws) : G p l e R s m args below meth c D A H0 nL k n Q pc lv (.int y :: .int x :: rest) ws := fun H locs ls hP hD hS hl => lv_icmp_le C.x C.b hdg ht (fun h => kt h H locs ls hP hD hS hl) (fun h => kf h H locs ls hP hD hS hl)
theorem g_goto (C : gC p s m args meth c D A H0 tys cc nL Ts own ret) {off : Int} {tgt : Nat} (hdg : decode cc pc = .ok (.goto off, 3)) (ht : (pc : Int) + off = (tgt : Int)) (kk : G p l e R s m args below meth c D A H0 nL k n Q tgt lv rest ws) : G p l e R s m args below meth c D A H0 nL k n Q pc lv rest ws := fun H locs ls hP hD hS hl => lv_goto C.x C.b hdg ht (kk H locs ls hP hD hS hl)
theorem g_ifnull (C : gC p s m args meth c D A H0 tys cc nL Ts own ret) {x : Nat} {off : Int} (hdg : decode cc pc = .ok (.ifnull off, 3)) (kk : G p l e R s m args below meth c D A H0 nL k n Q (pc + 3) lv rest ws) : G p l e R s m args below meth c D A H0 nL k n Q pc lv (.ref x :: rest) ws := fun H locs ls hP hD hS hl => lv_ifnull C.x C.b hdg (kk H locs ls hP hD hS hl)
theorem g_ifnullN (C : gC p s m args meth c D A H0 tys cc nL Ts own ret) {off : Int} {tgt : Nat} (hdg : decode cc pc = .ok (.ifnull off, 3)) (ht : (pc : Int) + off = (tgt : Int)) (kk : G p l e R s m args below meth c D A H0 nL k n Q tgt lv rest ws) : G p l e R s m args below meth c D A H0 nL k n Q pc lv (.null :: rest) ws := fun H locs ls hP hD hS hl => lv_ifnullN C.x C.b hdg ht (kk H locs ls hP hD hS hl)
theorem g_ifnonnull (C : gC p s m args meth c D A H0 tys cc nL Ts own ret) {x : Nat} {off : Int} {tgt : Nat} (hdg : decode cc pc = .ok (.ifnonnull off, 3)) (ht : (pc : Int) + off = (tgt : Int)) (kk : G p l e R s m args below meth c D A H0 nL k n Q tgt lv rest ws) : G p l e R s m args below meth c D A H0 nL k n Q pc lv (.ref x :: rest) ws := fun H locs ls hP hD hS hl => lv_ifnonnull C.x C.b hdg ht (kk H locs ls hP hD hS hl)
theorem g_ifnonnullN (C : gC p s m args meth c D A H0 tys cc nL Ts own ret) {off : Int} (hdg : decode cc pc = .ok (.ifnonnull off, 3)) (kk : G p l e R s m args below meth c D A H0 nL k n Q (pc + 3) lv rest ws) : G p l e R s m args below meth c D A H0 nL k n Q pc lv (.null :: rest) ws := fun H locs ls hP hD hS hl => lv_ifnonnullN C.x C.b hdg (kk H locs ls hP hD hS hl)
theorem g_tableIn (C : gC p s m args meth c D A H0 tys cc nL Ts own ret) {dflt lo hi : Int} {offs : Array Int} {len : Nat} {x : Int32} {off : Int} {tgt : Nat} (hdg : decode cc pc = .ok (.tableswitch dflt lo hi offs, len)) (h1 : ¬ x.toInt < lo) (h2 : ¬ hi < x.toInt) (ho : offs[(x.toInt - lo).toNat]? = some off) (ht : (pc : Int) + off = (tgt : Int)) (kk : G p l e R s m args below meth c D A H0 nL k n Q tgt lv rest ws) : G p l e R s m args below meth c D A H0 nL k n Q pc lv (.int x :: rest) ws := fun H locs ls hP hD hS hl => lv_tableIn C.x C.b hdg h1 h2 ho ht (kk H locs ls hP hD hS hl)
theorem g_tableOut (C : gC p s m args meth c D A H0 tys cc nL Ts own ret) {dflt lo hi : Int} {offs : Array Int} {len : Nat} {x : Int32} {tgt : Nat} (hdg : decode cc pc = .ok (.tableswitch dflt lo hi offs, len)) (h : x.toInt < lo ∨ hi < x.toInt) (ht : (pc : Int) + dflt = (tgt : Int)) (kk : G p l e R s m args below meth c D A H0 nL k n Q tgt lv rest ws) : G p l e R s m args below meth c D A H0 nL k n Q pc lv (.int x :: rest) ws := fun H locs ls hP hD hS hl => lv_tableOut C.x C.b hdg h ht (kk H locs ls hP hD hS hl)
theorem g_lookup (C : gC p s m args meth c D A H0 tys cc nL Ts own ret) {dflt : Int} {ps : Array (Int × Int)} {len : Nat} {x : Int32} {off : Int} {tgt : Nat} (hdg : decode cc pc = .ok (.lookupswitch dflt ps, len)) (hp : (ps.toList.zip (ps.toList.drop 1)).all (fun (a, next) => a.1 < next.1) = true) (ho : Op.lookupswitch.offset ps.toList dflt x.toInt = off) (ht : (pc : Int) + off = (tgt : Int)) (kk : G p l e R s m args below meth c D A H0 nL k n Q tgt lv rest ws) : G p l e R s m args below meth c D A H0 nL k n Q pc lv (.int x :: rest) ws := fun H locs ls hP hD hS hl => lv_lookup C.x C.b hdg hp ho ht (kk H locs ls hP hD hS hl)
theorem g_topi {x : Int32} (kk : ∀ y : Int32, y = x → G p l e R s m args below meth c D A H0 nL k n Q pc lv (.int y :: rest) ws) : G p l e R s m args below meth c D A H0 nL k n Q pc lv (.int x :: rest) ws := kk x rfl
theorem g_sub {st : List Value} (is : List Nat) (hq : lv_pick lv is = lv') (kk : G p l e R s m args below meth c D A H0 nL k n Q pc lv' st ws) : G p l e R s m args below meth c D A H0 nL k n Q pc lv st ws := fun H locs ls hP hD hS hl => kk H locs ls hP hD hS (lv_sub hl is hq)
theorem g_more {st : List Value} {k2 n2 : Nat} (h1 : k ≤ k2) (h2 : n ≤ n2) (kk : G p l e R s m args below meth c D A H0 nL k2 n2 Q pc lv st ws) : G p l e R s m args below meth c D A H0 nL k n Q pc lv st ws := fun H locs ls hP hD hS hl => W.widen h1 h2 (kk H locs ls hP hD hS hl)
theorem g_ldc2 (C : gC p s m args meth c D A H0 tys cc nL Ts own ret) {index : Nat} {v : Int64} (hdg : decode cc pc = .ok (.ldc2_w index, 3)) (hc : Cond.constantLong own index v ∈ Ts) (kk : G p l e R s m args below meth c D A H0 nL k n Q (pc + 3) lv (.long v :: rest) ws) : G p l e R s m args below meth c D A H0 nL k n Q pc lv rest ws := fun H locs ls hP hD hS hl => lv_ldc2 C.x C.b C.ow (C.w _ hc) hdg (kk H locs ls hP hD hS hl)
theorem g_ldc2d (C : gC p s m args meth c D A H0 tys cc nL Ts own ret) {index : Nat} {v : UInt64} (hdg : decode cc pc = .ok (.ldc2_w index, 3)) (hc : Cond.constantDouble own index v ∈ Ts) (kk : G p l e R s m args below meth c D A H0 nL k n Q (pc + 3) lv (.double v :: rest) ws) : G p l e R s m args below meth c D A H0 nL k n Q pc lv rest ws := fun H locs ls hP hD hS hl => lv_ldc2d C.x C.b C.ow (C.w _ hc) hdg (kk H locs ls hP hD hS hl)
theorem g_get (C : gC p s m args meth c D A H0 tys cc nL Ts own ret) {ref Cn : String} {T : u_T} {N ci index a : Nat} {fs : List Value} {v : Value} (hin : ∀ w ∈ u_ws Cn T N, w ∈ Ts) (he : (a, .inr (ci, fs)) ∈ ws) (hc : vwCl[ci]? = some (Cn, T, N)) (f : Nat) (hf : f < N) (hlink : Cond.fieldLink own index ref (T f).2.1 (T f).2.2.1 ∈ Ts) (hsame : (T f).1 = ref) (hv : fs[f]? = some v) (hdg : decode cc pc = .ok (.getfield index, 3)) (kk : G p l e R s m args below meth c D A H0 nL k n Q (pc + 3) lv (v :: rest) ws) : G p l e R s m args below meth c D A H0 nL k n Q pc lv (.ref a :: rest) ws := fun H locs ls hP hD hS hl => (List.getElem?_of_mem he).elim fun q0 he => va_get C.x C.b C.ts hin C.ow C.K hP q0 he hc f hf (C.w _ hlink) (fun _ h => by rw [← hsame]; exact h) hv hdg (kk H locs ls hP hD hS hl)
theorem g_getN (C : gC p s m args meth c D A H0 tys cc nL Ts own ret) {ref Cn host : String} {T : u_T} {N ci index a : Nat} {fs : List Value} {v : Value} (hin : ∀ w ∈ u_ws Cn T N, w ∈ Ts) (he : (a, .inr (ci, fs)) ∈ ws) (hc : vwCl[ci]? = some (Cn, T, N)) (f : Nat) (hf : f < N) (hlink : Cond.fieldLinkNest own index ref (T f).2.1 (T f).2.2.1 host ∈ gN) (hsame : (T f).1 = ref) (hv : fs[f]? = some v) (hdg : decode cc pc = .ok (.getfield index, 3)) (kk : G p l e R s m args below meth c D A H0 nL k n Q (pc + 3) lv (v :: rest) ws) : G p l e R s m args below meth c D A H0 nL k n Q pc lv (.ref a :: rest) ws := fun H locs ls hP hD hS hl => (List.getElem?_of_mem he).elim fun q0 he => va_getN C.x C.b C.ts hin C.ow C.K hP q0 he hc f hf (va_Nw.use rfl (C.E.2.2.1 _ hlink)) (fun _ h => by rw [← hsame]; exact h) hv hdg (kk H locs ls hP hD hS hl)
theorem g_put (C : gC p s m args meth c D A H0 tys cc nL Ts own ret) {ref Cn : String} {T : u_T} {N ci index a : Nat} {fs : List Value} {v : Value} {ty : FieldType} (hin : ∀ w ∈ u_ws Cn T N, w ∈ Ts) (ty0 : Nat → FieldType) (hty : ∀ k, k < N → parseFieldDescriptor (T k).2.2.1 = some (ty0 k)) (hnm : ∀ a, a < N → ∀ b, b < N → a ≠ b → (T a).2.1 ≠ (T b).2.1) (q0 : Nat) (he : ws[q0]? = some (a, .inr (ci, fs))) (hc : vwCl[ci]? = some (Cn, T, N)) (f : Nat) (hf : f < N) (hlink : Cond.fieldLink own index ref (T f).2.1 (T f).2.2.1 ∈ Ts) (hsame : (T f).1 = ref) (hfin : (T f).2.2.2 = false) (hd : parseFieldDescriptor (T f).2.2.1 = some ty) (hn : narrow ty v = v) (hfit : fits ty v = true) (hl9 : f < fs.length) (hdg : decode cc pc = .ok (.putfield index, 3)) (hw : ws.set q0 (a, .inr (ci, fs.set f v)) = ws') (kk : G p l e R s m args below meth c D A H0 nL k n Q (pc + 3) lv rest ws') : G p l e R s m args below meth c D A H0 nL k n Q pc lv (v :: .ref a :: rest) ws := fun H locs ls hP hD hS hl => va_put C.x C.b C.ts hin ty0 hty hnm C.ow C.K hP hD hS q0 he hc f hf (C.w _ hlink) (fun _ h => by rw [← hsame]; exact h) hfin hd hn hfit hl9 hdg (fun H1 locs1 hP1 hD1 hS1 => by rw [hw] at hP1 hD1; exact kk H1 locs1 ls hP1 hD1 hS1 hl)
theorem g_putN (C : gC p s m args meth c D A H0 tys cc nL Ts own ret) {ref Cn host : String} {T : u_T} {N ci index a : Nat} {fs : List Value} {v : Value} {ty : FieldType} (hin : ∀ w ∈ u_ws Cn T N, w ∈ Ts) (ty0 : Nat → FieldType) (hty : ∀ k, k < N → parseFieldDescriptor (T k).2.2.1 = some (ty0 k)) (hnm : ∀ a, a < N → ∀ b, b < N → a ≠ b → (T a).2.1 ≠ (T b).2.1) (q0 : Nat) (he : ws[q0]? = some (a, .inr (ci, fs))) (hc : vwCl[ci]? = some (Cn, T, N)) (f : Nat) (hf : f < N) (hlink : Cond.fieldLinkNest own index ref (T f).2.1 (T f).2.2.1 host ∈ gN) (hsame : (T f).1 = ref) (hfin : (T f).2.2.2 = false) (hd : parseFieldDescriptor (T f).2.2.1 = some ty) (hn : narrow ty v = v) (hfit : fits ty v = true) (hl9 : f < fs.length) (hdg : decode cc pc = .ok (.putfield index, 3)) (hw : ws.set q0 (a, .inr (ci, fs.set f v)) = ws') (kk : G p l e R s m args below meth c D A H0 nL k n Q (pc + 3) lv rest ws') : G p l e R s m args below meth c D A H0 nL k n Q pc lv (v :: .ref a :: rest) ws := fun H locs ls hP hD hS hl => va_putN C.x C.b C.ts hin ty0 hty hnm C.ow C.K hP hD hS q0 he hc f hf (va_Nw.use rfl (C.E.2.2.1 _ hlink)) (fun _ h => by rw [← hsame]; exact h) hfin hd hn hfit hl9 hdg (fun H1 locs1 hP1 hD1 hS1 => by rw [hw] at hP1 hD1; exact kk H1 locs1 ls hP1 hD1 hS1 hl)
theorem g_putF (C : gC p s m args meth c D A H0 tys cc nL Ts own ret) {ref Cn : String} {T : u_T} {N ci index a : Nat} {fs : List Value} {v : Value} {ty : FieldType} (hin2 : meth.name = "<init>") (hin : ∀ w ∈ u_ws Cn T N, w ∈ Ts) (ty0 : Nat → FieldType) (hty : ∀ k, k < N → parseFieldDescriptor (T k).2.2.1 = some (ty0 k)) (hnm : ∀ a, a < N → ∀ b, b < N → a ≠ b → (T a).2.1 ≠ (T b).2.1) (q0 : Nat) (he : ws[q0]? = some (a, .inr (ci, fs))) (hc : vwCl[ci]? = some (Cn, T, N)) (f : Nat) (hf : f < N) (hlink : Cond.fieldLink own index ref (T f).2.1 (T f).2.2.1 ∈ Ts) (hsame : (T f).1 = ref) (hfin : (T f).2.2.2 = true) (hdecl : (T f).1 = own) (hd : parseFieldDescriptor (T f).2.2.1 = some ty) (hn : narrow ty v = v) (hfit : fits ty v = true) (hl9 : f < fs.length) (hdg : decode cc pc = .ok (.putfield index, 3)) (hw : ws.set q0 (a, .inr (ci, fs.set f v)) = ws') (kk : G p l e R s m args below meth c D A H0 nL k n Q (pc + 3) lv rest ws') : G p l e R s m args below meth c D A H0 nL k n Q pc lv (v :: .ref a :: rest) ws := fun H locs ls hP hD hS hl => va_putF C.x C.b C.ts hin ty0 hty hnm C.ow C.K hP hD hS q0 he hc f hf (C.w _ hlink) (fun _ h => by rw [← hsame]; exact h) hfin hin2 hdecl hd hn hfit hl9 hdg (fun H1 locs1 hP1 hD1 hS1 => by rw [hw] at hP1 hD1; exact kk H1 locs1 ls hP1 hD1 hS1 hl)
theorem g_iald (C : gC p s m args meth c D A H0 tys cc nL Ts own ret) {cA : ClassId} {N a : Nat} {f : Nat → Int32} {i : Int32} (t0 : Nat) (ha : (a, .inl (cA, N, .inl f)) ∈ ws) (ht : tys[t0]? = some (cA, .int)) (hin : vp_in i N) (hdg : decode cc pc = .ok (.iaload, 1)) (kk : G p l e R s m args below meth c D A H0 nL k n Q (pc + 1) lv (.int (f i.toNatClampNeg) :: rest) ws) : G p l e R s m args below meth c D A H0 nL k n Q pc lv (.int i :: .ref a :: rest) ws := fun H locs ls hP hD hS hl => (List.getElem?_of_mem ha).elim fun q0 ha => va_iald C.x C.b C.K hP q0 t0 ha ht hin hdg (kk H locs ls hP hD hS hl)
theorem g_iast (C : gC p s m args meth c D A H0 tys cc nL Ts own ret) {cA : ClassId} {N a : Nat} {f : Nat → Int32} {i x : Int32} (q0 t0 : Nat) (ha : ws[q0]? = some (a, .inl (cA, N, .inl f))) (ht : tys[t0]? = some (cA, .int)) (hin : vp_in i N) (hdg : decode cc pc = .ok (.iastore, 1)) (hw : ws.set q0 (a, .inl (cA, N, .inl (upd f i.toNatClampNeg x))) = ws') (kk : G p l e R s m args below meth c D A H0 nL k n Q (pc + 1) lv rest ws') : G p l e R s m args below meth c D A H0 nL k n Q pc lv (.int x :: .int i :: .ref a :: rest) ws := fun H locs ls hP hD hS hl => va_iast C.x C.b C.K hP hD hS q0 t0 ha ht hin hdg (fun H1 locs1 hP1 hD1 hS1 => by rw [hw] at hP1 hD1; exact kk H1 locs1 ls hP1 hD1 hS1 hl)
theorem g_lald (C : gC p s m args meth c D A H0 tys cc nL Ts own ret) {cA : ClassId} {N a : Nat} {f : Nat → Int64} {i : Int32} (t0 : Nat) (ha : (a, .inl (cA, N, .inr (.inl f))) ∈ ws) (ht : tys[t0]? = some (cA, .long)) (hin : vp_in i N) (hdg : decode cc pc = .ok (.laload, 1)) (kk : G p l e R s m args below meth c D A H0 nL k n Q (pc + 1) lv (.long (f i.toNatClampNeg) :: rest) ws) : G p l e R s m args below meth c D A H0 nL k n Q pc lv (.int i :: .ref a :: rest) ws := fun H locs ls hP hD hS hl => (List.getElem?_of_mem ha).elim fun q0 ha => va_lald C.x C.b C.K hP q0 t0 ha ht hin hdg (kk H locs ls hP hD hS hl)
theorem g_last (C : gC p s m args meth c D A H0 tys cc nL Ts own ret) {cA : ClassId} {N a : Nat} {f : Nat → Int64} {i : Int32} {x : Int64} (q0 t0 : Nat) (ha : ws[q0]? = some (a, .inl (cA, N, .inr (.inl f)))) (ht : tys[t0]? = some (cA, .long)) (hin : vp_in i N) (hdg : decode cc pc = .ok (.lastore, 1)) (hw : ws.set q0 (a, .inl (cA, N, .inr (.inl (vp_updL f i.toNatClampNeg x)))) = ws') (kk : G p l e R s m args below meth c D A H0 nL k n Q (pc + 1) lv rest ws') : G p l e R s m args below meth c D A H0 nL k n Q pc lv (.long x :: .int i :: .ref a :: rest) ws := fun H locs ls hP hD hS hl => va_last C.x C.b C.K hP hD hS q0 t0 ha ht hin hdg (fun H1 locs1 hP1 hD1 hS1 => by rw [hw] at hP1 hD1; exact kk H1 locs1 ls hP1 hD1 hS1 hl)
theorem g_aald (C : gC p s m args meth c D A H0 tys cc nL Ts own ret) {cA : ClassId} {N a : Nat} {Cn : String} {f : Nat → Option Nat} {i : Int32} (t0 : Nat) (ha : (a, .inl (cA, N, .inr (.inr (.inr (.inr f))))) ∈ ws) (ht : tys[t0]? = some (cA, .object Cn)) (hin : vp_in i N) (hdg : decode cc pc = .ok (.aaload, 1)) (kk : G p l e R s m args below meth c D A H0 nL k n Q (pc + 1) lv (va_rf (f i.toNatClampNeg) :: rest) ws) : G p l e R s m args below meth c D A H0 nL k n Q pc lv (.int i :: .ref a :: rest) ws := fun H locs ls hP hD hS hl => (List.getElem?_of_mem ha).elim fun q0 ha => va_aldq C.x C.b C.K hP q0 t0 ha ht hin hdg (kk H locs ls hP hD hS hl)
theorem g_aast (C : gC p s m args meth c D A H0 tys cc nL Ts own ret) {cA : ClassId} {r : vw_C} {N a v : Nat} {vs : List Value} {f : Nat → Option Nat} {i : Int32} (q0 t0 qk ci : Nat) (ha : ws[q0]? = some (a, .inl (cA, N, .inr (.inr (.inr (.inr f)))))) (ht : tys[t0]? = some (cA, .object r.1)) (hv : ws[qk]? = some (v, .inr (ci, vs))) (hc : vwCl[ci]? = some r) (hin : vp_in i N) (hdg : decode cc pc = .ok (.aastore, 1)) (hw : ws.set q0 (a, .inl (cA, N, .inr (.inr (.inr (.inr (va_up f i.toNatClampNeg (some v))))))) = ws') (kk : G p l e R s m args below meth c D A H0 nL k n Q (pc + 1) lv rest ws') : G p l e R s m args below meth c D A H0 nL k n Q pc lv (.ref v :: .int i :: .ref a :: rest) ws := fun H locs ls hP hD hS hl => va_astq C.x C.b C.K hP hD hS q0 t0 qk ci ha ht hv hc hin hdg (fun H1 locs1 hP1 hD1 hS1 => by rw [hw] at hP1 hD1; exact kk H1 locs1 ls hP1 hD1 hS1 hl)
theorem g_alen (C : gC p s m args meth c D A H0 tys cc nL Ts own ret) {cA : ClassId} {a : Nat} {x : vp_A} {ty : FieldType} {v : Int32} (t0 : Nat) (ha : (a, .inl (cA, x)) ∈ ws) (ht : tys[t0]? = some (cA, ty)) (hv : Int32.ofNat x.1 = v) (hdg : decode cc pc = .ok (.arraylength, 1)) (kk : G p l e R s m args below meth c D A H0 nL k n Q (pc + 1) lv (.int v :: rest) ws) : G p l e R s m args below meth c D A H0 nL k n Q pc lv (.ref a :: rest) ws := fun H locs ls hP hD hS hl => (List.getElem?_of_mem ha).elim fun q0 ha => va_alen C.x C.b C.K hP q0 t0 ha ht hv hdg (kk H locs ls hP hD hS hl)
theorem g_max (C : gC p s m args meth c D A H0 tys cc nL Ts own ret) {index : Nat} {x y : Int32} (hlink : Cond.methodLink own index Lib.Math.max.name ∈ Ts) (hstat : Cond.static Lib.Math.max.name ∈ Ts) (hini : Cond.initialized "java/lang/Math" ∈ Ts) (hcode : Cond.code Lib.Math.max.name Lib.Math.max.code 2 (some .int) ∈ Ts) (hfr : 1 ≤ R.frames) (hlo : (rest.map fun v => v.category).sum + 13 ≤ R.locals) (hk : k ≤ R.cells) (hn : n ≤ R.slots) (hdg : decode cc pc = .ok (.invokestatic index, 3)) (kk : G p l e R s m args below meth c D A H0 nL k n Q (pc + 3) lv (.int (if x < y then y else x) :: rest) ws) : G p l e R s m args below meth c D A H0 nL k n Q pc lv (.int y :: .int x :: rest) ws := fun H locs ls hP hD hS hl => va_mmax C.x C.b (C.ml.trans hl.1.symm) C.ow (C.w _ hlink) (C.w _ hstat) (C.w _ hini) (C.w _ hcode) hfr hlo hk hn hdg (kk H locs ls hP hD hS hl)
theorem g_copy (C : gC p s m args meth c D A H0 tys cc nL Ts own ret) {index : Nat} {a0 a1 : Nat} {c0 : ClassId} {n0 n1 : Nat} {f g : Nat → Int32} {N : Int32} {N0 : Nat} (q0 q1 t0 : Nat) (ha0 : ws[q0]? = some (a0, .inl (c0, n0, .inl f))) (ha1 : ws[q1]? = some (a1, .inl (c0, n1, .inl g))) (ht0 : tys[t0]? = some (c0, .int)) (hlink : Cond.methodLink own index arraycopyName ∈ Ts) (hnat : (Cond.native arraycopyName) ∈ Ts) (hstat : Cond.static arraycopyName ∈ Ts) (hini : Cond.initialized "java/lang/System" ∈ Ts) (h3 : ¬ N < 0) (hN : N.toNatClampNeg = N0) (h4 : N0 ≤ n0) (h5 : N0 ≤ n1) (hfr : 1 ≤ R.frames) (hlo : (rest.map fun v => v.category).sum + (nativeFrameWords "java/lang/System" "arraycopy" 5 + 11) ≤ R.locals) (hdg : decode cc pc = .ok (.invokestatic index, 3)) (hw : ws.set q1 (a1, .inl (c0, n1, .inl (va_cpy f g 0 0 N0))) = ws') (kk : G p l e R s m args below meth c D A H0 nL k n Q (pc + 3) lv rest ws') : G p l e R s m args below meth c D A H0 nL k n Q pc lv (.int N :: .int 0 :: .ref a1 :: .int 0 :: .ref a0 :: rest) ws := by
  intro H locs ls hP hD hS hl
  subst hN
  refine va_copyi C.x C.b (C.ml.trans hl.1.symm) C.ow (C.w _ hlink) (C.w _ hnat) (C.w _ hstat) (C.w _ hini) C.K hP hD hS q0 q1 t0 t0 ha0 ha1 ht0 ht0 rfl (by decide) (by decide) h3 (by simpa using h4) (by simpa using h5) (fun _ _ => rfl) hfr hlo hdg (fun H1 locs1 hP1 hD1 hS1 => ?_)
  have e0 : (0 : Int32).toNatClampNeg = 0 := by decide
  rw [e0, hw] at hP1 hD1
  exact kk H1 locs1 ls hP1 hD1 hS1 hl
theorem g_new (C : gC p s m args meth c D A H0 tys cc nL Ts own ret) {Cn : String} {T : u_T} {N ci index : Nat} {fs : List Value} (hin : ∀ w ∈ u_ws Cn T N, w ∈ Ts) (ty : Nat → FieldType) (hty : ∀ k, k < N → parseFieldDescriptor (T k).2.2.1 = some (ty k)) (hcl : Cond.classLink own index Cn ∈ Ts) (hinst : Cond.instantiable Cn N ∈ Ts) (hini : Cond.initialized Cn ∈ Ts) (hc : vwCl[ci]? = some (Cn, T, N)) (hfs : ∀ j, j < N → defaultValue (ty j) = vp_V fs j) (hcells : k + 1 ≤ R.cells) (hslots : n + N ≤ R.slots) (hdg : decode cc pc = .ok (.new index, 3)) (kk : ∀ q : Nat, (∀ x ∈ ws, x.1 ≠ q) → G p l e R s m args below meth c D A H0 nL (k + 1) (n + N) Q (pc + 3) lv (.ref q :: rest) (ws ++ [(q, .inr (ci, fs))])) : G p l e R s m args below meth c D A H0 nL k n Q pc lv rest ws := by
  intro H locs ls hP hD hS hl
  refine va_new C.x C.b C.ts hin ty hty C.ow (C.w _ hcl) (C.w _ hinst) (C.w _ hini) C.K hP hD hS C.fr hc hfs hcells hslots hdg (fun q H1 hP1 hD1 hS1 => ?_)
  refine kk q (fun x hx e => ?_) H1 locs ls hP1 hD1 hS1 hl
  obtain ⟨i, hi, hx2⟩ := List.mem_iff_getElem.mp hx
  have h1 : (ws ++ [(q, .inr (ci, fs))])[i]? = some x := by rw [List.getElem?_append_left hi, List.getElem?_eq_getElem hi, hx2]
  have h2 : (ws ++ [(q, (.inr (ci, fs) : va_E))])[ws.length]? = some (q, .inr (ci, fs)) := by simp
  have := hD1.1 i ws.length x (q, .inr (ci, fs)) h1 h2 e
  omega
theorem g_newa (C : gC p s m args meth c D A H0 tys cc nL Ts own ret) {N : Int32} {N0 : Nat} {cI : ClassId} (t0 : Nat) (ht : tys[t0]? = some (cI, .int)) (harr : Cond.arrayClass .int ∈ Ts) (hn : ¬ N < 0) (hN : N.toNatClampNeg = N0) (hbytes : N0 * 4 ≤ 536870912) (hcells : k + 1 ≤ R.cells) (hslots : n + N0 ≤ R.slots) (hdg : decode cc pc = .ok (.newarray .int, 2)) (kk : ∀ q : Nat, G p l e R s m args below meth c D A H0 nL (k + 1) (n + N0) Q (pc + 2) lv (.ref q :: rest) (ws ++ [(q, .inl (cI, N0, .inl (fun _ => 0)))])) : G p l e R s m args below meth c D A H0 nL k n Q pc lv (.int N :: rest) ws := by
  intro H locs ls hP hD hS hl
  refine va_newa (atype := .int) (ty := .int) (a0 := (N0, .inl (fun _ => 0))) C.x C.b (C.w _ harr) rfl C.K hP hD hS C.fr (fun cA => rfl) hn hN hbytes hcells hslots hdg (fun q cA H1 hK1 hP1 hD1 hS1 => ?_)
  have e1 := (hK1.2 tys.length (cA, .int) (by simp)).2
  have e2 := (C.K.2 t0 (cI, .int) ht).2
  have e3 : cA = cI := Option.some.inj (Eq.trans (Eq.symm e1) e2)
  subst e3
  exact kk q H1 locs ls hP1 hD1 hS1 hl
theorem g_newl (C : gC p s m args meth c D A H0 tys cc nL Ts own ret) {N : Int32} {N0 : Nat} {cI : ClassId} (t0 : Nat) (ht : tys[t0]? = some (cI, .long)) (harr : Cond.arrayClass .long ∈ Ts) (hn : ¬ N < 0) (hN : N.toNatClampNeg = N0) (hbytes : N0 * 8 ≤ 536870912) (hcells : k + 1 ≤ R.cells) (hslots : n + N0 ≤ R.slots) (hdg : decode cc pc = .ok (.newarray .long, 2)) (kk : ∀ q : Nat, G p l e R s m args below meth c D A H0 nL (k + 1) (n + N0) Q (pc + 2) lv (.ref q :: rest) (ws ++ [(q, .inl (cI, N0, .inr (.inl (fun _ => 0))))])) : G p l e R s m args below meth c D A H0 nL k n Q pc lv (.int N :: rest) ws := by
  intro H locs ls hP hD hS hl
  refine va_newa (atype := .long) (ty := .long) (a0 := (N0, .inr (.inl (fun _ => 0)))) C.x C.b (C.w _ harr) rfl C.K hP hD hS C.fr (fun cA => rfl) hn hN hbytes hcells hslots hdg (fun q cA H1 hK1 hP1 hD1 hS1 => ?_)
  have e1 := (hK1.2 tys.length (cA, .long) (by simp)).2
  have e2 := (C.K.2 t0 (cI, .long) ht).2
  have e3 : cA = cI := Option.some.inj (Eq.trans (Eq.symm e1) e2)
  subst e3
  exact kk q H1 locs ls hP1 hD1 hS1 hl
theorem g_newq (C : gC p s m args meth c D A H0 tys cc nL Ts own ret) {N : Int32} {N0 index : Nat} {Cn : String} {cI : ClassId} (t0 : Nat) (ht : tys[t0]? = some (cI, .object Cn)) (hcl : Cond.classLink own index Cn ∈ Ts) (hover : Cond.arrayOver (.object Cn) ∈ Ts) (hn : ¬ N < 0) (hN : N.toNatClampNeg = N0) (hbytes : N0 * 4 ≤ 536870912) (hcells : k + 1 ≤ R.cells) (hslots : n + N0 ≤ R.slots) (hdg : decode cc pc = .ok (.anewarray index, 3)) (kk : ∀ q : Nat, G p l e R s m args below meth c D A H0 nL (k + 1) (n + N0) Q (pc + 3) lv (.ref q :: rest) (ws ++ [(q, .inl (cI, N0, .inr (.inr (.inr (.inr (fun _ => none))))))])) : G p l e R s m args below meth c D A H0 nL k n Q pc lv (.int N :: rest) ws := by
  intro H locs ls hP hD hS hl
  have hov : va_AO Cn s := va_AO.of (C.w _ hover)
  refine va_newq C.x C.b C.ow (C.w _ hcl) hov C.K hP hD hS C.fr hn hN hbytes hcells hslots hdg (fun q cA H1 hK1 hP1 hD1 hS1 => ?_)
  obtain ⟨k1, c1, -, -, -, e1⟩ := (hK1.2 tys.length (cA, .object Cn) (by simp)).2
  obtain ⟨k2, c2, -, -, -, e2⟩ := (C.K.2 t0 (cI, .object Cn) ht).2
  have e3 : cA = cI := Option.some.inj (Eq.trans (Eq.symm e1) e2)
  subst e3
  exact kk q H1 locs ls hP1 hD1 hS1 hl
theorem g_objInit (C : gC p s m args meth c D A H0 tys cc nL Ts own ret) {index a : Nat} (hlink : Cond.methodLink own index Lib.objectInit ∈ Ts) (hinst : Cond.instanceMethod Lib.objectInit ∈ Ts) (hcode : Cond.code Lib.objectInit ⟨#[0xb1]⟩ 1 none ∈ Ts) (hfr : 1 ≤ R.frames) (hlo : (rest.map fun v => v.category).sum + 12 ≤ R.locals) (hdg : decode cc pc = .ok (.invokespecial index, 3)) (kk : G p l e R s m args below meth c D A H0 nL k n Q (pc + 3) lv rest ws) : G p l e R s m args below meth c D A H0 nL k n Q pc lv (.ref a :: rest) ws := fun H locs ls hP hD hS hl => W.objInit C.x C.b C.ow (C.w _ hlink) (C.w _ hinst) (C.w _ hcode) rfl (C.ml.symm ▸ hl.1) rfl hdg hfr (by simpa [JFrame.monitorRoom] using hlo) (kk H locs ls hP hD hS hl)
/-- the world in another order, or with rows that agree as far as they go -/
theorem g_perm {st : List Value} (hp : ws.Perm ws') (kk : G p l e R s m args below meth c D A H0 nL k n Q pc lv st ws') : G p l e R s m args below meth c D A H0 nL k n Q pc lv st ws := by
  intro H locs ls hP hD hS hl
  refine kk H locs ls (fun i q hq => ?_) ⟨fun i j x y hx hy e => ?_, fun i q hq => ?_⟩ hS hl
  · obtain ⟨j, hj⟩ := List.getElem?_of_mem (hp.mem_iff.mpr (List.mem_of_getElem? hq))
    exact hP j q hj
  · have hn : (ws.map Prod.fst).Nodup := by
      rw [List.nodup_iff_pairwise_ne, List.pairwise_iff_getElem]
      intro i j hi hj hij he
      rw [List.length_map] at hi hj
      rw [List.getElem_map, List.getElem_map] at he
      have := hD.1 i j _ _ (List.getElem?_eq_getElem hi) (List.getElem?_eq_getElem hj) he
      omega
    have hn2 : (ws'.map Prod.fst).Nodup := (hp.map Prod.fst).nodup_iff.mp hn
    obtain ⟨hi, hx2⟩ := List.getElem?_eq_some_iff.mp hx
    obtain ⟨hj, hy2⟩ := List.getElem?_eq_some_iff.mp hy
    have h1 : (ws'.map Prod.fst)[i]'(by rw [List.length_map]; exact hi) = (ws'.map Prod.fst)[j]'(by rw [List.length_map]; exact hj) := by
      rw [List.getElem_map, List.getElem_map, hx2, hy2]; exact e
    have hp2 := List.pairwise_iff_getElem.mp hn2
    rcases Nat.lt_trichotomy i j with h | h | h
    · exact absurd h1 (hp2 i j _ _ h)
    · exact h
    · exact absurd h1.symm (hp2 j i _ _ h)
  · obtain ⟨j, hj⟩ := List.getElem?_of_mem (hp.mem_iff.mpr (List.mem_of_getElem? hq))
    exact hD.2 j q hj
/-- a call's end, in the caller -/
theorem g_after (C : gC p s m args meth c D A H0 tys cc nL Ts own ret) {H : Heap} {locs : List Loc} {ls : Array Slot} {A1 : Nat → Prop} {a : Array Value} {free : Addr → Prop} {st : List Value} (hr : va_Run p l e R s m args below meth c H locs k n mc ms (F0 m pc ls st) rest (gQ post D A1 a) free) (hS : va_S A H0 H locs) (hl : lv_has ls nL lv) (hA : ∀ q, A1 q → A q) (hf : ∀ q, free q → A q)
    (kk : ∀ (v : Option Value) (w : va_W), post v w → G p l e R s m args below meth c D A H0 nL (k + mc) (n + ms) Q (pc + 3) lv (v.toList ++ rest) w) : W p l e R s m args below meth c H locs k n Q (F0 m pc ls st) := by
  intro T hT X
  obtain ⟨v, st₀, t, T', L, h0, X', hL, e1, e2, ⟨⟨r, w, hv, hp, hPw, hDw⟩, hz, hk⟩, st⟩ := hr T hT X
  cases hv
  rw [h0] at hz hk
  obtain ⟨t2, a1, b1⟩ := kk _ w hp T'.heap (locs ++ L) ls (by rw [e1]; exact hPw) (hDw.weaken (fun _ q _ h => hA _ h))
    ⟨Nat.le_trans hS.1 (by rw [e1]; exact hz), fun q h1 h2 => by rw [e1, hk q (Nat.lt_of_lt_of_le h1 hS.1) (fun z => h2 (hA q z))]; exact hS.2.1 q h1 h2, fun q hq => by
      rcases List.mem_append.mp hq with h | h
      · exact hS.2.2 q h
      · exact hf _ (hL q h)⟩ hl T' rfl X'
  exact ⟨t2, st t2 a1, b1⟩
theorem gC.in (C : gC p s m args meth c D A H0 tys cc nL Ts own ret) {H : Heap} {locs : List Loc} (hD : va_D A ws) (hS : va_S A H0 H locs) : ∀ q, va_A ws H.size q → A q := by
  intro q h
  rcases h with ⟨i, x, h⟩ | h
  · exact hD.2 i (q, x) h
  · exact C.fr q (Nat.le_trans hS.1 h)
theorem gC.pre (C : gC p s m args meth c D A H0 tys cc nL Ts own ret) {H : Heap} {locs : List Loc} {U : State} {As : List Value} (hP : va_P D vwCl ws H) (hD : va_D A ws) (hS : va_S A H0 H locs) (hU : U.heap = H) (hW : s.WarmedH U.vm) : gP D tys As ws H.size As.toArray U :=
  ⟨rfl, by rw [hU], by rw [hU]; exact hP, va_K.moved hW.alike C.K, hD.weaken (fun _ _ _ _ => trivial), by rw [hU]; exact C.E.call hS (C.in hD hS) hW⟩

theorem g_is {x : Value} {W1 : va_W} (kk : G p l e R s m args below meth c D A H0 nL k n Q pc lv (x :: rest) W1) : ∀ (v : Option Value) (w : va_W), gIs (some x) W1 v w → G p l e R s m args below meth c D A H0 nL k n Q pc lv (v.toList ++ rest) w := by
  rintro v w ⟨rfl, rfl⟩
  exact kk
theorem g_isV {W1 : va_W} (kk : G p l e R s m args below meth c D A H0 nL k n Q pc lv rest W1) : ∀ (v : Option Value) (w : va_W), gIs none W1 v w → G p l e R s m args below meth c D A H0 nL k n Q pc lv (v.toList ++ rest) w := by
  rintro v w ⟨rfl, rfl⟩
  exact kk
section
variable {y : MethodName} {bytes : ByteArray} {maxL index na : Nat} {rt : Option FieldType} {words : List Cond} {rm : Room} {As : List Value} {b : Nat} {st : List Value} {px : String → Prop}
theorem g_callS (C : gC p s m args meth c D A H0 tys cc nL Ts own ret) (hM : gM l y words rm D tys As ws post mc ms) (cw : CallB R s args own index y bytes maxL rt words rm mc ms na ∧ (Cond.static y).before args s = true) (hn : As.length = na) (hst : st = As.reverse ++ rest) (hcat : (rest.map fun v => v.category).sum ≤ 8) (hdg : decode cc pc = .ok (.invokestatic index, 3)) (hk : k + mc ≤ R.cells) (hs : n + ms ≤ R.slots)
    (kk : ∀ (v : Option Value) (w : va_W), post v w → G p l e R s m args below meth c D A H0 nL (k + mc) (n + ms) Q (pc + 3) lv (v.toList ++ rest) w) : G p l e R s m args below meth c D A H0 nL k n Q pc lv st ws := fun H locs ls hP hD hS hl =>
  g_after C (va_runS C.fix (hM H.size) cw ⟨gP_blind, fun U hU hW => C.pre hP hD hS hU hW⟩ rfl hn hl.1 hst (lv_room hcat) hdg ⟨hk, hs⟩) hS hl (C.in hD hS) (C.in hD hS) kk
theorem g_callV (C : gC p s m args meth c D A H0 tys cc nL Ts own ret) {ci : Nat} {fs : List Value} {r : vw_C} {Cn : String} (he : (b, .inr (ci, fs)) ∈ ws) (hc : vwCl[ci]? = some r) (hr : r.1 = Cn) (hM : gM l y words rm D tys (.ref b :: As) ws post mc ms) (cw : CallW R s args own Cn index y bytes maxL rt words rm mc ms na) (hn : As.length = na) (hst : st = As.reverse ++ .ref b :: rest) (hcat : (rest.map fun v => v.category).sum ≤ 8) (hdg : decode cc pc = .ok (.invokevirtual index, 3)) (hk : k + mc ≤ R.cells) (hs : n + ms ≤ R.slots)
    (kk : ∀ (v : Option Value) (w : va_W), post v w → G p l e R s m args below meth c D A H0 nL (k + mc) (n + ms) Q (pc + 3) lv (v.toList ++ rest) w) : G p l e R s m args below meth c D A H0 nL k n Q pc lv st ws := fun H locs ls hP hD hS hl => (List.getElem?_of_mem he).elim fun q0 he =>
  g_after C (va_runV C.fix (hM H.size) cw ⟨gP_blind, by rw [← hr]; exact va_recv C.K hP hc he, fun U hU hW => C.pre hP hD hS hU hW⟩ rfl hn hl.1 hst (lv_room hcat) hdg ⟨hk, hs⟩) hS hl (C.in hD hS) (C.in hD hS) kk
theorem g_callI (C : gC p s m args meth c D A H0 tys cc nL Ts own ret) (hM : gM l y words rm D tys (.ref b :: As) ws post mc ms) (cw : CallB R s args own index y bytes maxL none words rm mc ms na ∧ y.name = "<init>" ∧ (Cond.instanceMethod y).before args s = true) (hn : As.length = na) (hst : st = As.reverse ++ .ref b :: rest) (hcat : (rest.map fun v => v.category).sum ≤ 8) (hdg : decode cc pc = .ok (.invokespecial index, 3)) (hk : k + mc ≤ R.cells) (hs : n + ms ≤ R.slots)
    (kk : ∀ (v : Option Value) (w : va_W), post v w → G p l e R s m args below meth c D A H0 nL (k + mc) (n + ms) Q (pc + 3) lv (v.toList ++ rest) w) : G p l e R s m args below meth c D A H0 nL k n Q pc lv st ws := fun H locs ls hP hD hS hl =>
  g_after C (va_runI C.fix (hM H.size) cw ⟨gP_blind, fun U hU hW => C.pre hP hD hS hU hW⟩ rfl hn hl.1 hst (lv_room hcat) hdg ⟨hk, hs⟩) hS hl (C.in hD hS) (C.in hD hS) kk
theorem g_callSN (C : gC p s m args meth c D A H0 tys cc nL Ts own ret) {host : String} (hM : gM l y words rm D tys As ws post mc ms) (cw : va_CN R s args own index y host bytes maxL rt words rm mc ms na ∧ (Cond.static y).before args s = true ∧ True) (hn : As.length = na) (hst : st = As.reverse ++ rest) (hcat : (rest.map fun v => v.category).sum ≤ 8) (hdg : decode cc pc = .ok (.invokestatic index, 3)) (hk : k + mc ≤ R.cells) (hs : n + ms ≤ R.slots)
    (kk : ∀ (v : Option Value) (w : va_W), post v w → G p l e R s m args below meth c D A H0 nL (k + mc) (n + ms) Q (pc + 3) lv (v.toList ++ rest) w) : G p l e R s m args below meth c D A H0 nL k n Q pc lv st ws := fun H locs ls hP hD hS hl =>
  g_after C (va_runSN C.fix (hM H.size) cw ⟨gP_blind, fun U hU hW => C.pre hP hD hS hU hW⟩ rfl hn hl.1 hst (lv_room hcat) hdg ⟨hk, hs⟩) hS hl (C.in hD hS) (C.in hD hS) kk
theorem g_callIN (C : gC p s m args meth c D A H0 tys cc nL Ts own ret) {host : String} (hM : gM l y words rm D tys (.ref b :: As) ws post mc ms) (cw : va_CN R s args own index y host bytes maxL none words rm mc ms na ∧ y.name = "<init>" ∧ (Cond.instanceMethod y).before args s = true) (hn : As.length = na) (hst : st = As.reverse ++ .ref b :: rest) (hcat : (rest.map fun v => v.category).sum ≤ 8) (hdg : decode cc pc = .ok (.invokespecial index, 3)) (hk : k + mc ≤ R.cells) (hs : n + ms ≤ R.slots)
    (kk : ∀ (v : Option Value) (w : va_W), post v w → G p l e R s m args below meth c D A H0 nL (k + mc) (n + ms) Q (pc + 3) lv (v.toList ++ rest) w) : G p l e R s m args below meth c D A H0 nL k n Q pc lv st ws := fun H locs ls hP hD hS hl =>
  g_after C (va_runIN C.fix (hM H.size) cw ⟨gP_blind, fun U hU hW => C.pre hP hD hS hU hW⟩ rfl hn hl.1 hst (lv_room hcat) hdg ⟨hk, hs⟩) hS hl (C.in hD hS) (C.in hD hS) kk
end
/-- ends -/
theorem g_iret (C : gC p s m args meth c D A H0 tys cc nL Ts own (some .int)) {v : Int32} (hQ : ∀ t, MQ below (gQ post D A) args s mc ms A t → Q t) (hk : k ≤ mc) (hn : n ≤ ms) (hdg : decode cc pc = .ok (.ireturn, 1)) (hq : post (some (.int v)) ws) : G p l e R s m args below meth c D A H0 nL k n Q pc lv [.int v] ws := by
  intro H locs ls hP hD hS hl T hT X
  obtain ⟨t, a1, b1⟩ := W.widen hk hn (W.iret (Qc := gQ post D A) (free := A) C.x C.b C.r (fun t ht hW => ⟨⟨_, ws, rfl, hq, by rw [ht]; exact hP, hD⟩, by rw [C.h] at hS; exact hS.F ht⟩) hS.2.2 hdg C.lk) T hT X
  exact ⟨t, a1, hQ t b1⟩
theorem g_zret (C : gC p s m args meth c D A H0 tys cc nL Ts own (some .boolean)) {v : Int32} (hv : v = 0 ∨ v = 1) (hQ : ∀ t, MQ below (gQ post D A) args s mc ms A t → Q t) (hk : k ≤ mc) (hn : n ≤ ms) (hdg : decode cc pc = .ok (.ireturn, 1)) (hq : post (some (.int v)) ws) : G p l e R s m args below meth c D A H0 nL k n Q pc lv [.int v] ws := by
  intro H locs ls hP hD hS hl T hT X
  obtain ⟨t, a1, b1⟩ := W.widen hk hn (W.zret (Qc := gQ post D A) (free := A) C.x C.b C.r (by rcases hv with h | h <;> subst h <;> decide) (fun t ht hW => ⟨⟨_, ws, rfl, hq, by rw [ht]; exact hP, hD⟩, by rw [C.h] at hS; exact hS.F ht⟩) hS.2.2 hdg C.lk) T hT X
  exact ⟨t, a1, hQ t b1⟩
theorem g_lret (C : gC p s m args meth c D A H0 tys cc nL Ts own (some .long)) {v : Int64} (hQ : ∀ t, MQ below (gQ post D A) args s mc ms A t → Q t) (hk : k ≤ mc) (hn : n ≤ ms) (hdg : decode cc pc = .ok (.lreturn, 1)) (hq : post (some (.long v)) ws) : G p l e R s m args below meth c D A H0 nL k n Q pc lv [.long v] ws := by
  intro H locs ls hP hD hS hl T hT X
  obtain ⟨t, a1, b1⟩ := W.widen hk hn (W.lret (Qc := gQ post D A) (free := A) C.x C.b C.r (fun t ht hW => ⟨⟨_, ws, rfl, hq, by rw [ht]; exact hP, hD⟩, by rw [C.h] at hS; exact hS.F ht⟩) hS.2.2 hdg C.lk) T hT X
  exact ⟨t, a1, hQ t b1⟩
theorem g_dret (C : gC p s m args meth c D A H0 tys cc nL Ts own (some .double)) {v : UInt64} (hQ : ∀ t, MQ below (gQ post D A) args s mc ms A t → Q t) (hk : k ≤ mc) (hn : n ≤ ms) (hdg : decode cc pc = .ok (.dreturn, 1)) (hq : post (some (.double v)) ws) : G p l e R s m args below meth c D A H0 nL k n Q pc lv [.double v] ws := by
  intro H locs ls hP hD hS hl T hT X
  obtain ⟨t, a1, b1⟩ := W.widen hk hn (W.dret (Qc := gQ post D A) (free := A) C.x C.b C.r (fun t ht hW => ⟨⟨_, ws, rfl, hq, by rw [ht]; exact hP, hD⟩, by rw [C.h] at hS; exact hS.F ht⟩) hS.2.2 hdg C.lk) T hT X
  exact ⟨t, a1, hQ t b1⟩
theorem g_aret {cn : String} (C : gC p s m args meth c D A H0 tys cc nL Ts own (some (.object cn))) {v : Value} (hv : v = .null ∨ ∃ a, v = .ref a) (hQ : ∀ t, MQ below (gQ post D A) args s mc ms A t → Q t) (hk : k ≤ mc) (hn : n ≤ ms) (hdg : decode cc pc = .ok (.areturn, 1)) (hq : post (some v) ws) : G p l e R s m args below meth c D A H0 nL k n Q pc lv [v] ws := by
  intro H locs ls hP hD hS hl T hT X
  obtain ⟨t, a1, b1⟩ := W.widen hk hn (W.aret (Qc := gQ post D A) (free := A) C.x C.b C.r (Or.inl ⟨_, rfl⟩) hv (fun t ht hW => ⟨⟨_, ws, rfl, hq, by rw [ht]; exact hP, hD⟩, by rw [C.h] at hS; exact hS.F ht⟩) hS.2.2 hdg C.lk) T hT X
  exact ⟨t, a1, hQ t b1⟩
theorem g_vret (C : gC p s m args meth c D A H0 tys cc nL Ts own none) (hQ : ∀ t, MQ below (gQ post D A) args s mc ms A t → Q t) (hk : k ≤ mc) (hn : n ≤ ms) (hdg : decode cc pc = .ok (.return_, 1)) (hq : post none ws) : G p l e R s m args below meth c D A H0 nL k n Q pc lv [] ws := by
  intro H locs ls hP hD hS hl T hT X
  obtain ⟨t, a1, b1⟩ := W.widen hk hn (W.vret (Qc := gQ post D A) (free := A) C.x C.b C.r (fun t ht hW => ⟨⟨_, ws, rfl, hq, by rw [ht]; exact hP, hD⟩, by rw [C.h] at hS; exact hS.F ht⟩) hS.2.2 hdg C.lk) T hT X
  exact ⟨t, a1, hQ t b1⟩
end GL
/-- a contract out of its body's walk -/
theorem gM_of {l : Launch} {y : MethodName} {words words' : List Cond} {rm : Room} {D : va_G} {tys : List (ClassId × FieldType)} {As : List Value} {W0 : va_W} {post : Option Value → va_W → Prop} {mc ms : Nat} {cc : ByteArray} {maxL : Nat} {ret : Option FieldType}
    (hy : plainName y.cls = true) (hw : words = Cond.code y cc maxL ret :: words') (hlen : (lg_sl As).length ≤ maxL)
    (body : ∀ (p : Program) (e : Env) (s : State) (m : MethodId) (args : Array Value) (below : List Frame) (meth : Method) (c : Code) (A : Nat → Prop) (Q : State → Prop), meth.name = y.name → gC p s m args meth c D A s.heap tys cc maxL words y.cls ret → (∀ t, MQ below (gQ post D A) args s mc ms A t → Q t) →
      G p l e rm s m args below meth c D A s.heap maxL 0 0 Q 0 (lv_args 0 As) [] W0) : gM l y words rm D tys As W0 post mc ms := by
  intro sz
  refine Met.ofW hy hw ?_
  intro p e s m args below meth c s₁ B hml hv
  obtain ⟨rfl, hsz, hP, hK, hD0, hE⟩ := hv
  subst hsz
  have hl := lv_entry As (n := maxL) hlen
  rw [lg_entry_eq]
  exact body p e s m _ below meth c (va_A W0 s.heap.size) _ (name_of_methodNamed B.named B.method).1 ⟨B.exec, B.bytes, hml, findClass_of_methodNamed B.named, atoms_spec (ws := words) B.pre, hK, fun q h => Or.inr h, B.returns, B.notSynchronized, hE, rfl⟩ (fun t h => h) s.heap [] _ hP hD0.self va_S.rf hl
theorem gMx_of {l : Launch} {y : MethodName} {words words' : List Cond} {rm : Room} {D : va_G} {tys : List (ClassId × FieldType)} {As : List Value} {W0 : va_W} {post : Option Value → va_W → Prop} {px : String → Prop} {mc ms : Nat} {cc : ByteArray} {maxL : Nat} {ret : Option FieldType}
    (hy : plainName y.cls = true) (hw : words = Cond.code y cc maxL ret :: words') (hlen : (lg_sl As).length ≤ maxL)
    (body : ∀ (p : Program) (e : Env) (s : State) (m : MethodId) (args : Array Value) (below : List Frame) (meth : Method) (c : Code) (A : Nat → Prop), gC p s m args meth c D A s.heap tys cc maxL words y.cls ret → (∀ x ∈ c.exceptionTable.toList, False) → (∀ t, MQ below (gQ post D A) args s mc ms A t → vx_MQ below (gQ post D A) (gX px D A W0) args s mc ms A t) →
      G p l e rm s m args below meth c D A s.heap maxL 0 0 (vx_MQ below (gQ post D A) (gX px D A W0) args s mc ms A) 0 (lv_args 0 As) [] W0) : gMx l y words rm D tys As W0 post px mc ms := by
  intro sz
  refine vx_ofW hy hw ?_
  intro p e s m args below meth c s₁ B hml hT hv
  obtain ⟨rfl, hsz, hP, hK, hD0, hE⟩ := hv
  subst hsz
  have hl := lv_entry As (n := maxL) hlen
  rw [lg_entry_eq]
  exact body p e s m _ below meth c (va_A W0 s.heap.size) ⟨B.exec, B.bytes, hml, findClass_of_methodNamed B.named, atoms_spec (ws := words) B.pre, hK, fun q h => Or.inr h, B.returns, B.notSynchronized, hE, rfl⟩ hT (fun t h => by
    obtain ⟨o, b1, b2, b3, b4⟩ := h
    exact ⟨o, b1, b2, Or.inl ⟨b3, b4⟩⟩) s.heap [] _ hP hD0.self va_S.rf hl
end
section
/-! what the methods answer, as functions -/
theorem fa_lt (a b : Int32) : a < b ↔ a.toInt < b.toInt := Int32.lt_iff_toInt_lt
theorem fa_le (a b : Int32) : a ≤ b ↔ a.toInt ≤ b.toInt := Int32.le_iff_toInt_le
theorem fa_eq (a b : Int32) : a = b ↔ a.toInt = b.toInt := ⟨fun h => by rw [h], Int32.toInt_inj.mp⟩
def gz (b : Bool) : Int32 := if b then 1 else 0
theorem gz_t : gz true = 1 := rfl
theorem gz_f : gz false = 0 := rfl
theorem gz0 {b : Bool} : gz b = 0 ↔ b = false := by cases b <;> decide
theorem gzn {b : Bool} : ¬ gz b = 0 ↔ b = true := by cases b <;> decide
theorem gz01 (b : Bool) : gz b = 0 ∨ gz b = 1 := by cases b <;> decide
theorem gz_e1 {b : Bool} (h : b = true) : some (Value.int 1) = some (.int (gz b)) := by rw [h]; rfl
theorem gz_e0 {b : Bool} (h : b = false) : some (Value.int 0) = some (.int (gz b)) := by rw [h]; rfl
def inR (lo hi v : Int32) : Bool := decide (lo ≤ v) && decide (v ≤ hi)
theorem inR_t {lo hi v : Int32} (h1 : ¬ v < lo) (h2 : ¬ hi < v) : inR lo hi v = true := by
  simp only [inR, Bool.and_eq_true, decide_eq_true_eq, fa_le]
  rw [fa_lt] at h1 h2
  omega
theorem inR_l {lo hi v : Int32} (h1 : v < lo) : inR lo hi v = false := by
  rw [Bool.eq_false_iff]
  simp only [inR, ne_eq, Bool.and_eq_true, decide_eq_true_eq, fa_le]
  rw [fa_lt] at h1
  omega
theorem inR_h {lo hi v : Int32} (h1 : hi < v) : inR lo hi v = false := by
  rw [Bool.eq_false_iff]
  simp only [inR, ne_eq, Bool.and_eq_true, decide_eq_true_eq, fa_le]
  rw [fa_lt] at h1
  omega
/-- a test against 0 to n -/
theorem inR_nI {n : Nat} {M v : Int32} (hM : M.toInt = n) (h : inR 0 M v = true) : ∃ j : Nat, j ≤ n ∧ v = nI j := by
  simp only [inR, Bool.and_eq_true, decide_eq_true_eq] at h
  exact nI_of2 hM (fun hn => by rw [fa_lt] at hn; have := (fa_le _ _).mp h.1; omega) h.2
theorem inR_of {j : Nat} {M : Int32} {n : Nat} (hM : M.toInt = n) (h : j ≤ n) : inR 0 M (nI j) = true := by
  have hn : n < 2 ^ 31 := by have := M.toInt_lt; omega
  simp only [inR, Bool.and_eq_true, decide_eq_true_eq, fa_le, nI_toInt (show j < 2 ^ 31 by omega), hM]
  have : (0 : Int32).toInt = 0 := rfl
  omega
theorem inR_no {j : Nat} {M : Int32} {n : Nat} (hM : M.toInt = n) (hj : j < 2 ^ 31) (h : n < j) : inR 0 M (nI j) = false := by
  rw [Bool.eq_false_iff]
  simp only [inR, ne_eq, Bool.and_eq_true, decide_eq_true_eq, fa_le, nI_toInt hj, hM]
  omega
theorem inR_iff {lo hi v : Int32} : inR lo hi v = true ↔ lo.toInt ≤ v.toInt ∧ v.toInt ≤ hi.toInt := by
  simp only [inR, Bool.and_eq_true, decide_eq_true_eq, fa_le]
def onW (x y : Int32) : Bool := inR 0 9 x && inR 0 7 y
/-- a row of N places, read at any index: -1 beyond it -/
def atv (N : Nat) (f : Nat → Int32) (i : Int32) : Int32 := if inR 0 (Int32.ofNat N - 1) i then f i.toNatClampNeg else -1
def putv (N : Nat) (f : Nat → Int32) (i v : Int32) : Nat → Int32 := if inR 0 (Int32.ofNat N - 1) i then upd f i.toNatClampNeg v else f
theorem ofN1 {N : Nat} (h0 : 0 < N) (h : N < 2 ^ 31) : (Int32.ofNat N - 1).toInt = ((N - 1 : Nat) : Int) := by
  obtain ⟨M, rfl⟩ : ∃ M, N = M + 1 := ⟨N - 1, by omega⟩
  have : Int32.ofNat (M + 1) - 1 = nI M := nI_pred M
  rw [this, nI_toInt (by omega)]
  simp
theorem atv_nI {N c : Nat} {f : Nat → Int32} (h : c < N) (hN : N < 2 ^ 31) : atv N f (nI c) = f c := by
  rw [atv, inR_of (ofN1 (by omega) hN) (by omega), if_pos rfl, nI_clamp (by omega)]
theorem putv_nI {N c : Nat} {f : Nat → Int32} {v : Int32} (h : c < N) (hN : N < 2 ^ 31) : putv N f (nI c) v = upd f c v := by
  rw [putv, inR_of (ofN1 (by omega) hN) (by omega), if_pos rfl, nI_clamp (by omega)]
/-- how many of the first n -/
def cnt (P : Nat → Bool) : Nat → Nat
  | 0 => 0
  | n + 1 => cnt P n + (if P n then 1 else 0)
theorem cnt_le (P : Nat → Bool) (n : Nat) : cnt P n ≤ n := by
  induction n with
  | zero => exact Nat.le_refl 0
  | succ n ih => rw [cnt]; split <;> omega
theorem cnt_congr {P R : Nat → Bool} {n : Nat} (h : ∀ i, i < n → P i = R i) : cnt P n = cnt R n := by
  induction n with
  | zero => rfl
  | succ n ih => rw [cnt, cnt, ih (fun i hi => h i (by omega)), h n (by omega)]
/-- all of the first n -/
def allB (P : Nat → Bool) : Nat → Bool
  | 0 => true
  | n + 1 => allB P n && P n
theorem allB_congr {P R : Nat → Bool} {n : Nat} (h : ∀ i, i < n → P i = R i) : allB P n = allB R n := by
  induction n with
  | zero => rfl
  | succ n ih => rw [allB, allB, ih (fun i hi => h i (by omega)), h n (by omega)]
theorem allB_iff {P : Nat → Bool} {n : Nat} : allB P n = true ↔ ∀ i, i < n → P i = true := by
  induction n with
  | zero => simp [allB]
  | succ n ih =>
    rw [allB, Bool.and_eq_true, ih]
    constructor
    · rintro ⟨h1, h2⟩ i hi
      rcases Nat.lt_succ_iff_lt_or_eq.mp hi with h | h
      · exact h1 i h
      · rw [h]; exact h2
    · intro h
      exact ⟨fun i hi => h i (by omega), h n (by omega)⟩
theorem allB_false {P : Nat → Bool} {n i : Nat} (hi : i < n) (h : P i = false) : allB P n = false := by
  rw [Bool.eq_false_iff]
  intro q
  rw [allB_iff] at q
  rw [q i hi] at h
  cases h
theorem dec_lt {a b : Int32} (h : a < b) : decide (b ≤ a) = false := by rw [decide_eq_false_iff_not]; intro h2; rw [fa_lt] at h; rw [fa_le] at h2; omega
theorem dec_nlt {a b : Int32} (h : ¬ a < b) : decide (b ≤ a) = true := by rw [decide_eq_true_eq, fa_le]; rw [fa_lt] at h; omega
theorem dec_le {a b : Int32} (h : a ≤ b) : decide (a ≤ b) = true := decide_eq_true h
theorem dec_nle {a b : Int32} (h : ¬ a ≤ b) : decide (a ≤ b) = false := decide_eq_false h
theorem inR_in {N : Nat} {i : Int32} (h0 : 0 < N) (hN : N < 2 ^ 31) (h : inR 0 (Int32.ofNat N - 1) i = true) : vp_in i N := by
  obtain ⟨j, hj, rfl⟩ := inR_nI (ofN1 h0 hN) h
  exact vp_in_nI (by omega) hN
theorem set_self {W : va_W} {q : Nat} {x : Nat × va_E} (h : W[q]? = some x) : W.set q x = W := by
  apply List.ext_getElem?
  intro i
  by_cases hi : q = i
  · subst hi
    rw [List.getElem?_set_self (List.getElem?_eq_some_iff.mp h).1, h]
  · rw [List.getElem?_set_ne hi]
def cel (x y : Nat) (ac : Bool) (j : Nat) : Nat := if ac then 10 * y + (x + j) else 10 * (y + j) + x
theorem cel_nI (x y : Nat) : (10 : Int32) * nI y + nI x = nI (10 * y + x) := by
  rw [show (10 : Int32) = nI 10 from rfl, pk_mul, nI_add]
theorem inR_np {np : Nat} {v : Int32} (hn : np < 2 ^ 31) (h : inR 0 (nI np - 1) v = true) : ∃ k, k < np ∧ v = nI k := by
  rcases Nat.eq_zero_or_pos np with h0 | h0
  · subst h0
    rw [inR_iff] at h
    have e1 : (nI 0 - 1).toInt = -1 := by decide
    have e2 : (0 : Int32).toInt = 0 := rfl
    omega
  · obtain ⟨j, hj, rfl⟩ := inR_nI (ofN1 h0 hn) h
    exact ⟨j, by omega, rfl⟩
def fnd (np : Nat) (pcs : Nat → Option Nat) (v : Int32) : Option Nat := if inR 0 (nI np - 1) v then pcs v.toNatClampNeg else none
def lse (x y ln : Nat) (ac ot : Bool) (f : Nat → Int32) : Bool := !ot && allB (fun j => decide (1 ≤ f (cel x y ac j))) ln
def fre (wet cover : Nat → Int32) (own i : Int32) : Bool := decide (1 ≤ atv 80 wet i) && (decide (atv 80 cover i = -1) || decide (atv 80 cover i = own))
def hr1 (wet cover : Nat → Int32) (x y : Nat) (ac : Bool) (own : Int32) (j : Nat) : Bool := onW (nI (if ac then x + j else x)) (nI (if ac then y else y + j)) && fre wet cover own (nI (cel x y ac j))
def hrm (wet cover : Nat → Int32) (x y ln : Nat) (ac : Bool) (own : Int32) : Bool := allB (hr1 wet cover x y ac own) ln
theorem cnt_t {P : Nat → Bool} {n : Nat} (h : P n = true) : cnt P (n + 1) = cnt P n + 1 := by simp [cnt, h]
theorem cnt_f {P : Nat → Bool} {n : Nat} (h : P n = false) : cnt P (n + 1) = cnt P n := by simp [cnt, h]
end
section
set_option maxHeartbeats 4000000 in
set_option maxRecDepth 100000 in
theorem c_X1_within (l : Launch) (D : va_G) (tys : List (ClassId × FieldType)) (W : va_W) (v lo hi : Int32) : gM l yX1_within wsX1_within ({ frames := 0, cells := 0, slots := 0, locals := 0 } : Room) D tys [.int v, .int lo, .int hi] W (gIs (some (.int (gz (inR lo hi v)))) W) 0 0 := by
  refine gM_of (by decide) rfl (Nat.le_of_ble_eq_true rfl) ?_
  intro p e s m args below meth c A Q hin C hQ
  refine g_sub [0, 1, 2] (lv' := [(0, .int v), (1, .int lo), (2, .int hi)]) rfl ?_
  refine g_iload_n C dX1_within_0 rfl 0 rfl ?_
  refine g_iload_n C dX1_within_1 rfl 1 rfl ?_
  refine g_icmp_lt (tgt := 14) C dX1_within_2 (by decide) (fun c_1 => ?_) (fun c_1 => ?_)
  · skip
    refine g_iconst (v := 0) C dX1_within_14 (by decide) ?_
    refine g_zret C (by first | exact Or.inl rfl | exact Or.inr rfl | exact gz01 _) hQ (Nat.le_of_ble_eq_true rfl) (Nat.le_of_ble_eq_true rfl) dX1_within_15 ?_
    first | exact ⟨gz_e1 (inR_t (by assumption) (by assumption)), rfl⟩ | exact ⟨gz_e0 (inR_l (by assumption)), rfl⟩ | exact ⟨gz_e0 (inR_h (by assumption)), rfl⟩
  · skip
    refine g_iload_n C dX1_within_5 rfl 0 rfl ?_
    refine g_iload_n C dX1_within_6 rfl 2 rfl ?_
    refine g_icmp_gt (tgt := 14) C dX1_within_7 (by decide) (fun c_2 => ?_) (fun c_2 => ?_)
    · skip
      refine g_iconst (v := 0) C dX1_within_14 (by decide) ?_
      refine g_zret C (by first | exact Or.inl rfl | exact Or.inr rfl | exact gz01 _) hQ (Nat.le_of_ble_eq_true rfl) (Nat.le_of_ble_eq_true rfl) dX1_within_15 ?_
      first | exact ⟨gz_e1 (inR_t (by assumption) (by assumption)), rfl⟩ | exact ⟨gz_e0 (inR_l (by assumption)), rfl⟩ | exact ⟨gz_e0 (inR_h (by assumption)), rfl⟩
    · skip
      refine g_iconst (v := 1) C dX1_within_10 (by decide) ?_
      refine g_goto (tgt := 15) C dX1_within_11 (by decide) ?_
      refine g_zret C (by first | exact Or.inl rfl | exact Or.inr rfl | exact gz01 _) hQ (Nat.le_of_ble_eq_true rfl) (Nat.le_of_ble_eq_true rfl) dX1_within_15 ?_
      first | exact ⟨gz_e1 (inR_t (by assumption) (by assumption)), rfl⟩ | exact ⟨gz_e0 (inR_l (by assumption)), rfl⟩ | exact ⟨gz_e0 (inR_h (by assumption)), rfl⟩

set_option maxHeartbeats 4000000 in
set_option maxRecDepth 100000 in
theorem c_X1_isOnWall (l : Launch) (D : va_G) (tys : List (ClassId × FieldType)) (W : va_W) (x y : Int32) : gM l yX1_isOnWall wsX1_isOnWall ({ frames := 1, cells := 0, slots := 0, locals := 22 } : Room) D tys [.int x, .int y] W (gIs (some (.int (gz (onW x y)))) W) 0 0 := by
  refine gM_of (by decide) rfl (Nat.le_of_ble_eq_true rfl) ?_
  intro p e s m args below meth c A Q hin C hQ
  refine g_sub [0, 1] (lv' := [(0, .int x), (1, .int y)]) rfl ?_
  refine g_iload_n C dX1_isOnWall_0 rfl 0 rfl ?_
  refine g_iconst (v := 0) C dX1_isOnWall_1 (by decide) ?_
  refine g_bipush (v := 9) C dX1_isOnWall_2 (by decide) ?_
  refine g_callS (As := [.int x, .int 0, .int 9]) (rest := []) C (c_X1_within l D tys W x 0 9) (va_cwS 3 C.ts gX1_isOnWall_X1_within rfl rfl rfl (by decide +kernel) ⟨(Nat.le_of_ble_eq_true rfl), (Nat.le_of_ble_eq_true rfl)⟩) rfl rfl (Nat.le_of_ble_eq_true rfl) dX1_isOnWall_4 (Nat.le_of_ble_eq_true rfl) (Nat.le_of_ble_eq_true rfl) (g_is (x := .int (gz (inR 0 9 x))) (W1 := W) ?_)
  refine g_if_eq (tgt := 24) C dX1_isOnWall_7 (by decide) (fun c_1 => ?_) (fun c_1 => ?_)
  · skip
    replace c_1 := gz0.mp c_1
    refine g_iconst (v := 0) C dX1_isOnWall_24 (by decide) ?_
    refine g_zret C (by first | exact Or.inl rfl | exact Or.inr rfl | exact gz01 _) hQ (Nat.le_of_ble_eq_true rfl) (Nat.le_of_ble_eq_true rfl) dX1_isOnWall_25 ?_
    first | exact ⟨gz_e1 (by simp [onW, *]), rfl⟩ | exact ⟨gz_e0 (by simp [onW, *]), rfl⟩
  · skip
    replace c_1 := gzn.mp c_1
    refine g_iload_n C dX1_isOnWall_10 rfl 1 rfl ?_
    refine g_iconst (v := 0) C dX1_isOnWall_11 (by decide) ?_
    refine g_bipush (v := 7) C dX1_isOnWall_12 (by decide) ?_
    refine g_callS (As := [.int y, .int 0, .int 7]) (rest := []) C (c_X1_within l D tys W y 0 7) (va_cwS 3 C.ts gX1_isOnWall_X1_within rfl rfl rfl (by decide +kernel) ⟨(Nat.le_of_ble_eq_true rfl), (Nat.le_of_ble_eq_true rfl)⟩) rfl rfl (Nat.le_of_ble_eq_true rfl) dX1_isOnWall_14 (Nat.le_of_ble_eq_true rfl) (Nat.le_of_ble_eq_true rfl) (g_is (x := .int (gz (inR 0 7 y))) (W1 := W) ?_)
    refine g_if_eq (tgt := 24) C dX1_isOnWall_17 (by decide) (fun c_2 => ?_) (fun c_2 => ?_)
    · skip
      replace c_2 := gz0.mp c_2
      refine g_iconst (v := 0) C dX1_isOnWall_24 (by decide) ?_
      refine g_zret C (by first | exact Or.inl rfl | exact Or.inr rfl | exact gz01 _) hQ (Nat.le_of_ble_eq_true rfl) (Nat.le_of_ble_eq_true rfl) dX1_isOnWall_25 ?_
      first | exact ⟨gz_e1 (by simp [onW, *]), rfl⟩ | exact ⟨gz_e0 (by simp [onW, *]), rfl⟩
    · skip
      replace c_2 := gzn.mp c_2
      refine g_iconst (v := 1) C dX1_isOnWall_20 (by decide) ?_
      refine g_goto (tgt := 25) C dX1_isOnWall_21 (by decide) ?_
      refine g_zret C (by first | exact Or.inl rfl | exact Or.inr rfl | exact gz01 _) hQ (Nat.le_of_ble_eq_true rfl) (Nat.le_of_ble_eq_true rfl) dX1_isOnWall_25 ?_
      first | exact ⟨gz_e1 (by simp [onW, *]), rfl⟩ | exact ⟨gz_e0 (by simp [onW, *]), rfl⟩

set_option maxHeartbeats 4000000 in
set_option maxRecDepth 100000 in
theorem c_X1_isColour (l : Launch) (D : va_G) (tys : List (ClassId × FieldType)) (W : va_W) (v : Int32) : gM l yX1_isColour wsX1_isColour ({ frames := 1, cells := 0, slots := 0, locals := 22 } : Room) D tys [.int v] W (gIs (some (.int (gz (inR 0 6 v)))) W) 0 0 := by
  refine gM_of (by decide) rfl (Nat.le_of_ble_eq_true rfl) ?_
  intro p e s m args below meth c A Q hin C hQ
  refine g_sub [0] (lv' := [(0, .int v)]) rfl ?_
  refine g_iload_n C dX1_isColour_0 rfl 0 rfl ?_
  refine g_iconst (v := 0) C dX1_isColour_1 (by decide) ?_
  refine g_bipush (v := 6) C dX1_isColour_2 (by decide) ?_
  refine g_callS (As := [.int v, .int 0, .int 6]) (rest := []) C (c_X1_within l D tys W v 0 6) (va_cwS 3 C.ts gX1_isColour_X1_within rfl rfl rfl (by decide +kernel) ⟨(Nat.le_of_ble_eq_true rfl), (Nat.le_of_ble_eq_true rfl)⟩) rfl rfl (Nat.le_of_ble_eq_true rfl) dX1_isColour_4 (Nat.le_of_ble_eq_true rfl) (Nat.le_of_ble_eq_true rfl) (g_is (x := .int (gz (inR 0 6 v))) (W1 := W) ?_)
  refine g_zret C (by first | exact Or.inl rfl | exact Or.inr rfl | exact gz01 _) hQ (Nat.le_of_ble_eq_true rfl) (Nat.le_of_ble_eq_true rfl) dX1_isColour_7 ?_
  exact ⟨rfl, rfl⟩

set_option maxHeartbeats 4000000 in
set_option maxRecDepth 100000 in
theorem c_X1_cellOf (l : Launch) (D : va_G) (tys : List (ClassId × FieldType)) (W : va_W) (x y : Int32) : gM l yX1_cellOf wsX1_cellOf ({ frames := 0, cells := 0, slots := 0, locals := 0 } : Room) D tys [.int x, .int y] W (gIs (some (.int (10 * y + x))) W) 0 0 := by
  refine gM_of (by decide) rfl (Nat.le_of_ble_eq_true rfl) ?_
  intro p e s m args below meth c A Q hin C hQ
  refine g_sub [0, 1] (lv' := [(0, .int x), (1, .int y)]) rfl ?_
  refine g_bipush (v := 10) C dX1_cellOf_0 (by decide) ?_
  refine g_iload_n C dX1_cellOf_2 rfl 1 rfl ?_
  refine g_imul C dX1_cellOf_3 ?_
  refine g_iload_n C dX1_cellOf_4 rfl 0 rfl ?_
  refine g_iadd C dX1_cellOf_5 ?_
  refine g_iret C hQ (Nat.le_of_ble_eq_true rfl) (Nat.le_of_ble_eq_true rfl) dX1_cellOf_6 ?_
  exact ⟨rfl, rfl⟩

set_option maxHeartbeats 4000000 in
set_option maxRecDepth 100000 in
theorem c_X1_at (l : Launch) (D : va_G) (tys : List (ClassId × FieldType)) (cI : ClassId) (ht0 : tys[0]? = some (cI, .int)) (W : va_W) (a N : Nat) (f : Nat → Int32) (i : Int32) (hN0 : 0 < N) (hN : N < 2 ^ 31) (hm : (a, .inl (cI, N, .inl (f))) ∈ W) : gM l yX1_at wsX1_at ({ frames := 1, cells := 0, slots := 0, locals := 22 } : Room) D tys [.ref a, .int i] W (gIs (some (.int (atv N f i))) W) 0 0 := by
  refine gM_of (by decide) rfl (Nat.le_of_ble_eq_true rfl) ?_
  intro p e s m args below meth c A Q hin C hQ
  refine g_sub [0, 1] (lv' := [(0, .ref a), (1, .int i)]) rfl ?_
  refine g_iload_n C dX1_at_0 rfl 1 rfl ?_
  refine g_iconst (v := 0) C dX1_at_1 (by decide) ?_
  refine g_aload_n C dX1_at_2 rfl 0 rfl ?_
  refine g_alen (v := nI N) C 0 hm ht0 rfl dX1_at_3 ?_
  refine g_iconst (v := 1) C dX1_at_4 (by decide) ?_
  refine g_isub C dX1_at_5 ?_
  rw [show ((nI N) - 1) = Int32.ofNat N - 1 from rfl]
  refine g_callS (As := [.int i, .int 0, .int (Int32.ofNat N - 1)]) (rest := []) C (c_X1_within l D tys W i 0 (Int32.ofNat N - 1)) (va_cwS 3 C.ts gX1_at_X1_within rfl rfl rfl (by decide +kernel) ⟨(Nat.le_of_ble_eq_true rfl), (Nat.le_of_ble_eq_true rfl)⟩) rfl rfl (Nat.le_of_ble_eq_true rfl) dX1_at_6 (Nat.le_of_ble_eq_true rfl) (Nat.le_of_ble_eq_true rfl) (g_is (x := .int (gz (inR 0 (Int32.ofNat N - 1) i))) (W1 := W) ?_)
  refine g_if_eq (tgt := 18) C dX1_at_9 (by decide) (fun c_1 => ?_) (fun c_1 => ?_)
  · skip
    replace c_1 := gz0.mp c_1
    refine g_iconst (v := (-1)) C dX1_at_18 (by decide) ?_
    refine g_iret C hQ (Nat.le_of_ble_eq_true rfl) (Nat.le_of_ble_eq_true rfl) dX1_at_19 ?_
    exact ⟨by simp [atv, *], rfl⟩
  · skip
    replace c_1 := gzn.mp c_1
    refine g_aload_n C dX1_at_12 rfl 0 rfl ?_
    refine g_iload_n C dX1_at_13 rfl 1 rfl ?_
    refine g_iald C 0 hm ht0 (inR_in hN0 hN c_1) dX1_at_14 ?_
    refine g_goto (tgt := 19) C dX1_at_15 (by decide) ?_
    refine g_iret C hQ (Nat.le_of_ble_eq_true rfl) (Nat.le_of_ble_eq_true rfl) dX1_at_19 ?_
    exact ⟨by simp [atv, *], rfl⟩

set_option maxHeartbeats 4000000 in
set_option maxRecDepth 100000 in
theorem c_X1_put (l : Launch) (D : va_G) (tys : List (ClassId × FieldType)) (cI : ClassId) (ht0 : tys[0]? = some (cI, .int)) (W : va_W) (q0 a N : Nat) (f : Nat → Int32) (i v : Int32) (hN0 : 0 < N) (hN : N < 2 ^ 31) (hq : W[q0]? = some (a, .inl (cI, N, .inl (f)))) : gM l yX1_put wsX1_put ({ frames := 1, cells := 0, slots := 0, locals := 22 } : Room) D tys [.ref a, .int i, .int v] W (gIs none (W.set q0 (a, .inl (cI, N, .inl (putv N f i v))))) 0 0 := by
  refine gM_of (by decide) rfl (Nat.le_of_ble_eq_true rfl) ?_
  intro p e s m args below meth c A Q hin C hQ
  refine g_sub [0, 1, 2] (lv' := [(0, .ref a), (1, .int i), (2, .int v)]) rfl ?_
  have hm := List.mem_of_getElem? hq
  refine g_iload_n C dX1_put_0 rfl 1 rfl ?_
  refine g_iconst (v := 0) C dX1_put_1 (by decide) ?_
  refine g_aload_n C dX1_put_2 rfl 0 rfl ?_
  refine g_alen (v := nI N) C 0 hm ht0 rfl dX1_put_3 ?_
  refine g_iconst (v := 1) C dX1_put_4 (by decide) ?_
  refine g_isub C dX1_put_5 ?_
  rw [show ((nI N) - 1) = Int32.ofNat N - 1 from rfl]
  refine g_callS (As := [.int i, .int 0, .int (Int32.ofNat N - 1)]) (rest := []) C (c_X1_within l D tys W i 0 (Int32.ofNat N - 1)) (va_cwS 3 C.ts gX1_put_X1_within rfl rfl rfl (by decide +kernel) ⟨(Nat.le_of_ble_eq_true rfl), (Nat.le_of_ble_eq_true rfl)⟩) rfl rfl (Nat.le_of_ble_eq_true rfl) dX1_put_6 (Nat.le_of_ble_eq_true rfl) (Nat.le_of_ble_eq_true rfl) (g_is (x := .int (gz (inR 0 (Int32.ofNat N - 1) i))) (W1 := W) ?_)
  refine g_if_eq (tgt := 16) C dX1_put_9 (by decide) (fun c_1 => ?_) (fun c_1 => ?_)
  · skip
    replace c_1 := gz0.mp c_1
    refine g_vret C hQ (Nat.le_of_ble_eq_true rfl) (Nat.le_of_ble_eq_true rfl) dX1_put_16 ?_
    exact ⟨rfl, by simp [putv, *, set_self hq]⟩
  · skip
    replace c_1 := gzn.mp c_1
    refine g_aload_n C dX1_put_12 rfl 0 rfl ?_
    refine g_iload_n C dX1_put_13 rfl 1 rfl ?_
    refine g_iload_n C dX1_put_14 rfl 2 rfl ?_
    refine g_iast (ws' := (W.set q0 (a, .inl (cI, N, .inl (upd f (i).toNatClampNeg v))))) C q0 0 hq ht0 (inR_in hN0 hN c_1) dX1_put_15 rfl ?_
    refine g_vret C hQ (Nat.le_of_ble_eq_true rfl) (Nat.le_of_ble_eq_true rfl) dX1_put_16 ?_
    exact ⟨rfl, by simp [putv, *]⟩

set_option maxHeartbeats 4000000 in
set_option maxRecDepth 100000 in
theorem c_X1_cellsFrom (l : Launch) (D : va_G) (tys : List (ClassId × FieldType)) (cI : ClassId) (ht0 : tys[0]? = some (cI, .int)) (W : va_W) (a N : Nat) (f : Nat → Int32) (v : Int32) (hN : N < 2 ^ 30) (hm : (a, .inl (cI, N, .inl (f))) ∈ W) : gM l yX1_cellsFrom wsX1_cellsFrom ({ frames := 0, cells := 0, slots := 0, locals := 0 } : Room) D tys [.ref a, .int v] W (gIs (some (.int (nI (cnt (fun c => decide (v ≤ f c)) N)))) W) 0 0 := by
  refine gM_of (by decide) rfl (Nat.le_of_ble_eq_true rfl) ?_
  intro p e s m args below meth c A Q hin C hQ
  refine g_sub [0, 1] (lv' := [(0, .ref a), (1, .int v)]) rfl ?_
  refine g_iconst (v := 0) C dX1_cellsFrom_0 (by decide) ?_
  refine g_istore_n (lv' := [(2, .int 0), (0, .ref a), (1, .int v)]) C dX1_cellsFrom_1 rfl (by decide) rfl ?_
  refine g_iconst (v := 0) C dX1_cellsFrom_2 (by decide) ?_
  refine g_istore_n (lv' := [(3, .int 0), (2, .int 0), (0, .ref a), (1, .int v)]) C dX1_cellsFrom_3 rfl (by decide) rfl ?_
  have lp4 : ∀ (n9 : Nat) (i q : Nat) (hq : q = cnt (fun c => decide (v ≤ f c)) i) (hi : i ≤ N) (hn : N + 1 ≤ i + n9), G p l e ({ frames := 0, cells := 0, slots := 0, locals := 0 } : Room) s m args below meth c D A s.heap 4 0 0 Q 4 [(0, .ref a), (1, .int v), (2, .int (nI q)), (3, .int (nI i))] [] W := by
    intro n9
    induction n9 with
    | zero =>
      intro i q hq hi hn
      exfalso; omega
    | succ n9 ih =>
      intro i q hq hi hn
      refine g_iload_n C dX1_cellsFrom_4 rfl 3 rfl ?_
      refine g_aload_n C dX1_cellsFrom_5 rfl 0 rfl ?_
      refine g_alen (v := nI N) C 0 hm ht0 rfl dX1_cellsFrom_6 ?_
      refine g_icmp_ge (tgt := 26) C dX1_cellsFrom_7 (by decide) (fun c_1 => ?_) (fun c_1 => ?_)
      · skip
        rw [nI_leI (by omega) (by omega)] at c_1
        refine g_iload_n C dX1_cellsFrom_26 rfl 2 rfl ?_
        refine g_iret C hQ (Nat.le_of_ble_eq_true rfl) (Nat.le_of_ble_eq_true rfl) dX1_cellsFrom_27 ?_
        exact ⟨by rw [hq, show i = N by omega], rfl⟩
      · skip
        rw [nI_leI (by omega) (by omega)] at c_1
        refine g_aload_n C dX1_cellsFrom_10 rfl 0 rfl ?_
        refine g_iload_n C dX1_cellsFrom_11 rfl 3 rfl ?_
        refine g_iald C 0 hm ht0 (vp_in_nI (by omega) (by omega)) dX1_cellsFrom_12 ?_
        rw [show (f (nI i).toNatClampNeg) = f i from by rw [nI_clamp (by omega)]]
        refine g_iload_n C dX1_cellsFrom_13 rfl 1 rfl ?_
        refine g_icmp_lt (tgt := 20) C dX1_cellsFrom_14 (by decide) (fun c_2 => ?_) (fun c_2 => ?_)
        · skip
          refine g_iinc (v := nI (i + 1)) (lv' := [(3, .int (nI (i + 1))), (0, .ref a), (1, .int v), (2, .int (nI q))]) C dX1_cellsFrom_20 3 rfl (by exact nI_add _ 1) (by decide) rfl ?_
          refine g_goto (tgt := 4) C dX1_cellsFrom_23 (by decide) ?_
          refine g_sub [1, 2, 3, 0] (lv' := [(0, .ref a), (1, .int v), (2, .int (nI q)), (3, .int (nI (i + 1)))]) rfl ?_
          exact ih (i + 1) _ (by rw [hq]; first | exact (cnt_f (dec_lt (by assumption))).symm | exact (cnt_t (dec_nlt (by assumption))).symm) (by omega) (by omega)
        · skip
          refine g_iinc (v := nI (q + 1)) (lv' := [(2, .int (nI (q + 1))), (0, .ref a), (1, .int v), (3, .int (nI i))]) C dX1_cellsFrom_17 2 rfl (by exact nI_add _ 1) (by decide) rfl ?_
          refine g_iinc (v := nI (i + 1)) (lv' := [(3, .int (nI (i + 1))), (2, .int (nI (q + 1))), (0, .ref a), (1, .int v)]) C dX1_cellsFrom_20 3 rfl (by exact nI_add _ 1) (by decide) rfl ?_
          refine g_goto (tgt := 4) C dX1_cellsFrom_23 (by decide) ?_
          refine g_sub [2, 3, 1, 0] (lv' := [(0, .ref a), (1, .int v), (2, .int (nI (q + 1))), (3, .int (nI (i + 1)))]) rfl ?_
          exact ih (i + 1) _ (by rw [hq]; first | exact (cnt_f (dec_lt (by assumption))).symm | exact (cnt_t (dec_nlt (by assumption))).symm) (by omega) (by omega)
  refine g_sub [2, 3, 1, 0] (lv' := [(0, .ref a), (1, .int v), (2, .int 0), (3, .int 0)]) rfl ?_
  exact lp4 (N + 1) 0 0 rfl (by omega) (by omega)

theorem k_X0_cellAt_inX0 : ∀ w ∈ wsX00, w ∈ wsX0_cellAt := by decide +kernel
theorem k_X0_cellAt_1 : Cond.fieldLink RX0 19 "WetMosaic$Piece" "across" "Z" ∈ wsX0_cellAt := by decide +kernel
theorem k_X0_cellAt_2 : Cond.fieldLink RX0 7 "WetMosaic$Piece" "x" "I" ∈ wsX0_cellAt := by decide +kernel
theorem k_X0_cellAt_3 : Cond.fieldLink RX0 13 "WetMosaic$Piece" "y" "I" ∈ wsX0_cellAt := by decide +kernel
theorem k_X0_cellAt_4 : Cond.initialized RX1 ∈ wsX0_cellAt := by decide +kernel
theorem k_X0_cellAt_5 : Cond.static yX1_cellOf ∈ wsX0_cellAt := by decide +kernel
set_option maxHeartbeats 4000000 in
set_option maxRecDepth 100000 in
theorem c_X0_cellAt (l : Launch) (D : va_G) (tys : List (ClassId × FieldType)) (W : va_W) (o x y ln : Nat) (fr bk : Int32) (ac sb ot : Bool) (hm : (o, .inr (0, [.int (nI x), .int (nI y), .int (nI ln), .int fr, .int bk, .int (gz ac), .int (gz sb), .int (gz ot)])) ∈ W) (j : Nat) : gM l yX0_cellAt wsX0_cellAt ({ frames := 1, cells := 0, slots := 0, locals := 21 } : Room) D tys [.ref o, .int (nI j)] W (gIs (some (.int (nI (cel x y ac j)))) W) 0 0 := by
  refine gM_of (by decide) rfl (Nat.le_of_ble_eq_true rfl) ?_
  intro p e s m args below meth c A Q hin C hQ
  refine g_sub [0, 1] (lv' := [(0, .ref o), (1, .int (nI j))]) rfl ?_
  cases ac with
  | false =>
    refine g_aload_n C dX0_cellAt_0 rfl 0 rfl ?_
    refine g_get (ci := 0) (Cn := RX0) (T := TX0) (N := 8) C k_X0_cellAt_inX0 hm rfl 5 (by decide) k_X0_cellAt_1 rfl rfl dX0_cellAt_1 ?_
    refine g_if_eq (tgt := 16) C dX0_cellAt_4 (by decide) (fun c_1 => ?_) (fun c_1 => by exfalso; revert c_1; decide)
    refine g_aload_n C dX0_cellAt_16 rfl 0 rfl ?_
    refine g_get (ci := 0) (Cn := RX0) (T := TX0) (N := 8) C k_X0_cellAt_inX0 hm rfl 0 (by decide) k_X0_cellAt_2 rfl rfl dX0_cellAt_17 ?_
    refine g_aload_n C dX0_cellAt_20 rfl 0 rfl ?_
    refine g_get (ci := 0) (Cn := RX0) (T := TX0) (N := 8) C k_X0_cellAt_inX0 hm rfl 5 (by decide) k_X0_cellAt_1 rfl rfl dX0_cellAt_21 ?_
    refine g_if_eq (tgt := 34) C dX0_cellAt_24 (by decide) (fun c_2 => ?_) (fun c_2 => by exfalso; revert c_2; decide)
    refine g_aload_n C dX0_cellAt_34 rfl 0 rfl ?_
    refine g_get (ci := 0) (Cn := RX0) (T := TX0) (N := 8) C k_X0_cellAt_inX0 hm rfl 1 (by decide) k_X0_cellAt_3 rfl rfl dX0_cellAt_35 ?_
    refine g_iload_n C dX0_cellAt_38 rfl 1 rfl ?_
    refine g_iadd C dX0_cellAt_39 ?_
    rw [show ((nI y) + (nI j)) = nI (y + j) from nI_add _ _]
    refine g_callSN (As := [.int (nI x), .int (nI (y + j))]) (rest := []) C (c_X1_cellOf l D tys W (nI x) (nI (y + j))) ⟨(va_cnB (host := "WetMosaic") 2 C.ts gX0_cellAt_X1_cellOf_n32 rfl rfl rfl (C.E.2.2.1 _ (by decide +kernel)) (C.w _ k_X0_cellAt_4) (by decide +kernel) ⟨(Nat.le_of_ble_eq_true rfl), (Nat.le_of_ble_eq_true rfl)⟩), C.w _ k_X0_cellAt_5, trivial⟩ rfl rfl (Nat.le_of_ble_eq_true rfl) dX0_cellAt_40 (Nat.le_of_ble_eq_true rfl) (Nat.le_of_ble_eq_true rfl) (g_is (x := .int (10 * (nI (y + j)) + (nI x))) (W1 := W) ?_)
    refine g_iret C hQ (Nat.le_of_ble_eq_true rfl) (Nat.le_of_ble_eq_true rfl) dX0_cellAt_43 ?_
    exact ⟨by rw [cel_nI]; rfl, rfl⟩
  | true =>
    refine g_aload_n C dX0_cellAt_0 rfl 0 rfl ?_
    refine g_get (ci := 0) (Cn := RX0) (T := TX0) (N := 8) C k_X0_cellAt_inX0 hm rfl 5 (by decide) k_X0_cellAt_1 rfl rfl dX0_cellAt_1 ?_
    refine g_if_eq (tgt := 16) C dX0_cellAt_4 (by decide) (fun c_3 => by exfalso; revert c_3; decide) (fun c_3 => ?_)
    refine g_aload_n C dX0_cellAt_7 rfl 0 rfl ?_
    refine g_get (ci := 0) (Cn := RX0) (T := TX0) (N := 8) C k_X0_cellAt_inX0 hm rfl 0 (by decide) k_X0_cellAt_2 rfl rfl dX0_cellAt_8 ?_
    refine g_iload_n C dX0_cellAt_11 rfl 1 rfl ?_
    refine g_iadd C dX0_cellAt_12 ?_
    rw [show ((nI x) + (nI j)) = nI (x + j) from nI_add _ _]
    refine g_goto (tgt := 20) C dX0_cellAt_13 (by decide) ?_
    refine g_aload_n C dX0_cellAt_20 rfl 0 rfl ?_
    refine g_get (ci := 0) (Cn := RX0) (T := TX0) (N := 8) C k_X0_cellAt_inX0 hm rfl 5 (by decide) k_X0_cellAt_1 rfl rfl dX0_cellAt_21 ?_
    refine g_if_eq (tgt := 34) C dX0_cellAt_24 (by decide) (fun c_4 => by exfalso; revert c_4; decide) (fun c_4 => ?_)
    refine g_aload_n C dX0_cellAt_27 rfl 0 rfl ?_
    refine g_get (ci := 0) (Cn := RX0) (T := TX0) (N := 8) C k_X0_cellAt_inX0 hm rfl 1 (by decide) k_X0_cellAt_3 rfl rfl dX0_cellAt_28 ?_
    refine g_goto (tgt := 40) C dX0_cellAt_31 (by decide) ?_
    refine g_callSN (As := [.int (nI (x + j)), .int (nI y)]) (rest := []) C (c_X1_cellOf l D tys W (nI (x + j)) (nI y)) ⟨(va_cnB (host := "WetMosaic") 2 C.ts gX0_cellAt_X1_cellOf_n32 rfl rfl rfl (C.E.2.2.1 _ (by decide +kernel)) (C.w _ k_X0_cellAt_4) (by decide +kernel) ⟨(Nat.le_of_ble_eq_true rfl), (Nat.le_of_ble_eq_true rfl)⟩), C.w _ k_X0_cellAt_5, trivial⟩ rfl rfl (Nat.le_of_ble_eq_true rfl) dX0_cellAt_40 (Nat.le_of_ble_eq_true rfl) (Nat.le_of_ble_eq_true rfl) (g_is (x := .int (10 * (nI y) + (nI (x + j)))) (W1 := W) ?_)
    refine g_iret C hQ (Nat.le_of_ble_eq_true rfl) (Nat.le_of_ble_eq_true rfl) dX0_cellAt_43 ?_
    exact ⟨by rw [cel_nI]; rfl, rfl⟩

theorem k_X0_shownColour_inX0 : ∀ w ∈ wsX00, w ∈ wsX0_shownColour := by decide +kernel
theorem k_X0_shownColour_1 : Cond.fieldLink RX0 29 "WetMosaic$Piece" "showsBack" "Z" ∈ wsX0_shownColour := by decide +kernel
theorem k_X0_shownColour_2 : Cond.fieldLink RX0 23 "WetMosaic$Piece" "front" "I" ∈ wsX0_shownColour := by decide +kernel
theorem k_X0_shownColour_3 : Cond.fieldLink RX0 26 "WetMosaic$Piece" "back" "I" ∈ wsX0_shownColour := by decide +kernel
set_option maxHeartbeats 4000000 in
set_option maxRecDepth 100000 in
theorem c_X0_shownColour (l : Launch) (D : va_G) (tys : List (ClassId × FieldType)) (W : va_W) (o x y ln : Nat) (fr bk : Int32) (ac sb ot : Bool) (hm : (o, .inr (0, [.int (nI x), .int (nI y), .int (nI ln), .int fr, .int bk, .int (gz ac), .int (gz sb), .int (gz ot)])) ∈ W) : gM l yX0_shownColour wsX0_shownColour ({ frames := 0, cells := 0, slots := 0, locals := 0 } : Room) D tys [.ref o] W (gIs (some (.int (if sb then bk else fr))) W) 0 0 := by
  refine gM_of (by decide) rfl (Nat.le_of_ble_eq_true rfl) ?_
  intro p e s m args below meth c A Q hin C hQ
  refine g_sub [0] (lv' := [(0, .ref o)]) rfl ?_
  cases sb with
  | false =>
    refine g_aload_n C dX0_shownColour_0 rfl 0 rfl ?_
    refine g_get (ci := 0) (Cn := RX0) (T := TX0) (N := 8) C k_X0_shownColour_inX0 hm rfl 6 (by decide) k_X0_shownColour_1 rfl rfl dX0_shownColour_1 ?_
    refine g_if_eq (tgt := 14) C dX0_shownColour_4 (by decide) (fun c_1 => ?_) (fun c_1 => by exfalso; revert c_1; decide)
    refine g_aload_n C dX0_shownColour_14 rfl 0 rfl ?_
    refine g_get (ci := 0) (Cn := RX0) (T := TX0) (N := 8) C k_X0_shownColour_inX0 hm rfl 3 (by decide) k_X0_shownColour_2 rfl rfl dX0_shownColour_15 ?_
    refine g_iret C hQ (Nat.le_of_ble_eq_true rfl) (Nat.le_of_ble_eq_true rfl) dX0_shownColour_18 ?_
    exact ⟨rfl, rfl⟩
  | true =>
    refine g_aload_n C dX0_shownColour_0 rfl 0 rfl ?_
    refine g_get (ci := 0) (Cn := RX0) (T := TX0) (N := 8) C k_X0_shownColour_inX0 hm rfl 6 (by decide) k_X0_shownColour_1 rfl rfl dX0_shownColour_1 ?_
    refine g_if_eq (tgt := 14) C dX0_shownColour_4 (by decide) (fun c_2 => by exfalso; revert c_2; decide) (fun c_2 => ?_)
    refine g_aload_n C dX0_shownColour_7 rfl 0 rfl ?_
    refine g_get (ci := 0) (Cn := RX0) (T := TX0) (N := 8) C k_X0_shownColour_inX0 hm rfl 4 (by decide) k_X0_shownColour_3 rfl rfl dX0_shownColour_8 ?_
    refine g_goto (tgt := 18) C dX0_shownColour_11 (by decide) ?_
    refine g_iret C hQ (Nat.le_of_ble_eq_true rfl) (Nat.le_of_ble_eq_true rfl) dX0_shownColour_18 ?_
    exact ⟨rfl, rfl⟩

theorem k_X0_otherColour_inX0 : ∀ w ∈ wsX00, w ∈ wsX0_otherColour := by decide +kernel
theorem k_X0_otherColour_1 : Cond.fieldLink RX0 29 "WetMosaic$Piece" "showsBack" "Z" ∈ wsX0_otherColour := by decide +kernel
theorem k_X0_otherColour_2 : Cond.fieldLink RX0 26 "WetMosaic$Piece" "back" "I" ∈ wsX0_otherColour := by decide +kernel
theorem k_X0_otherColour_3 : Cond.fieldLink RX0 23 "WetMosaic$Piece" "front" "I" ∈ wsX0_otherColour := by decide +kernel
set_option maxHeartbeats 4000000 in
set_option maxRecDepth 100000 in
theorem c_X0_otherColour (l : Launch) (D : va_G) (tys : List (ClassId × FieldType)) (W : va_W) (o x y ln : Nat) (fr bk : Int32) (ac sb ot : Bool) (hm : (o, .inr (0, [.int (nI x), .int (nI y), .int (nI ln), .int fr, .int bk, .int (gz ac), .int (gz sb), .int (gz ot)])) ∈ W) : gM l yX0_otherColour wsX0_otherColour ({ frames := 0, cells := 0, slots := 0, locals := 0 } : Room) D tys [.ref o] W (gIs (some (.int (if sb then fr else bk))) W) 0 0 := by
  refine gM_of (by decide) rfl (Nat.le_of_ble_eq_true rfl) ?_
  intro p e s m args below meth c A Q hin C hQ
  refine g_sub [0] (lv' := [(0, .ref o)]) rfl ?_
  cases sb with
  | false =>
    refine g_aload_n C dX0_otherColour_0 rfl 0 rfl ?_
    refine g_get (ci := 0) (Cn := RX0) (T := TX0) (N := 8) C k_X0_otherColour_inX0 hm rfl 6 (by decide) k_X0_otherColour_1 rfl rfl dX0_otherColour_1 ?_
    refine g_if_eq (tgt := 14) C dX0_otherColour_4 (by decide) (fun c_1 => ?_) (fun c_1 => by exfalso; revert c_1; decide)
    refine g_aload_n C dX0_otherColour_14 rfl 0 rfl ?_
    refine g_get (ci := 0) (Cn := RX0) (T := TX0) (N := 8) C k_X0_otherColour_inX0 hm rfl 4 (by decide) k_X0_otherColour_2 rfl rfl dX0_otherColour_15 ?_
    refine g_iret C hQ (Nat.le_of_ble_eq_true rfl) (Nat.le_of_ble_eq_true rfl) dX0_otherColour_18 ?_
    exact ⟨rfl, rfl⟩
  | true =>
    refine g_aload_n C dX0_otherColour_0 rfl 0 rfl ?_
    refine g_get (ci := 0) (Cn := RX0) (T := TX0) (N := 8) C k_X0_otherColour_inX0 hm rfl 6 (by decide) k_X0_otherColour_1 rfl rfl dX0_otherColour_1 ?_
    refine g_if_eq (tgt := 14) C dX0_otherColour_4 (by decide) (fun c_2 => by exfalso; revert c_2; decide) (fun c_2 => ?_)
    refine g_aload_n C dX0_otherColour_7 rfl 0 rfl ?_
    refine g_get (ci := 0) (Cn := RX0) (T := TX0) (N := 8) C k_X0_otherColour_inX0 hm rfl 3 (by decide) k_X0_otherColour_3 rfl rfl dX0_otherColour_8 ?_
    refine g_goto (tgt := 18) C dX0_otherColour_11 (by decide) ?_
    refine g_iret C hQ (Nat.le_of_ble_eq_true rfl) (Nat.le_of_ble_eq_true rfl) dX0_otherColour_18 ?_
    exact ⟨rfl, rfl⟩

theorem k_X1_find_inX1 : ∀ w ∈ wsX10, w ∈ wsX1_find := by decide +kernel
theorem k_X1_find_1 : Cond.fieldLink RX1 74 "WetMosaic" "pressed" "I" ∈ wsX1_find := by decide +kernel
theorem k_X1_find_2 : Cond.fieldLink RX1 21 "WetMosaic" "pieces" "[LWetMosaic$Piece;" ∈ wsX1_find := by decide +kernel
set_option maxHeartbeats 4000000 in
set_option maxRecDepth 100000 in
theorem c_X1_find (l : Launch) (D : va_G) (tys : List (ClassId × FieldType)) (cP : ClassId) (ht1 : tys[1]? = some (cP, .object RX0)) (W : va_W) (h a1 a2 a3 a4 a5 a6 a7 np hr : Nat) (pcs : Nat → Option Nat) (v : Int32) (hnp : np ≤ 100) (hm : (h, .inr (1, [.ref a1, .ref a2, .ref a3, .ref a4, .int (nI np), .int (nI hr), .ref a5, .ref a6, .ref a7])) ∈ W) (hm4 : (a4, .inl (cP, 100, .inr (.inr (.inr (.inr (pcs)))))) ∈ W) : gM l yX1_find wsX1_find ({ frames := 1, cells := 0, slots := 0, locals := 22 } : Room) D tys [.ref h, .int v] W (gIs (some (va_rf (fnd np pcs v))) W) 0 0 := by
  refine gM_of (by decide) rfl (Nat.le_of_ble_eq_true rfl) ?_
  intro p e s m args below meth c A Q hin C hQ
  refine g_sub [0, 1] (lv' := [(0, .ref h), (1, .int v)]) rfl ?_
  refine g_iload_n C dX1_find_0 rfl 1 rfl ?_
  refine g_iconst (v := 0) C dX1_find_1 (by decide) ?_
  refine g_aload_n C dX1_find_2 rfl 0 rfl ?_
  refine g_get (ci := 1) (Cn := RX1) (T := TX1) (N := 9) C k_X1_find_inX1 hm rfl 4 (by decide) k_X1_find_1 rfl rfl dX1_find_3 ?_
  refine g_iconst (v := 1) C dX1_find_6 (by decide) ?_
  refine g_isub C dX1_find_7 ?_
  refine g_callS (As := [.int v, .int 0, .int ((nI np) - 1)]) (rest := []) C (c_X1_within l D tys W v 0 ((nI np) - 1)) (va_cwS 3 C.ts gX1_find_X1_within rfl rfl rfl (by decide +kernel) ⟨(Nat.le_of_ble_eq_true rfl), (Nat.le_of_ble_eq_true rfl)⟩) rfl rfl (Nat.le_of_ble_eq_true rfl) dX1_find_8 (Nat.le_of_ble_eq_true rfl) (Nat.le_of_ble_eq_true rfl) (g_is (x := .int (gz (inR 0 ((nI np) - 1) v))) (W1 := W) ?_)
  refine g_if_eq (tgt := 32) C dX1_find_11 (by decide) (fun c_1 => ?_) (fun c_1 => ?_)
  · skip
    replace c_1 := gz0.mp c_1
    refine g_null C dX1_find_32 ?_
    refine g_aret C (Or.inl rfl) hQ (Nat.le_of_ble_eq_true rfl) (Nat.le_of_ble_eq_true rfl) dX1_find_33 ?_
    first | exact ⟨by rw [fnd, if_pos (by assumption)], rfl⟩ | exact ⟨by rw [fnd, if_neg (by simp [*])]; rfl, rfl⟩
  · skip
    replace c_1 := gzn.mp c_1
    obtain ⟨k, hk, hv⟩ := inR_np (by omega) c_1
    refine g_iload_n C dX1_find_14 rfl 1 rfl ?_
    refine g_aload_n C dX1_find_15 rfl 0 rfl ?_
    refine g_get (ci := 1) (Cn := RX1) (T := TX1) (N := 9) C k_X1_find_inX1 hm rfl 3 (by decide) k_X1_find_2 rfl rfl dX1_find_16 ?_
    refine g_alen (v := 100) C 1 hm4 ht1 rfl dX1_find_19 ?_
    refine g_icmp_ge (tgt := 32) C dX1_find_20 (by decide) (fun c_2 => by exfalso; rw [hv, show (100 : Int32) = nI 100 from rfl, nI_leI (by omega) (by omega)] at c_2; omega) (fun c_2 => ?_)
    refine g_aload_n C dX1_find_23 rfl 0 rfl ?_
    refine g_get (ci := 1) (Cn := RX1) (T := TX1) (N := 9) C k_X1_find_inX1 hm rfl 3 (by decide) k_X1_find_2 rfl rfl dX1_find_24 ?_
    refine g_iload_n C dX1_find_27 rfl 1 rfl ?_
    refine g_aald C 1 hm4 ht1 (by rw [hv]; exact vp_in_nI (by omega) (by omega)) dX1_find_28 ?_
    refine g_goto (tgt := 33) C dX1_find_29 (by decide) ?_
    refine g_aret C (va_rf_or _) hQ (Nat.le_of_ble_eq_true rfl) (Nat.le_of_ble_eq_true rfl) dX1_find_33 ?_
    first | exact ⟨by rw [fnd, if_pos (by assumption)], rfl⟩ | exact ⟨by rw [fnd, if_neg (by simp [*])]; rfl, rfl⟩

theorem k_X1_isLoose_inX0 : ∀ w ∈ wsX00, w ∈ wsX1_isLoose := by decide +kernel
theorem k_X1_isLoose_1 : Cond.fieldLink RX1 132 "WetMosaic$Piece" "out" "Z" ∈ wsX1_isLoose := by decide +kernel
theorem k_X1_isLoose_2 : Cond.fieldLink RX1 110 "WetMosaic$Piece" "length" "I" ∈ wsX1_isLoose := by decide +kernel
set_option maxHeartbeats 4000000 in
set_option maxRecDepth 100000 in
theorem c_X1_isLoose (l : Launch) (D : va_G) (tys : List (ClassId × FieldType)) (cI : ClassId) (ht0 : tys[0]? = some (cI, .int)) (W : va_W) (o x y ln : Nat) (fr bk : Int32) (ac sb ot : Bool) (r : Nat) (f : Nat → Int32) (hln : ln ≤ 3) (hc : ∀ j, j < ln → cel x y ac j < 80) (hm : (o, .inr (0, [.int (nI x), .int (nI y), .int (nI ln), .int fr, .int bk, .int (gz ac), .int (gz sb), .int (gz ot)])) ∈ W) (hr : (r, .inl (cI, 80, .inl (f))) ∈ W) : gM l yX1_isLoose wsX1_isLoose ({ frames := 2, cells := 0, slots := 0, locals := 43 } : Room) D tys [.ref o, .ref r] W (gIs (some (.int (gz (lse x y ln ac ot f)))) W) 0 0 := by
  refine gM_of (by decide) rfl (Nat.le_of_ble_eq_true rfl) ?_
  intro p e s m args below meth c A Q hin C hQ
  refine g_sub [0, 1] (lv' := [(0, .ref o), (1, .ref r)]) rfl ?_
  refine g_aload_n C dX1_isLoose_0 rfl 0 rfl ?_
  refine g_get (ci := 0) (Cn := RX0) (T := TX0) (N := 8) C k_X1_isLoose_inX0 hm rfl 7 (by decide) k_X1_isLoose_1 rfl rfl dX1_isLoose_1 ?_
  refine g_if_eq (tgt := 9) C dX1_isLoose_4 (by decide) (fun c_1 => ?_) (fun c_1 => ?_)
  · skip
    replace c_1 := gz0.mp c_1
    refine g_iconst (v := 0) C dX1_isLoose_9 (by decide) ?_
    refine g_istore_n (lv' := [(2, .int 0), (0, .ref o), (1, .ref r)]) C dX1_isLoose_10 rfl (by decide) rfl ?_
    have lp11 : ∀ (n9 : Nat) (j : Nat) (hj : allB (fun j => decide (1 ≤ f (cel x y ac j))) j = true) (hi : j ≤ ln) (hn : ln + 1 ≤ j + n9), G p l e ({ frames := 2, cells := 0, slots := 0, locals := 43 } : Room) s m args below meth c D A s.heap 3 0 0 Q 11 [(0, .ref o), (1, .ref r), (2, .int (nI j))] [] W := by
      intro n9
      induction n9 with
      | zero =>
        intro j hj hi hn
        exfalso; omega
      | succ n9 ih =>
        intro j hj hi hn
        refine g_iload_n C dX1_isLoose_11 rfl 2 rfl ?_
        refine g_aload_n C dX1_isLoose_12 rfl 0 rfl ?_
        refine g_get (ci := 0) (Cn := RX0) (T := TX0) (N := 8) C k_X1_isLoose_inX0 hm rfl 2 (by decide) k_X1_isLoose_2 rfl rfl dX1_isLoose_13 ?_
        refine g_icmp_ge (tgt := 40) C dX1_isLoose_16 (by decide) (fun c_2 => ?_) (fun c_2 => ?_)
        · skip
          rw [nI_leI (by omega) (by omega)] at c_2
          refine g_iconst (v := 1) C dX1_isLoose_40 (by decide) ?_
          refine g_zret C (by first | exact Or.inl rfl | exact Or.inr rfl | exact gz01 _) hQ (Nat.le_of_ble_eq_true rfl) (Nat.le_of_ble_eq_true rfl) dX1_isLoose_41 ?_
          exact ⟨gz_e1 (by rw [lse, show ln = j by omega, hj]; simp [*]), rfl⟩
        · skip
          rw [nI_leI (by omega) (by omega)] at c_2
          refine g_aload_n C dX1_isLoose_19 rfl 1 rfl ?_
          refine g_aload_n C dX1_isLoose_20 rfl 0 rfl ?_
          refine g_iload_n C dX1_isLoose_21 rfl 2 rfl ?_
          refine g_callV (ci := 0) (Cn := RX0) (As := [.int (nI j)]) (rest := [.ref r]) C hm rfl rfl (c_X0_cellAt l D tys W o x y ln fr bk ac sb ot hm j) (cwV 1 C.ts gX1_isLoose_X0_cellAt rfl rfl rfl (by decide +kernel) ⟨(Nat.le_of_ble_eq_true rfl), (Nat.le_of_ble_eq_true rfl)⟩) rfl rfl (Nat.le_of_ble_eq_true rfl) dX1_isLoose_22 (Nat.le_of_ble_eq_true rfl) (Nat.le_of_ble_eq_true rfl) (g_is (x := .int (nI (cel x y ac j))) (W1 := W) ?_)
          refine g_callS (As := [.ref r, .int (nI (cel x y ac j))]) (rest := []) C (c_X1_at l D tys cI ht0 W r 80 f (nI (cel x y ac j)) (by decide) (by decide) hr) (va_cwS 2 C.ts gX1_isLoose_X1_at rfl rfl rfl (by decide +kernel) ⟨(Nat.le_of_ble_eq_true rfl), (Nat.le_of_ble_eq_true rfl)⟩) rfl rfl (Nat.le_of_ble_eq_true rfl) dX1_isLoose_25 (Nat.le_of_ble_eq_true rfl) (Nat.le_of_ble_eq_true rfl) (g_is (x := .int (atv 80 f (nI (cel x y ac j)))) (W1 := W) ?_)
          rw [show (atv 80 f (nI (cel x y ac j))) = f (cel x y ac j) from atv_nI (hc j (by omega)) (by omega)]
          refine g_iconst (v := 1) C dX1_isLoose_28 (by decide) ?_
          refine g_icmp_ge (tgt := 34) C dX1_isLoose_29 (by decide) (fun c_3 => ?_) (fun c_3 => ?_)
          · skip
            refine g_iinc (v := nI (j + 1)) (lv' := [(2, .int (nI (j + 1))), (0, .ref o), (1, .ref r)]) C dX1_isLoose_34 2 rfl (by exact nI_add _ 1) (by decide) rfl ?_
            refine g_goto (tgt := 11) C dX1_isLoose_37 (by decide) ?_
            refine g_sub [1, 2, 0] (lv' := [(0, .ref o), (1, .ref r), (2, .int (nI (j + 1)))]) rfl ?_
            exact ih (j + 1) (by rw [allB, hj, dec_le (by assumption)]; rfl) (by omega) (by omega)
          · skip
            refine g_iconst (v := 0) C dX1_isLoose_32 (by decide) ?_
            refine g_zret C (by first | exact Or.inl rfl | exact Or.inr rfl | exact gz01 _) hQ (Nat.le_of_ble_eq_true rfl) (Nat.le_of_ble_eq_true rfl) dX1_isLoose_33 ?_
            exact ⟨gz_e0 (by rw [lse, allB_false (show j < ln by omega) (dec_nle (by assumption))]; simp), rfl⟩
    refine g_sub [1, 2, 0] (lv' := [(0, .ref o), (1, .ref r), (2, .int 0)]) rfl ?_
    exact lp11 (ln + 1) 0 rfl (by omega) (by omega)
  · skip
    replace c_1 := gzn.mp c_1
    refine g_iconst (v := 0) C dX1_isLoose_7 (by decide) ?_
    refine g_zret C (by first | exact Or.inl rfl | exact Or.inr rfl | exact gz01 _) hQ (Nat.le_of_ble_eq_true rfl) (Nat.le_of_ble_eq_true rfl) dX1_isLoose_8 ?_
    exact ⟨gz_e0 (by simp [lse, *]), rfl⟩

theorem k_X1_isFree_inX1 : ∀ w ∈ wsX10, w ∈ wsX1_isFree := by decide +kernel
theorem k_X1_isFree_1 : Cond.fieldLink RX1 13 "WetMosaic" "cover" "[I" ∈ wsX1_isFree := by decide +kernel
theorem k_X1_isFree_2 : Cond.fieldLink RX1 9 "WetMosaic" "wet" "[I" ∈ wsX1_isFree := by decide +kernel
set_option maxHeartbeats 4000000 in
set_option maxRecDepth 100000 in
theorem c_X1_isFree (l : Launch) (D : va_G) (tys : List (ClassId × FieldType)) (cI : ClassId) (ht0 : tys[0]? = some (cI, .int)) (W : va_W) (h a1 a2 a3 a4 a5 a6 a7 np hr : Nat) (wet cover : Nat → Int32) (i own : Int32) (hm : (h, .inr (1, [.ref a1, .ref a2, .ref a3, .ref a4, .int (nI np), .int (nI hr), .ref a5, .ref a6, .ref a7])) ∈ W) (hm1 : (a1, .inl (cI, 80, .inl (wet))) ∈ W) (hm2 : (a2, .inl (cI, 80, .inl (cover))) ∈ W) : gM l yX1_isFree wsX1_isFree ({ frames := 2, cells := 0, slots := 0, locals := 43 } : Room) D tys [.ref h, .int i, .int own] W (gIs (some (.int (gz (fre wet cover own i)))) W) 0 0 := by
  refine gM_of (by decide) rfl (Nat.le_of_ble_eq_true rfl) ?_
  intro p e s m args below meth c A Q hin C hQ
  refine g_sub [0, 1, 2] (lv' := [(0, .ref h), (1, .int i), (2, .int own)]) rfl ?_
  refine g_aload_n C dX1_isFree_0 rfl 0 rfl ?_
  refine g_get (ci := 1) (Cn := RX1) (T := TX1) (N := 9) C k_X1_isFree_inX1 hm rfl 1 (by decide) k_X1_isFree_1 rfl rfl dX1_isFree_1 ?_
  refine g_iload_n C dX1_isFree_4 rfl 1 rfl ?_
  refine g_callS (As := [.ref a2, .int i]) (rest := []) C (c_X1_at l D tys cI ht0 W a2 80 cover i (by decide) (by decide) hm2) (va_cwS 2 C.ts gX1_isFree_X1_at rfl rfl rfl (by decide +kernel) ⟨(Nat.le_of_ble_eq_true rfl), (Nat.le_of_ble_eq_true rfl)⟩) rfl rfl (Nat.le_of_ble_eq_true rfl) dX1_isFree_5 (Nat.le_of_ble_eq_true rfl) (Nat.le_of_ble_eq_true rfl) (g_is (x := .int (atv 80 cover i)) (W1 := W) ?_)
  refine g_istore_n (lv' := [(3, .int (atv 80 cover i)), (0, .ref h), (1, .int i), (2, .int own)]) C dX1_isFree_8 rfl (by decide) rfl ?_
  refine g_aload_n C dX1_isFree_9 rfl 1 rfl ?_
  refine g_get (ci := 1) (Cn := RX1) (T := TX1) (N := 9) C k_X1_isFree_inX1 hm rfl 0 (by decide) k_X1_isFree_2 rfl rfl dX1_isFree_10 ?_
  refine g_iload_n C dX1_isFree_13 rfl 2 rfl ?_
  refine g_callS (As := [.ref a1, .int i]) (rest := []) C (c_X1_at l D tys cI ht0 W a1 80 wet i (by decide) (by decide) hm1) (va_cwS 2 C.ts gX1_isFree_X1_at rfl rfl rfl (by decide +kernel) ⟨(Nat.le_of_ble_eq_true rfl), (Nat.le_of_ble_eq_true rfl)⟩) rfl rfl (Nat.le_of_ble_eq_true rfl) dX1_isFree_14 (Nat.le_of_ble_eq_true rfl) (Nat.le_of_ble_eq_true rfl) (g_is (x := .int (atv 80 wet i)) (W1 := W) ?_)
  refine g_iconst (v := 1) C dX1_isFree_17 (by decide) ?_
  refine g_icmp_lt (tgt := 35) C dX1_isFree_18 (by decide) (fun c_1 => ?_) (fun c_1 => ?_)
  · skip
    refine g_iconst (v := 0) C dX1_isFree_35 (by decide) ?_
    refine g_zret C (by first | exact Or.inl rfl | exact Or.inr rfl | exact gz01 _) hQ (Nat.le_of_ble_eq_true rfl) (Nat.le_of_ble_eq_true rfl) dX1_isFree_36 ?_
    first | exact ⟨gz_e0 (by simp [fre, *, dec_le, dec_nle, dec_lt, dec_nlt]), rfl⟩ | exact ⟨gz_e1 (by simp [fre, *, dec_le, dec_nle, dec_lt, dec_nlt]), rfl⟩
  · skip
    refine g_iload_n C dX1_isFree_21 rfl 0 rfl ?_
    refine g_iconst (v := (-1)) C dX1_isFree_22 (by decide) ?_
    refine g_icmp_eq (tgt := 31) C dX1_isFree_23 (by decide) (fun c_2 => ?_) (fun c_2 => ?_)
    · skip
      refine g_iconst (v := 1) C dX1_isFree_31 (by decide) ?_
      refine g_goto (tgt := 36) C dX1_isFree_32 (by decide) ?_
      refine g_zret C (by first | exact Or.inl rfl | exact Or.inr rfl | exact gz01 _) hQ (Nat.le_of_ble_eq_true rfl) (Nat.le_of_ble_eq_true rfl) dX1_isFree_36 ?_
      first | exact ⟨gz_e0 (by simp [fre, *, dec_le, dec_nle, dec_lt, dec_nlt]), rfl⟩ | exact ⟨gz_e1 (by simp [fre, *, dec_le, dec_nle, dec_lt, dec_nlt]), rfl⟩
    · skip
      refine g_iload_n C dX1_isFree_26 rfl 0 rfl ?_
      refine g_iload_n C dX1_isFree_27 rfl 3 rfl ?_
      refine g_icmp_ne (tgt := 35) C dX1_isFree_28 (by decide) (fun c_3 => ?_) (fun c_3 => ?_)
      · skip
        refine g_iconst (v := 0) C dX1_isFree_35 (by decide) ?_
        refine g_zret C (by first | exact Or.inl rfl | exact Or.inr rfl | exact gz01 _) hQ (Nat.le_of_ble_eq_true rfl) (Nat.le_of_ble_eq_true rfl) dX1_isFree_36 ?_
        first | exact ⟨gz_e0 (by simp [fre, *, dec_le, dec_nle, dec_lt, dec_nlt]), rfl⟩ | exact ⟨gz_e1 (by simp [fre, *, dec_le, dec_nle, dec_lt, dec_nlt]), rfl⟩
      · skip
        refine g_iconst (v := 1) C dX1_isFree_31 (by decide) ?_
        refine g_goto (tgt := 36) C dX1_isFree_32 (by decide) ?_
        refine g_zret C (by first | exact Or.inl rfl | exact Or.inr rfl | exact gz01 _) hQ (Nat.le_of_ble_eq_true rfl) (Nat.le_of_ble_eq_true rfl) dX1_isFree_36 ?_
        first | exact ⟨gz_e0 (by simp [fre, *, dec_le, dec_nle, dec_lt, dec_nlt]), rfl⟩ | exact ⟨gz_e1 (by simp [fre, *, dec_le, dec_nle, dec_lt, dec_nlt]), rfl⟩

set_option maxHeartbeats 4000000 in
set_option maxRecDepth 100000 in
theorem c_X1_hasRoom (l : Launch) (D : va_G) (tys : List (ClassId × FieldType)) (cI : ClassId) (ht0 : tys[0]? = some (cI, .int)) (W : va_W) (h a1 a2 a3 a4 a5 a6 a7 np hr : Nat) (wet cover : Nat → Int32) (x y ln : Nat) (ac : Bool) (own : Int32) (hx : x ≤ 9) (hy : y ≤ 7) (hln : ln ≤ 3) (hm : (h, .inr (1, [.ref a1, .ref a2, .ref a3, .ref a4, .int (nI np), .int (nI hr), .ref a5, .ref a6, .ref a7])) ∈ W) (hm1 : (a1, .inl (cI, 80, .inl (wet))) ∈ W) (hm2 : (a2, .inl (cI, 80, .inl (cover))) ∈ W) : gM l yX1_hasRoom wsX1_hasRoom ({ frames := 3, cells := 0, slots := 0, locals := 66 } : Room) D tys [.ref h, .int (nI x), .int (nI y), .int (nI ln), .int (gz ac), .int own] W (gIs (some (.int (gz (hrm wet cover x y ln ac own)))) W) 0 0 := by
  refine gM_of (by decide) rfl (Nat.le_of_ble_eq_true rfl) ?_
  intro p e s m args below meth c A Q hin C hQ
  refine g_sub [0, 1, 2, 3, 4, 5] (lv' := [(0, .ref h), (1, .int (nI x)), (2, .int (nI y)), (3, .int (nI ln)), (4, .int (gz ac)), (5, .int own)]) rfl ?_
  cases ac with
  | false =>
    refine g_iconst (v := 0) C dX1_hasRoom_0 (by decide) ?_
    refine g_istore (lv' := [(6, .int 0), (0, .ref h), (1, .int (nI x)), (2, .int (nI y)), (3, .int (nI ln)), (4, .int (gz false)), (5, .int own)]) C dX1_hasRoom_1 (by decide) rfl ?_
    have lp3 : ∀ (n9 : Nat) (j : Nat) (hj : allB (hr1 wet cover x y false own) j = true) (hi : j ≤ ln) (hn : ln + 1 ≤ j + n9), G p l e ({ frames := 3, cells := 0, slots := 0, locals := 66 } : Room) s m args below meth c D A s.heap 9 0 0 Q 3 [(0, .ref h), (1, .int (nI x)), (2, .int (nI y)), (3, .int (nI ln)), (4, .int (gz false)), (5, .int own), (6, .int (nI j))] [] W := by
      intro n9
      induction n9 with
      | zero =>
        intro j hj hi hn
        exfalso; omega
      | succ n9 ih =>
        intro j hj hi hn
        refine g_iload C dX1_hasRoom_3 6 rfl ?_
        refine g_iload_n C dX1_hasRoom_5 rfl 3 rfl ?_
        refine g_icmp_ge (tgt := 73) C dX1_hasRoom_6 (by decide) (fun c_1 => ?_) (fun c_1 => ?_)
        · skip
          rw [nI_leI (by omega) (by omega)] at c_1
          refine g_iconst (v := 1) C dX1_hasRoom_73 (by decide) ?_
          refine g_zret C (by first | exact Or.inl rfl | exact Or.inr rfl | exact gz01 _) hQ (Nat.le_of_ble_eq_true rfl) (Nat.le_of_ble_eq_true rfl) dX1_hasRoom_74 ?_
          exact ⟨gz_e1 (by rw [hrm, show ln = j by omega]; exact hj), rfl⟩
        · skip
          rw [nI_leI (by omega) (by omega)] at c_1
          refine g_iload C dX1_hasRoom_9 4 rfl ?_
          refine g_if_eq (tgt := 21) C dX1_hasRoom_11 (by decide) (fun c_2 => ?_) (fun c_2 => by exfalso; revert c_2; decide)
          refine g_iload_n C dX1_hasRoom_21 rfl 1 rfl ?_
          refine g_istore (lv' := [(7, .int (nI x)), (0, .ref h), (1, .int (nI x)), (2, .int (nI y)), (3, .int (nI ln)), (4, .int (gz false)), (5, .int own), (6, .int (nI j))]) C dX1_hasRoom_22 (by decide) rfl ?_
          refine g_iload C dX1_hasRoom_24 5 rfl ?_
          refine g_if_eq (tgt := 33) C dX1_hasRoom_26 (by decide) (fun c_3 => ?_) (fun c_3 => by exfalso; revert c_3; decide)
          refine g_iload_n C dX1_hasRoom_33 rfl 3 rfl ?_
          refine g_iload C dX1_hasRoom_34 7 rfl ?_
          refine g_iadd C dX1_hasRoom_36 ?_
          rw [show ((nI y) + (nI j)) = nI (y + j) from nI_add _ _]
          refine g_istore (lv' := [(8, .int (nI (y + j))), (7, .int (nI x)), (0, .ref h), (1, .int (nI x)), (2, .int (nI y)), (3, .int (nI ln)), (4, .int (gz false)), (5, .int own), (6, .int (nI j))]) C dX1_hasRoom_37 (by decide) rfl ?_
          refine g_iload C dX1_hasRoom_39 1 rfl ?_
          refine g_iload C dX1_hasRoom_41 0 rfl ?_
          refine g_callS (As := [.int (nI x), .int (nI (y + j))]) (rest := []) C (c_X1_isOnWall l D tys W (nI x) (nI (y + j))) (va_cwS 2 C.ts gX1_hasRoom_X1_isOnWall rfl rfl rfl (by decide +kernel) ⟨(Nat.le_of_ble_eq_true rfl), (Nat.le_of_ble_eq_true rfl)⟩) rfl rfl (Nat.le_of_ble_eq_true rfl) dX1_hasRoom_43 (Nat.le_of_ble_eq_true rfl) (Nat.le_of_ble_eq_true rfl) (g_is (x := .int (gz (onW (nI x) (nI (y + j))))) (W1 := W) ?_)
          refine g_if_eq (tgt := 65) C dX1_hasRoom_46 (by decide) (fun c_4 => ?_) (fun c_4 => ?_)
          · skip
            replace c_4 := gz0.mp c_4
            refine g_iconst (v := 0) C dX1_hasRoom_65 (by decide) ?_
            refine g_zret C (by first | exact Or.inl rfl | exact Or.inr rfl | exact gz01 _) hQ (Nat.le_of_ble_eq_true rfl) (Nat.le_of_ble_eq_true rfl) dX1_hasRoom_66 ?_
            exact ⟨gz_e0 (allB_false (show j < ln by omega) (by simp [hr1, cel, *])), rfl⟩
          · skip
            replace c_4 := gzn.mp c_4
            refine g_aload_n C dX1_hasRoom_49 rfl 2 rfl ?_
            refine g_iload C dX1_hasRoom_50 1 rfl ?_
            refine g_iload C dX1_hasRoom_52 0 rfl ?_
            refine g_callS (As := [.int (nI x), .int (nI (y + j))]) (rest := [.ref h]) C (c_X1_cellOf l D tys W (nI x) (nI (y + j))) (va_cwS 2 C.ts gX1_hasRoom_X1_cellOf rfl rfl rfl (by decide +kernel) ⟨(Nat.le_of_ble_eq_true rfl), (Nat.le_of_ble_eq_true rfl)⟩) rfl rfl (Nat.le_of_ble_eq_true rfl) dX1_hasRoom_54 (Nat.le_of_ble_eq_true rfl) (Nat.le_of_ble_eq_true rfl) (g_is (x := .int (10 * (nI (y + j)) + (nI x))) (W1 := W) ?_)
            rw [show (10 * (nI (y + j)) + (nI x)) = nI (10 * (y + j) + x) from cel_nI _ _]
            refine g_iload C dX1_hasRoom_57 7 rfl ?_
            refine g_callV (ci := 1) (Cn := RX1) (As := [.int (nI (10 * (y + j) + x)), .int own]) (rest := []) C hm rfl rfl (c_X1_isFree l D tys cI ht0 W h a1 a2 a3 a4 a5 a6 a7 np hr wet cover (nI (10 * (y + j) + x)) own hm hm1 hm2) (cwV 2 C.ts gX1_hasRoom_X1_isFree rfl rfl rfl (by decide +kernel) ⟨(Nat.le_of_ble_eq_true rfl), (Nat.le_of_ble_eq_true rfl)⟩) rfl rfl (Nat.le_of_ble_eq_true rfl) dX1_hasRoom_59 (Nat.le_of_ble_eq_true rfl) (Nat.le_of_ble_eq_true rfl) (g_is (x := .int (gz (fre wet cover own (nI (10 * (y + j) + x))))) (W1 := W) ?_)
            refine g_if_ne (tgt := 67) C dX1_hasRoom_62 (by decide) (fun c_5 => ?_) (fun c_5 => ?_)
            · skip
              replace c_5 := gzn.mp c_5
              refine g_iinc (v := nI (j + 1)) (lv' := [(6, .int (nI (j + 1))), (8, .int (nI (y + j))), (7, .int (nI x)), (0, .ref h), (1, .int (nI x)), (2, .int (nI y)), (3, .int (nI ln)), (4, .int (gz false)), (5, .int own)]) C dX1_hasRoom_67 8 rfl (by exact nI_add _ 1) (by decide) rfl ?_
              refine g_goto (tgt := 3) C dX1_hasRoom_70 (by decide) ?_
              refine g_sub [3, 4, 5, 6, 7, 8, 0] (lv' := [(0, .ref h), (1, .int (nI x)), (2, .int (nI y)), (3, .int (nI ln)), (4, .int (gz false)), (5, .int own), (6, .int (nI (j + 1)))]) rfl ?_
              exact ih (j + 1) (by rw [allB, hj]; simp [hr1, cel, *]) (by omega) (by omega)
            · skip
              replace c_5 := gz0.mp c_5
              refine g_iconst (v := 0) C dX1_hasRoom_65 (by decide) ?_
              refine g_zret C (by first | exact Or.inl rfl | exact Or.inr rfl | exact gz01 _) hQ (Nat.le_of_ble_eq_true rfl) (Nat.le_of_ble_eq_true rfl) dX1_hasRoom_66 ?_
              exact ⟨gz_e0 (allB_false (show j < ln by omega) (by simp [hr1, cel, *])), rfl⟩
    refine g_sub [1, 2, 3, 4, 5, 6, 0] (lv' := [(0, .ref h), (1, .int (nI x)), (2, .int (nI y)), (3, .int (nI ln)), (4, .int (gz false)), (5, .int own), (6, .int 0)]) rfl ?_
    exact lp3 (ln + 1) 0 rfl (by omega) (by omega)
  | true =>
    refine g_iconst (v := 0) C dX1_hasRoom_0 (by decide) ?_
    refine g_istore (lv' := [(6, .int 0), (0, .ref h), (1, .int (nI x)), (2, .int (nI y)), (3, .int (nI ln)), (4, .int (gz true)), (5, .int own)]) C dX1_hasRoom_1 (by decide) rfl ?_
    have lp3_6 : ∀ (n9 : Nat) (j : Nat) (hj : allB (hr1 wet cover x y true own) j = true) (hi : j ≤ ln) (hn : ln + 1 ≤ j + n9), G p l e ({ frames := 3, cells := 0, slots := 0, locals := 66 } : Room) s m args below meth c D A s.heap 9 0 0 Q 3 [(0, .ref h), (1, .int (nI x)), (2, .int (nI y)), (3, .int (nI ln)), (4, .int (gz true)), (5, .int own), (6, .int (nI j))] [] W := by
      intro n9
      induction n9 with
      | zero =>
        intro j hj hi hn
        exfalso; omega
      | succ n9 ih =>
        intro j hj hi hn
        refine g_iload C dX1_hasRoom_3 6 rfl ?_
        refine g_iload_n C dX1_hasRoom_5 rfl 3 rfl ?_
        refine g_icmp_ge (tgt := 73) C dX1_hasRoom_6 (by decide) (fun c_7 => ?_) (fun c_7 => ?_)
        · skip
          rw [nI_leI (by omega) (by omega)] at c_7
          refine g_iconst (v := 1) C dX1_hasRoom_73 (by decide) ?_
          refine g_zret C (by first | exact Or.inl rfl | exact Or.inr rfl | exact gz01 _) hQ (Nat.le_of_ble_eq_true rfl) (Nat.le_of_ble_eq_true rfl) dX1_hasRoom_74 ?_
          exact ⟨gz_e1 (by rw [hrm, show ln = j by omega]; exact hj), rfl⟩
        · skip
          rw [nI_leI (by omega) (by omega)] at c_7
          refine g_iload C dX1_hasRoom_9 4 rfl ?_
          refine g_if_eq (tgt := 21) C dX1_hasRoom_11 (by decide) (fun c_8 => by exfalso; revert c_8; decide) (fun c_8 => ?_)
          refine g_iload_n C dX1_hasRoom_14 rfl 1 rfl ?_
          refine g_iload C dX1_hasRoom_15 6 rfl ?_
          refine g_iadd C dX1_hasRoom_17 ?_
          rw [show ((nI x) + (nI j)) = nI (x + j) from nI_add _ _]
          refine g_goto (tgt := 22) C dX1_hasRoom_18 (by decide) ?_
          refine g_istore (lv' := [(7, .int (nI (x + j))), (0, .ref h), (1, .int (nI x)), (2, .int (nI y)), (3, .int (nI ln)), (4, .int (gz true)), (5, .int own), (6, .int (nI j))]) C dX1_hasRoom_22 (by decide) rfl ?_
          refine g_iload C dX1_hasRoom_24 5 rfl ?_
          refine g_if_eq (tgt := 33) C dX1_hasRoom_26 (by decide) (fun c_9 => by exfalso; revert c_9; decide) (fun c_9 => ?_)
          refine g_iload_n C dX1_hasRoom_29 rfl 3 rfl ?_
          refine g_goto (tgt := 37) C dX1_hasRoom_30 (by decide) ?_
          refine g_istore (lv' := [(8, .int (nI y)), (7, .int (nI (x + j))), (0, .ref h), (1, .int (nI x)), (2, .int (nI y)), (3, .int (nI ln)), (4, .int (gz true)), (5, .int own), (6, .int (nI j))]) C dX1_hasRoom_37 (by decide) rfl ?_
          refine g_iload C dX1_hasRoom_39 1 rfl ?_
          refine g_iload C dX1_hasRoom_41 0 rfl ?_
          refine g_callS (As := [.int (nI (x + j)), .int (nI y)]) (rest := []) C (c_X1_isOnWall l D tys W (nI (x + j)) (nI y)) (va_cwS 2 C.ts gX1_hasRoom_X1_isOnWall rfl rfl rfl (by decide +kernel) ⟨(Nat.le_of_ble_eq_true rfl), (Nat.le_of_ble_eq_true rfl)⟩) rfl rfl (Nat.le_of_ble_eq_true rfl) dX1_hasRoom_43 (Nat.le_of_ble_eq_true rfl) (Nat.le_of_ble_eq_true rfl) (g_is (x := .int (gz (onW (nI (x + j)) (nI y)))) (W1 := W) ?_)
          refine g_if_eq (tgt := 65) C dX1_hasRoom_46 (by decide) (fun c_10 => ?_) (fun c_10 => ?_)
          · skip
            replace c_10 := gz0.mp c_10
            refine g_iconst (v := 0) C dX1_hasRoom_65 (by decide) ?_
            refine g_zret C (by first | exact Or.inl rfl | exact Or.inr rfl | exact gz01 _) hQ (Nat.le_of_ble_eq_true rfl) (Nat.le_of_ble_eq_true rfl) dX1_hasRoom_66 ?_
            exact ⟨gz_e0 (allB_false (show j < ln by omega) (by simp [hr1, cel, *])), rfl⟩
          · skip
            replace c_10 := gzn.mp c_10
            refine g_aload_n C dX1_hasRoom_49 rfl 2 rfl ?_
            refine g_iload C dX1_hasRoom_50 1 rfl ?_
            refine g_iload C dX1_hasRoom_52 0 rfl ?_
            refine g_callS (As := [.int (nI (x + j)), .int (nI y)]) (rest := [.ref h]) C (c_X1_cellOf l D tys W (nI (x + j)) (nI y)) (va_cwS 2 C.ts gX1_hasRoom_X1_cellOf rfl rfl rfl (by decide +kernel) ⟨(Nat.le_of_ble_eq_true rfl), (Nat.le_of_ble_eq_true rfl)⟩) rfl rfl (Nat.le_of_ble_eq_true rfl) dX1_hasRoom_54 (Nat.le_of_ble_eq_true rfl) (Nat.le_of_ble_eq_true rfl) (g_is (x := .int (10 * (nI y) + (nI (x + j)))) (W1 := W) ?_)
            rw [show (10 * (nI y) + (nI (x + j))) = nI (10 * y + (x + j)) from cel_nI _ _]
            refine g_iload C dX1_hasRoom_57 7 rfl ?_
            refine g_callV (ci := 1) (Cn := RX1) (As := [.int (nI (10 * y + (x + j))), .int own]) (rest := []) C hm rfl rfl (c_X1_isFree l D tys cI ht0 W h a1 a2 a3 a4 a5 a6 a7 np hr wet cover (nI (10 * y + (x + j))) own hm hm1 hm2) (cwV 2 C.ts gX1_hasRoom_X1_isFree rfl rfl rfl (by decide +kernel) ⟨(Nat.le_of_ble_eq_true rfl), (Nat.le_of_ble_eq_true rfl)⟩) rfl rfl (Nat.le_of_ble_eq_true rfl) dX1_hasRoom_59 (Nat.le_of_ble_eq_true rfl) (Nat.le_of_ble_eq_true rfl) (g_is (x := .int (gz (fre wet cover own (nI (10 * y + (x + j)))))) (W1 := W) ?_)
            refine g_if_ne (tgt := 67) C dX1_hasRoom_62 (by decide) (fun c_11 => ?_) (fun c_11 => ?_)
            · skip
              replace c_11 := gzn.mp c_11
              refine g_iinc (v := nI (j + 1)) (lv' := [(6, .int (nI (j + 1))), (8, .int (nI y)), (7, .int (nI (x + j))), (0, .ref h), (1, .int (nI x)), (2, .int (nI y)), (3, .int (nI ln)), (4, .int (gz true)), (5, .int own)]) C dX1_hasRoom_67 8 rfl (by exact nI_add _ 1) (by decide) rfl ?_
              refine g_goto (tgt := 3) C dX1_hasRoom_70 (by decide) ?_
              refine g_sub [3, 4, 5, 6, 7, 8, 0] (lv' := [(0, .ref h), (1, .int (nI x)), (2, .int (nI y)), (3, .int (nI ln)), (4, .int (gz true)), (5, .int own), (6, .int (nI (j + 1)))]) rfl ?_
              exact ih (j + 1) (by rw [allB, hj]; simp [hr1, cel, *]) (by omega) (by omega)
            · skip
              replace c_11 := gz0.mp c_11
              refine g_iconst (v := 0) C dX1_hasRoom_65 (by decide) ?_
              refine g_zret C (by first | exact Or.inl rfl | exact Or.inr rfl | exact gz01 _) hQ (Nat.le_of_ble_eq_true rfl) (Nat.le_of_ble_eq_true rfl) dX1_hasRoom_66 ?_
              exact ⟨gz_e0 (allB_false (show j < ln by omega) (by simp [hr1, cel, *])), rfl⟩
    refine g_sub [1, 2, 3, 4, 5, 6, 0] (lv' := [(0, .ref h), (1, .int (nI x)), (2, .int (nI y)), (3, .int (nI ln)), (4, .int (gz true)), (5, .int own), (6, .int 0)]) rfl ?_
    exact lp3_6 (ln + 1) 0 rfl (by omega) (by omega)
end
section
/-! a piece as a tuple: x, y, cells, front, back, across, shows its back, out -/
abbrev Pd : Type := Nat × Nat × Nat × Int32 × Int32 × Bool × Bool × Bool
abbrev qx (p : Pd) : Nat := p.1
abbrev qy (p : Pd) : Nat := p.2.1
abbrev ql (p : Pd) : Nat := p.2.2.1
abbrev qf (p : Pd) : Int32 := p.2.2.2.1
abbrev qb (p : Pd) : Int32 := p.2.2.2.2.1
abbrev qc (p : Pd) : Bool := p.2.2.2.2.2.1
abbrev qs (p : Pd) : Bool := p.2.2.2.2.2.2.1
abbrev qo (p : Pd) : Bool := p.2.2.2.2.2.2.2
abbrev pcE (p : Pd) : va_E := .inr (0, [.int (nI (qx p)), .int (nI (qy p)), .int (nI (ql p)), .int (qf p), .int (qb p), .int (gz (qc p)), .int (gz (qs p)), .int (gz (qo p))])
/-- the cells of a piece, and its being loose -/
def pcl (p : Pd) (j : Nat) : Nat := cel (qx p) (qy p) (qc p) j
def lsp (p : Pd) (f : Nat → Int32) : Bool := lse (qx p) (qy p) (ql p) (qc p) (qo p) f
def shw (p : Pd) : Int32 := if qs p then qb p else qf p
def oth (p : Pd) : Int32 := if qs p then qf p else qb p
def Pin (W : va_W) (np : Nat) (pcs : Nat → Option Nat) (pa : Nat → Nat) (P : Nat → Pd) : Prop := ∀ k, k < np → pcs k = some (pa k) ∧ (pa k, pcE (P k)) ∈ W
def Pg (p : Pd) : Prop := 1 ≤ ql p ∧ ql p ≤ 3 ∧ qx p ≤ 9 ∧ qy p ≤ 7 ∧ ∀ j, j < ql p → cel (qx p) (qy p) (qc p) j < 80
def Pok (np : Nat) (P : Nat → Pd) : Prop := ∀ k, k < np → Pg (P k)
theorem fnd_nI {np k : Nat} {pcs : Nat → Option Nat} {a : Nat} (h : k < np) (hn : np ≤ 100) (hp : pcs k = some a) : va_rf (fnd np pcs (nI k)) = .ref a := by
  rw [fnd, inR_of (n := np - 1) (by rw [show nI np - 1 = Int32.ofNat np - 1 from rfl, ofN1 (by omega) (by omega)]) (by omega), if_pos rfl, nI_clamp (by omega), hp]
  rfl
/-- the colour that a cell shows -/
def colv (np : Nat) (P : Nat → Pd) (cover : Nat → Int32) (c : Nat) : Int32 := if inR 0 (nI np - 1) (cover c) then shw (P (cover c).toNatClampNeg) else -1
def cfact (np : Nat) (P : Nat → Pd) (wet cover : Nat → Int32) (c w : Nat) : Int32 := if w = 0 then wet c else if w = 1 then cover c else colv np P cover c
def pfact (p : Pd) (wet : Nat → Int32) (w : Nat) : Int32 :=
  if w = 0 then nI (qx p) else if w = 1 then nI (qy p) else if w = 2 then nI (ql p) else if w = 3 then gz (qc p) else if w = 4 then shw p else if w = 5 then oth p else if w = 6 then gz (lsp p wet) else gz (qo p)
def fitB (np : Nat) (P : Nat → Pd) (cover : Nat → Int32) (x y k : Nat) (a b : Int32) : Bool :=
  if k = 0 then decide (colv np P cover (10 * y + x) = a) else if k = 1 then decide (colv np P cover (10 * y + x) = if y % 2 = 0 then a else b)
  else if k = 2 then decide (colv np P cover (10 * y + x) = if (x + y) % 2 = 0 then a else b) else decide (colv np P cover (10 * y + x) = colv np P cover (10 * y + (9 - x)))
def offB (np : Nat) (P : Nat → Pd) (cover : Nat → Int32) (k : Nat) (a b : Int32) (c : Nat) : Bool := !fitB np P cover (c % 10) (c / 10) k a b
theorem remI (a d : Nat) (ha : a < 2 ^ 31) (h0 : 0 < d) (hd : d < 2 ^ 31) {D : Int32} (hD : D = nI d) : nI a - nI a / D * D = nI (a % d) := by rw [hD]; exact pk_rem ha h0 hd
theorem divI (a d : Nat) (ha : a < 2 ^ 31) (h0 : 0 < d) (hd : d < 2 ^ 31) {D : Int32} (hD : D = nI d) : nI a / D = nI (a / d) := by rw [hD]; exact pk_div ha h0 hd
theorem sub9 {x : Nat} (h : x ≤ 9) : (9 : Int32) - nI x = nI (9 - x) := by rw [show (9 : Int32) = nI 9 from rfl, pk_sub h]
section GL2
variable {p : Program} {l : Launch} {e : Env} {R : Room} {s : State} {m : MethodId} {args : Array Value} {below : List Frame} {meth : Method} {c : Code} {Q : State → Prop} {D : va_G} {A : Nat → Prop} {H0 : Heap} {nL k n : Nat} {pc : Nat} {lv : List (Nat × Value)} {ws ws' : va_W}
/-- a row of ints as another function that agrees with it as far as it goes -/
theorem g_cong {st : List Value} {cA : ClassId} {a N : Nat} {f g : Nat → Int32} (q0 : Nat) (hq : ws[q0]? = some (a, .inl (cA, N, .inl f))) (h : ∀ j, j < N → f j = g j) (hw : ws.set q0 (a, .inl (cA, N, .inl g)) = ws') (kk : G p l e R s m args below meth c D A H0 nL k n Q pc lv st ws') : G p l e R s m args below meth c D A H0 nL k n Q pc lv st ws := by
  intro H locs ls hP hD hS hl
  have hc : vp_cell cA (N, .inl f) = vp_cell cA (N, .inl g) := by
    rw [vp_cell_i, vp_cell_i, arrV, arrV]
    congr 1
    apply Array.ext
    · simp
    · intro i h1 h2
      simp only [Array.size_ofFn] at h1
      simp only [Array.getElem_ofFn]
      rw [h i h1]
  have hat := hP q0 _ hq
  have hP1 : va_P D vwCl (ws.set q0 (a, .inl (cA, N, .inl g))) H := hP.set hD hq (by
    show H[a]? = some (vp_cell cA (N, .inl g))
    rw [← hc]; exact hat) (fun _ _ => rfl)
  have hD1 : va_D A (ws.set q0 (a, .inl (cA, N, .inl g))) := hD.set hq
  rw [hw] at hP1 hD1
  exact kk H locs ls hP1 hD1 hS hl
end GL2
end
section
theorem k_X1_piecesIn_inX1 : ∀ w ∈ wsX10, w ∈ wsX1_piecesIn := by decide +kernel
theorem k_X1_piecesIn_1 : Cond.fieldLink RX1 74 "WetMosaic" "pressed" "I" ∈ wsX1_piecesIn := by decide +kernel
theorem k_X1_piecesIn_inX0 : ∀ w ∈ wsX00, w ∈ wsX1_piecesIn := by decide +kernel
theorem k_X1_piecesIn_3 : Cond.fieldLink RX1 132 "WetMosaic$Piece" "out" "Z" ∈ wsX1_piecesIn := by decide +kernel
set_option maxHeartbeats 4000000 in
set_option maxRecDepth 100000 in
theorem c_X1_piecesIn (l : Launch) (D : va_G) (tys : List (ClassId × FieldType)) (cP : ClassId) (ht1 : tys[1]? = some (cP, .object RX0)) (W : va_W) (h a1 a2 a3 a4 a5 a6 a7 np hr : Nat) (pcs : Nat → Option Nat) (pa : Nat → Nat) (P : Nat → Pd) (hnp : np ≤ 100) (hp : Pin W np pcs pa P) (hm : (h, .inr (1, [.ref a1, .ref a2, .ref a3, .ref a4, .int (nI np), .int (nI hr), .ref a5, .ref a6, .ref a7])) ∈ W) (hm4 : (a4, .inl (cP, 100, .inr (.inr (.inr (.inr (pcs)))))) ∈ W) : gM l yX1_piecesIn wsX1_piecesIn ({ frames := 2, cells := 0, slots := 0, locals := 43 } : Room) D tys [.ref h] W (gIs (some (.int (nI (cnt (fun k => !qo (P k)) np)))) W) 0 0 := by
  refine gM_of (by decide) rfl (Nat.le_of_ble_eq_true rfl) ?_
  intro p e s m args below meth c A Q hin C hQ
  refine g_sub [0] (lv' := [(0, .ref h)]) rfl ?_
  refine g_iconst (v := 0) C dX1_piecesIn_0 (by decide) ?_
  refine g_istore_n (lv' := [(1, .int 0), (0, .ref h)]) C dX1_piecesIn_1 rfl (by decide) rfl ?_
  refine g_iconst (v := 0) C dX1_piecesIn_2 (by decide) ?_
  refine g_istore_n (lv' := [(2, .int 0), (1, .int 0), (0, .ref h)]) C dX1_piecesIn_3 rfl (by decide) rfl ?_
  have lp4 : ∀ (n9 : Nat) (i q : Nat) (hq : q = cnt (fun k => !qo (P k)) i) (hi : i ≤ np) (hn : np + 1 ≤ i + n9), G p l e ({ frames := 2, cells := 0, slots := 0, locals := 43 } : Room) s m args below meth c D A s.heap 4 0 0 Q 4 [(0, .ref h), (1, .int (nI q)), (2, .int (nI i))] [] W := by
    intro n9
    induction n9 with
    | zero =>
      intro i q hq hi hn
      exfalso; omega
    | succ n9 ih =>
      intro i q hq hi hn
      refine g_iload_n C dX1_piecesIn_4 rfl 2 rfl ?_
      refine g_aload_n C dX1_piecesIn_5 rfl 0 rfl ?_
      refine g_get (ci := 1) (Cn := RX1) (T := TX1) (N := 9) C k_X1_piecesIn_inX1 hm rfl 4 (by decide) k_X1_piecesIn_1 rfl rfl dX1_piecesIn_6 ?_
      refine g_icmp_ge (tgt := 38) C dX1_piecesIn_9 (by decide) (fun c_1 => ?_) (fun c_1 => ?_)
      · skip
        rw [nI_leI (by omega) (by omega)] at c_1
        refine g_iload_n C dX1_piecesIn_38 rfl 1 rfl ?_
        refine g_iret C hQ (Nat.le_of_ble_eq_true rfl) (Nat.le_of_ble_eq_true rfl) dX1_piecesIn_39 ?_
        exact ⟨by rw [hq, show i = np by omega], rfl⟩
      · skip
        rw [nI_leI (by omega) (by omega)] at c_1
        refine g_aload_n C dX1_piecesIn_12 rfl 0 rfl ?_
        refine g_iload_n C dX1_piecesIn_13 rfl 2 rfl ?_
        refine g_callV (ci := 1) (Cn := RX1) (As := [.int (nI i)]) (rest := []) C hm rfl rfl (c_X1_find l D tys cP ht1 W h a1 a2 a3 a4 a5 a6 a7 np hr pcs (nI i) hnp hm hm4) (cwV 1 C.ts gX1_piecesIn_X1_find rfl rfl rfl (by decide +kernel) ⟨(Nat.le_of_ble_eq_true rfl), (Nat.le_of_ble_eq_true rfl)⟩) rfl rfl (Nat.le_of_ble_eq_true rfl) dX1_piecesIn_14 (Nat.le_of_ble_eq_true rfl) (Nat.le_of_ble_eq_true rfl) (g_is (x := va_rf (fnd np pcs (nI i))) (W1 := W) ?_)
        rw [show va_rf (fnd np pcs (nI i)) = .ref (pa i) from fnd_nI (by omega) hnp (hp i (by omega)).1]
        refine g_astore_n (lv' := [(3, .ref (pa i)), (0, .ref h), (1, .int (nI q)), (2, .int (nI i))]) C dX1_piecesIn_17 rfl (by decide) rfl ?_
        refine g_aload_n C dX1_piecesIn_18 rfl 0 rfl ?_
        refine g_ifnull C dX1_piecesIn_19 ?_
        refine g_aload_n C dX1_piecesIn_22 rfl 0 rfl ?_
        refine g_get (ci := 0) (Cn := RX0) (T := TX0) (N := 8) C k_X1_piecesIn_inX0 (hp i (by omega)).2 rfl 7 (by decide) k_X1_piecesIn_3 rfl rfl dX1_piecesIn_23 ?_
        refine g_if_ne (tgt := 32) C dX1_piecesIn_26 (by decide) (fun c_2 => ?_) (fun c_2 => ?_)
        · skip
          replace c_2 := gzn.mp c_2
          refine g_iinc (v := nI (i + 1)) (lv' := [(2, .int (nI (i + 1))), (3, .ref (pa i)), (0, .ref h), (1, .int (nI q))]) C dX1_piecesIn_32 3 rfl (by exact nI_add _ 1) (by decide) rfl ?_
          refine g_goto (tgt := 4) C dX1_piecesIn_35 (by decide) ?_
          refine g_sub [2, 3, 0] (lv' := [(0, .ref h), (1, .int (nI q)), (2, .int (nI (i + 1)))]) rfl ?_
          exact ih (i + 1) _ (by rw [hq]; first | exact (cnt_f (by simp [*])).symm | exact (cnt_t (by simp [*])).symm) (by omega) (by omega)
        · skip
          replace c_2 := gz0.mp c_2
          refine g_iinc (v := nI (q + 1)) (lv' := [(1, .int (nI (q + 1))), (3, .ref (pa i)), (0, .ref h), (2, .int (nI i))]) C dX1_piecesIn_29 2 rfl (by exact nI_add _ 1) (by decide) rfl ?_
          refine g_iinc (v := nI (i + 1)) (lv' := [(2, .int (nI (i + 1))), (1, .int (nI (q + 1))), (3, .ref (pa i)), (0, .ref h)]) C dX1_piecesIn_32 3 rfl (by exact nI_add _ 1) (by decide) rfl ?_
          refine g_goto (tgt := 4) C dX1_piecesIn_35 (by decide) ?_
          refine g_sub [3, 1, 0] (lv' := [(0, .ref h), (1, .int (nI (q + 1))), (2, .int (nI (i + 1)))]) rfl ?_
          exact ih (i + 1) _ (by rw [hq]; first | exact (cnt_f (by simp [*])).symm | exact (cnt_t (by simp [*])).symm) (by omega) (by omega)
  refine g_sub [2, 1, 0] (lv' := [(0, .ref h), (1, .int 0), (2, .int 0)]) rfl ?_
  exact lp4 (np + 1) 0 0 rfl (by omega) (by omega)

theorem k_X1_loosePieces_inX1 : ∀ w ∈ wsX10, w ∈ wsX1_loosePieces := by decide +kernel
theorem k_X1_loosePieces_1 : Cond.fieldLink RX1 74 "WetMosaic" "pressed" "I" ∈ wsX1_loosePieces := by decide +kernel
theorem k_X1_loosePieces_2 : Cond.fieldLink RX1 9 "WetMosaic" "wet" "[I" ∈ wsX1_loosePieces := by decide +kernel
set_option maxHeartbeats 4000000 in
set_option maxRecDepth 100000 in
theorem c_X1_loosePieces (l : Launch) (D : va_G) (tys : List (ClassId × FieldType)) (cI : ClassId) (ht0 : tys[0]? = some (cI, .int)) (cP : ClassId) (ht1 : tys[1]? = some (cP, .object RX0)) (W : va_W) (h a1 a2 a3 a4 a5 a6 a7 np hr : Nat) (wet : Nat → Int32) (pcs : Nat → Option Nat) (pa : Nat → Nat) (P : Nat → Pd) (hnp : np ≤ 100) (hp : Pin W np pcs pa P) (hg : Pok np P) (hm : (h, .inr (1, [.ref a1, .ref a2, .ref a3, .ref a4, .int (nI np), .int (nI hr), .ref a5, .ref a6, .ref a7])) ∈ W) (hm4 : (a4, .inl (cP, 100, .inr (.inr (.inr (.inr (pcs)))))) ∈ W) (hm1 : (a1, .inl (cI, 80, .inl (wet))) ∈ W) : gM l yX1_loosePieces wsX1_loosePieces ({ frames := 3, cells := 0, slots := 0, locals := 65 } : Room) D tys [.ref h] W (gIs (some (.int (nI (cnt (fun k => lsp (P k) wet) np)))) W) 0 0 := by
  refine gM_of (by decide) rfl (Nat.le_of_ble_eq_true rfl) ?_
  intro p e s m args below meth c A Q hin C hQ
  refine g_sub [0] (lv' := [(0, .ref h)]) rfl ?_
  refine g_iconst (v := 0) C dX1_loosePieces_0 (by decide) ?_
  refine g_istore_n (lv' := [(1, .int 0), (0, .ref h)]) C dX1_loosePieces_1 rfl (by decide) rfl ?_
  refine g_iconst (v := 0) C dX1_loosePieces_2 (by decide) ?_
  refine g_istore_n (lv' := [(2, .int 0), (1, .int 0), (0, .ref h)]) C dX1_loosePieces_3 rfl (by decide) rfl ?_
  have lp4_1 : ∀ (n9 : Nat) (i q : Nat) (hq : q = cnt (fun k => lsp (P k) wet) i) (hi : i ≤ np) (hn : np + 1 ≤ i + n9), G p l e ({ frames := 3, cells := 0, slots := 0, locals := 65 } : Room) s m args below meth c D A s.heap 4 0 0 Q 4 [(0, .ref h), (1, .int (nI q)), (2, .int (nI i))] [] W := by
    intro n9
    induction n9 with
    | zero =>
      intro i q hq hi hn
      exfalso; omega
    | succ n9 ih =>
      intro i q hq hi hn
      refine g_iload_n C dX1_loosePieces_4 rfl 2 rfl ?_
      refine g_aload_n C dX1_loosePieces_5 rfl 0 rfl ?_
      refine g_get (ci := 1) (Cn := RX1) (T := TX1) (N := 9) C k_X1_loosePieces_inX1 hm rfl 4 (by decide) k_X1_loosePieces_1 rfl rfl dX1_loosePieces_6 ?_
      refine g_icmp_ge (tgt := 42) C dX1_loosePieces_9 (by decide) (fun c_2 => ?_) (fun c_2 => ?_)
      · skip
        rw [nI_leI (by omega) (by omega)] at c_2
        refine g_iload_n C dX1_loosePieces_42 rfl 1 rfl ?_
        refine g_iret C hQ (Nat.le_of_ble_eq_true rfl) (Nat.le_of_ble_eq_true rfl) dX1_loosePieces_43 ?_
        exact ⟨by rw [hq, show i = np by omega], rfl⟩
      · skip
        rw [nI_leI (by omega) (by omega)] at c_2
        refine g_aload_n C dX1_loosePieces_12 rfl 0 rfl ?_
        refine g_iload_n C dX1_loosePieces_13 rfl 2 rfl ?_
        refine g_callV (ci := 1) (Cn := RX1) (As := [.int (nI i)]) (rest := []) C hm rfl rfl (c_X1_find l D tys cP ht1 W h a1 a2 a3 a4 a5 a6 a7 np hr pcs (nI i) hnp hm hm4) (cwV 1 C.ts gX1_loosePieces_X1_find rfl rfl rfl (by decide +kernel) ⟨(Nat.le_of_ble_eq_true rfl), (Nat.le_of_ble_eq_true rfl)⟩) rfl rfl (Nat.le_of_ble_eq_true rfl) dX1_loosePieces_14 (Nat.le_of_ble_eq_true rfl) (Nat.le_of_ble_eq_true rfl) (g_is (x := va_rf (fnd np pcs (nI i))) (W1 := W) ?_)
        rw [show va_rf (fnd np pcs (nI i)) = .ref (pa i) from fnd_nI (by omega) hnp (hp i (by omega)).1]
        refine g_astore_n (lv' := [(3, .ref (pa i)), (0, .ref h), (1, .int (nI q)), (2, .int (nI i))]) C dX1_loosePieces_17 rfl (by decide) rfl ?_
        refine g_aload_n C dX1_loosePieces_18 rfl 0 rfl ?_
        refine g_ifnull C dX1_loosePieces_19 ?_
        refine g_aload_n C dX1_loosePieces_22 rfl 0 rfl ?_
        refine g_aload_n C dX1_loosePieces_23 rfl 1 rfl ?_
        refine g_get (ci := 1) (Cn := RX1) (T := TX1) (N := 9) C k_X1_loosePieces_inX1 hm rfl 0 (by decide) k_X1_loosePieces_2 rfl rfl dX1_loosePieces_24 ?_
        refine g_callS (As := [.ref (pa i), .ref a1]) (rest := []) C (c_X1_isLoose l D tys cI ht0 W (pa i) (qx (P i)) (qy (P i)) (ql (P i)) (qf (P i)) (qb (P i)) (qc (P i)) (qs (P i)) (qo (P i)) a1 wet (hg i (by omega)).2.1 (hg i (by omega)).2.2.2.2 (hp i (by omega)).2 hm1) (va_cwS 2 C.ts gX1_loosePieces_X1_isLoose rfl rfl rfl (by decide +kernel) ⟨(Nat.le_of_ble_eq_true rfl), (Nat.le_of_ble_eq_true rfl)⟩) rfl rfl (Nat.le_of_ble_eq_true rfl) dX1_loosePieces_27 (Nat.le_of_ble_eq_true rfl) (Nat.le_of_ble_eq_true rfl) (g_is (x := .int (gz (lsp (P i) wet))) (W1 := W) ?_)
        refine g_if_eq (tgt := 36) C dX1_loosePieces_30 (by decide) (fun c_3 => ?_) (fun c_3 => ?_)
        · skip
          replace c_3 := gz0.mp c_3
          refine g_iinc (v := nI (i + 1)) (lv' := [(2, .int (nI (i + 1))), (3, .ref (pa i)), (0, .ref h), (1, .int (nI q))]) C dX1_loosePieces_36 3 rfl (by exact nI_add _ 1) (by decide) rfl ?_
          refine g_goto (tgt := 4) C dX1_loosePieces_39 (by decide) ?_
          refine g_sub [2, 3, 0] (lv' := [(0, .ref h), (1, .int (nI q)), (2, .int (nI (i + 1)))]) rfl ?_
          exact ih (i + 1) _ (by rw [hq]; first | exact (cnt_f (by assumption)).symm | exact (cnt_t (by assumption)).symm) (by omega) (by omega)
        · skip
          replace c_3 := gzn.mp c_3
          refine g_iinc (v := nI (q + 1)) (lv' := [(1, .int (nI (q + 1))), (3, .ref (pa i)), (0, .ref h), (2, .int (nI i))]) C dX1_loosePieces_33 2 rfl (by exact nI_add _ 1) (by decide) rfl ?_
          refine g_iinc (v := nI (i + 1)) (lv' := [(2, .int (nI (i + 1))), (1, .int (nI (q + 1))), (3, .ref (pa i)), (0, .ref h)]) C dX1_loosePieces_36 3 rfl (by exact nI_add _ 1) (by decide) rfl ?_
          refine g_goto (tgt := 4) C dX1_loosePieces_39 (by decide) ?_
          refine g_sub [3, 1, 0] (lv' := [(0, .ref h), (1, .int (nI (q + 1))), (2, .int (nI (i + 1)))]) rfl ?_
          exact ih (i + 1) _ (by rw [hq]; first | exact (cnt_f (by assumption)).symm | exact (cnt_t (by assumption)).symm) (by omega) (by omega)
  refine g_sub [2, 1, 0] (lv' := [(0, .ref h), (1, .int 0), (2, .int 0)]) rfl ?_
  exact lp4_1 (np + 1) 0 0 rfl (by omega) (by omega)

theorem k_X1_colourAt_inX1 : ∀ w ∈ wsX10, w ∈ wsX1_colourAt := by decide +kernel
theorem k_X1_colourAt_1 : Cond.fieldLink RX1 13 "WetMosaic" "cover" "[I" ∈ wsX1_colourAt := by decide +kernel
set_option maxHeartbeats 4000000 in
set_option maxRecDepth 100000 in
theorem c_X1_colourAt (l : Launch) (D : va_G) (tys : List (ClassId × FieldType)) (cI : ClassId) (ht0 : tys[0]? = some (cI, .int)) (cP : ClassId) (ht1 : tys[1]? = some (cP, .object RX0)) (W : va_W) (h a1 a2 a3 a4 a5 a6 a7 np hr : Nat) (cover : Nat → Int32) (pcs : Nat → Option Nat) (pa : Nat → Nat) (P : Nat → Pd) (c9 : Nat) (hc : c9 < 80) (hnp : np ≤ 100) (hp : Pin W np pcs pa P) (hm : (h, .inr (1, [.ref a1, .ref a2, .ref a3, .ref a4, .int (nI np), .int (nI hr), .ref a5, .ref a6, .ref a7])) ∈ W) (hm2 : (a2, .inl (cI, 80, .inl (cover))) ∈ W) (hm4 : (a4, .inl (cP, 100, .inr (.inr (.inr (.inr (pcs)))))) ∈ W) : gM l yX1_colourAt wsX1_colourAt ({ frames := 2, cells := 0, slots := 0, locals := 43 } : Room) D tys [.ref h, .int (nI c9)] W (gIs (some (.int (colv np P cover c9))) W) 0 0 := by
  refine gM_of (by decide) rfl (Nat.le_of_ble_eq_true rfl) ?_
  intro p e s m args below meth c A Q hin C hQ
  refine g_sub [0, 1] (lv' := [(0, .ref h), (1, .int (nI c9))]) rfl ?_
  refine g_aload_n C dX1_colourAt_0 rfl 0 rfl ?_
  refine g_aload_n C dX1_colourAt_1 rfl 0 rfl ?_
  refine g_get (ci := 1) (Cn := RX1) (T := TX1) (N := 9) C k_X1_colourAt_inX1 hm rfl 1 (by decide) k_X1_colourAt_1 rfl rfl dX1_colourAt_2 ?_
  refine g_iload_n C dX1_colourAt_5 rfl 1 rfl ?_
  refine g_callS (As := [.ref a2, .int (nI c9)]) (rest := [.ref h]) C (c_X1_at l D tys cI ht0 W a2 80 cover (nI c9) (by decide) (by decide) hm2) (va_cwS 2 C.ts gX1_colourAt_X1_at rfl rfl rfl (by decide +kernel) ⟨(Nat.le_of_ble_eq_true rfl), (Nat.le_of_ble_eq_true rfl)⟩) rfl rfl (Nat.le_of_ble_eq_true rfl) dX1_colourAt_6 (Nat.le_of_ble_eq_true rfl) (Nat.le_of_ble_eq_true rfl) (g_is (x := .int (atv 80 cover (nI c9))) (W1 := W) ?_)
  rw [show (atv 80 cover (nI c9)) = cover c9 from atv_nI (by omega) (by omega)]
  refine g_callV (ci := 1) (Cn := RX1) (As := [.int (cover c9)]) (rest := []) C hm rfl rfl (c_X1_find l D tys cP ht1 W h a1 a2 a3 a4 a5 a6 a7 np hr pcs (cover c9) hnp hm hm4) (cwV 1 C.ts gX1_colourAt_X1_find rfl rfl rfl (by decide +kernel) ⟨(Nat.le_of_ble_eq_true rfl), (Nat.le_of_ble_eq_true rfl)⟩) rfl rfl (Nat.le_of_ble_eq_true rfl) dX1_colourAt_9 (Nat.le_of_ble_eq_true rfl) (Nat.le_of_ble_eq_true rfl) (g_is (x := va_rf (fnd np pcs (cover c9))) (W1 := W) ?_)
  cases hv : inR 0 (nI np - 1) (cover c9) with
  | false =>
    rw [show va_rf (fnd np pcs (cover c9)) = .null from by rw [fnd, if_neg (by simp [hv])]; rfl]
    refine g_astore_nN (lv' := [(2, .null), (0, .ref h), (1, .int (nI c9))]) C dX1_colourAt_12 rfl (by decide) rfl ?_
    refine g_aload_nN C dX1_colourAt_13 rfl 0 rfl ?_
    refine g_ifnonnullN C dX1_colourAt_14 ?_
    refine g_iconst (v := (-1)) C dX1_colourAt_17 (by decide) ?_
    refine g_goto (tgt := 25) C dX1_colourAt_18 (by decide) ?_
    refine g_iret C hQ (Nat.le_of_ble_eq_true rfl) (Nat.le_of_ble_eq_true rfl) dX1_colourAt_25 ?_
    first | exact ⟨by rw [colv, hv, hk2, nI_clamp (by omega)]; rfl, rfl⟩ | exact ⟨by rw [colv, hv]; rfl, rfl⟩
  | true =>
    obtain ⟨k, hk, hk2⟩ := inR_np (by omega) hv
    rw [show va_rf (fnd np pcs (cover c9)) = .ref (pa k) from by rw [hk2]; exact fnd_nI hk hnp (hp k hk).1]
    refine g_astore_n (lv' := [(2, .ref (pa k)), (0, .ref h), (1, .int (nI c9))]) C dX1_colourAt_12 rfl (by decide) rfl ?_
    refine g_aload_n C dX1_colourAt_13 rfl 0 rfl ?_
    refine g_ifnonnull (tgt := 21) C dX1_colourAt_14 (by decide) ?_
    refine g_aload_n C dX1_colourAt_21 rfl 0 rfl ?_
    refine g_callV (ci := 0) (Cn := RX0) (As := []) (rest := []) C (hp k (by omega)).2 rfl rfl (c_X0_shownColour l D tys W (pa k) (qx (P k)) (qy (P k)) (ql (P k)) (qf (P k)) (qb (P k)) (qc (P k)) (qs (P k)) (qo (P k)) (hp k (by omega)).2) (cwV 0 C.ts gX1_colourAt_X0_shownColour rfl rfl rfl (by decide +kernel) ⟨(Nat.le_of_ble_eq_true rfl), (Nat.le_of_ble_eq_true rfl)⟩) rfl rfl (Nat.le_of_ble_eq_true rfl) dX1_colourAt_22 (Nat.le_of_ble_eq_true rfl) (Nat.le_of_ble_eq_true rfl) (g_is (x := .int (shw (P k))) (W1 := W) ?_)
    refine g_iret C hQ (Nat.le_of_ble_eq_true rfl) (Nat.le_of_ble_eq_true rfl) dX1_colourAt_25 ?_
    first | exact ⟨by rw [colv, hv, hk2, nI_clamp (by omega)]; rfl, rfl⟩ | exact ⟨by rw [colv, hv]; rfl, rfl⟩

theorem k_X1_cellFact_inX1 : ∀ w ∈ wsX10, w ∈ wsX1_cellFact := by decide +kernel
theorem k_X1_cellFact_1 : Cond.fieldLink RX1 9 "WetMosaic" "wet" "[I" ∈ wsX1_cellFact := by decide +kernel
theorem k_X1_cellFact_2 : Cond.fieldLink RX1 13 "WetMosaic" "cover" "[I" ∈ wsX1_cellFact := by decide +kernel
set_option maxHeartbeats 4000000 in
set_option maxRecDepth 100000 in
theorem c_X1_cellFact (l : Launch) (D : va_G) (tys : List (ClassId × FieldType)) (cI : ClassId) (ht0 : tys[0]? = some (cI, .int)) (cP : ClassId) (ht1 : tys[1]? = some (cP, .object RX0)) (W : va_W) (h a1 a2 a3 a4 a5 a6 a7 np hr : Nat) (wet cover : Nat → Int32) (pcs : Nat → Option Nat) (pa : Nat → Nat) (P : Nat → Pd) (c9 w : Nat) (hc : c9 < 80) (hw : w ≤ 2) (hnp : np ≤ 100) (hp : Pin W np pcs pa P) (hm : (h, .inr (1, [.ref a1, .ref a2, .ref a3, .ref a4, .int (nI np), .int (nI hr), .ref a5, .ref a6, .ref a7])) ∈ W) (hm1 : (a1, .inl (cI, 80, .inl (wet))) ∈ W) (hm2 : (a2, .inl (cI, 80, .inl (cover))) ∈ W) (hm4 : (a4, .inl (cP, 100, .inr (.inr (.inr (.inr (pcs)))))) ∈ W) : gM l yX1_cellFact wsX1_cellFact ({ frames := 3, cells := 0, slots := 0, locals := 65 } : Room) D tys [.ref h, .int (nI c9), .int (nI w)] W (gIs (some (.int (cfact np P wet cover c9 w))) W) 0 0 := by
  refine gM_of (by decide) rfl (Nat.le_of_ble_eq_true rfl) ?_
  intro p e s m args below meth c A Q hin C hQ
  refine g_sub [0, 1, 2] (lv' := [(0, .ref h), (1, .int (nI c9)), (2, .int (nI w))]) rfl ?_
  rcases (show w = 0 ∨ w = 1 ∨ w = 2 by omega) with rfl | rfl | rfl
  · skip
    refine g_iload_n C dX1_cellFact_0 rfl 2 rfl ?_
    refine g_lookup (off := 27) (tgt := 28) C dX1_cellFact_1 (by decide) (by decide) (by decide) ?_
    refine g_aload_n C dX1_cellFact_28 rfl 0 rfl ?_
    refine g_get (ci := 1) (Cn := RX1) (T := TX1) (N := 9) C k_X1_cellFact_inX1 hm rfl 0 (by decide) k_X1_cellFact_1 rfl rfl dX1_cellFact_29 ?_
    refine g_iload_n C dX1_cellFact_32 rfl 1 rfl ?_
    refine g_callS (As := [.ref a1, .int (nI c9)]) (rest := []) C (c_X1_at l D tys cI ht0 W a1 80 wet (nI c9) (by decide) (by decide) hm1) (va_cwS 2 C.ts gX1_cellFact_X1_at rfl rfl rfl (by decide +kernel) ⟨(Nat.le_of_ble_eq_true rfl), (Nat.le_of_ble_eq_true rfl)⟩) rfl rfl (Nat.le_of_ble_eq_true rfl) dX1_cellFact_33 (Nat.le_of_ble_eq_true rfl) (Nat.le_of_ble_eq_true rfl) (g_is (x := .int (atv 80 wet (nI c9))) (W1 := W) ?_)
    rw [show (atv 80 wet (nI c9)) = wet c9 from atv_nI (by omega) (by omega)]
    refine g_iret C hQ (Nat.le_of_ble_eq_true rfl) (Nat.le_of_ble_eq_true rfl) dX1_cellFact_36 ?_
    exact ⟨by simp [cfact], rfl⟩
  · skip
    refine g_iload_n C dX1_cellFact_0 rfl 2 rfl ?_
    refine g_lookup (off := 36) (tgt := 37) C dX1_cellFact_1 (by decide) (by decide) (by decide) ?_
    refine g_aload_n C dX1_cellFact_37 rfl 0 rfl ?_
    refine g_get (ci := 1) (Cn := RX1) (T := TX1) (N := 9) C k_X1_cellFact_inX1 hm rfl 1 (by decide) k_X1_cellFact_2 rfl rfl dX1_cellFact_38 ?_
    refine g_iload_n C dX1_cellFact_41 rfl 1 rfl ?_
    refine g_callS (As := [.ref a2, .int (nI c9)]) (rest := []) C (c_X1_at l D tys cI ht0 W a2 80 cover (nI c9) (by decide) (by decide) hm2) (va_cwS 2 C.ts gX1_cellFact_X1_at rfl rfl rfl (by decide +kernel) ⟨(Nat.le_of_ble_eq_true rfl), (Nat.le_of_ble_eq_true rfl)⟩) rfl rfl (Nat.le_of_ble_eq_true rfl) dX1_cellFact_42 (Nat.le_of_ble_eq_true rfl) (Nat.le_of_ble_eq_true rfl) (g_is (x := .int (atv 80 cover (nI c9))) (W1 := W) ?_)
    rw [show (atv 80 cover (nI c9)) = cover c9 from atv_nI (by omega) (by omega)]
    refine g_iret C hQ (Nat.le_of_ble_eq_true rfl) (Nat.le_of_ble_eq_true rfl) dX1_cellFact_45 ?_
    exact ⟨by simp [cfact], rfl⟩
  · skip
    refine g_iload_n C dX1_cellFact_0 rfl 2 rfl ?_
    refine g_lookup (off := 45) (tgt := 46) C dX1_cellFact_1 (by decide) (by decide) (by decide) ?_
    refine g_aload_n C dX1_cellFact_46 rfl 0 rfl ?_
    refine g_iload_n C dX1_cellFact_47 rfl 1 rfl ?_
    refine g_callV (ci := 1) (Cn := RX1) (As := [.int (nI c9)]) (rest := []) C hm rfl rfl (c_X1_colourAt l D tys cI ht0 cP ht1 W h a1 a2 a3 a4 a5 a6 a7 np hr  cover pcs pa P c9 (by omega) hnp hp hm hm2 hm4) (cwV 1 C.ts gX1_cellFact_X1_colourAt rfl rfl rfl (by decide +kernel) ⟨(Nat.le_of_ble_eq_true rfl), (Nat.le_of_ble_eq_true rfl)⟩) rfl rfl (Nat.le_of_ble_eq_true rfl) dX1_cellFact_48 (Nat.le_of_ble_eq_true rfl) (Nat.le_of_ble_eq_true rfl) (g_is (x := .int (colv np P cover c9)) (W1 := W) ?_)
    refine g_iret C hQ (Nat.le_of_ble_eq_true rfl) (Nat.le_of_ble_eq_true rfl) dX1_cellFact_51 ?_
    exact ⟨by simp [cfact], rfl⟩

theorem k_X1_pieceFact_inX0 : ∀ w ∈ wsX00, w ∈ wsX1_pieceFact := by decide +kernel
theorem k_X1_pieceFact_1 : Cond.fieldLink RX1 121 "WetMosaic$Piece" "x" "I" ∈ wsX1_pieceFact := by decide +kernel
theorem k_X1_pieceFact_2 : Cond.fieldLink RX1 124 "WetMosaic$Piece" "y" "I" ∈ wsX1_pieceFact := by decide +kernel
theorem k_X1_pieceFact_3 : Cond.fieldLink RX1 110 "WetMosaic$Piece" "length" "I" ∈ wsX1_pieceFact := by decide +kernel
theorem k_X1_pieceFact_4 : Cond.fieldLink RX1 127 "WetMosaic$Piece" "across" "Z" ∈ wsX1_pieceFact := by decide +kernel
theorem k_X1_pieceFact_inX1 : ∀ w ∈ wsX10, w ∈ wsX1_pieceFact := by decide +kernel
theorem k_X1_pieceFact_6 : Cond.fieldLink RX1 9 "WetMosaic" "wet" "[I" ∈ wsX1_pieceFact := by decide +kernel
theorem k_X1_pieceFact_7 : Cond.fieldLink RX1 132 "WetMosaic$Piece" "out" "Z" ∈ wsX1_pieceFact := by decide +kernel
set_option maxHeartbeats 4000000 in
set_option maxRecDepth 100000 in
theorem c_X1_pieceFact (l : Launch) (D : va_G) (tys : List (ClassId × FieldType)) (cI : ClassId) (ht0 : tys[0]? = some (cI, .int)) (W : va_W) (h a1 a2 a3 a4 a5 a6 a7 np hr : Nat) (wet : Nat → Int32) (o : Nat) (p9 : Pd) (w : Nat) (hw : w ≤ 7) (hg : Pg p9) (hm : (h, .inr (1, [.ref a1, .ref a2, .ref a3, .ref a4, .int (nI np), .int (nI hr), .ref a5, .ref a6, .ref a7])) ∈ W) (hm1 : (a1, .inl (cI, 80, .inl (wet))) ∈ W) (hm5 : (o, .inr (0, [.int (nI (qx p9)), .int (nI (qy p9)), .int (nI (ql p9)), .int (qf p9), .int (qb p9), .int (gz (qc p9)), .int (gz (qs p9)), .int (gz (qo p9))])) ∈ W) : gM l yX1_pieceFact wsX1_pieceFact ({ frames := 3, cells := 0, slots := 0, locals := 65 } : Room) D tys [.ref h, .ref o, .int (nI w)] W (gIs (some (.int (pfact p9 wet w))) W) 0 0 := by
  refine gM_of (by decide) rfl (Nat.le_of_ble_eq_true rfl) ?_
  intro p e s m args below meth c A Q hin C hQ
  refine g_sub [0, 1, 2] (lv' := [(0, .ref h), (1, .ref o), (2, .int (nI w))]) rfl ?_
  rcases (show w = 0 ∨ w = 1 ∨ w = 2 ∨ w = 3 ∨ w = 4 ∨ w = 5 ∨ w = 6 ∨ w = 7 by omega) with rfl | rfl | rfl | rfl | rfl | rfl | rfl | rfl
  · skip
    refine g_iload_n C dX1_pieceFact_0 rfl 2 rfl ?_
    refine g_tableIn (off := 43) (tgt := 44) C dX1_pieceFact_1 (by decide) (by decide) (by decide) (by decide) ?_
    refine g_aload_n C dX1_pieceFact_44 rfl 1 rfl ?_
    refine g_get (ci := 0) (Cn := RX0) (T := TX0) (N := 8) C k_X1_pieceFact_inX0 hm5 rfl 0 (by decide) k_X1_pieceFact_1 rfl rfl dX1_pieceFact_45 ?_
    refine g_iret C hQ (Nat.le_of_ble_eq_true rfl) (Nat.le_of_ble_eq_true rfl) dX1_pieceFact_48 ?_
    first | exact ⟨rfl, rfl⟩ | exact ⟨gz_e0 (by assumption), rfl⟩ | exact ⟨gz_e1 (by assumption), rfl⟩
  · skip
    refine g_iload_n C dX1_pieceFact_0 rfl 2 rfl ?_
    refine g_tableIn (off := 48) (tgt := 49) C dX1_pieceFact_1 (by decide) (by decide) (by decide) (by decide) ?_
    refine g_aload_n C dX1_pieceFact_49 rfl 1 rfl ?_
    refine g_get (ci := 0) (Cn := RX0) (T := TX0) (N := 8) C k_X1_pieceFact_inX0 hm5 rfl 1 (by decide) k_X1_pieceFact_2 rfl rfl dX1_pieceFact_50 ?_
    refine g_iret C hQ (Nat.le_of_ble_eq_true rfl) (Nat.le_of_ble_eq_true rfl) dX1_pieceFact_53 ?_
    first | exact ⟨rfl, rfl⟩ | exact ⟨gz_e0 (by assumption), rfl⟩ | exact ⟨gz_e1 (by assumption), rfl⟩
  · skip
    refine g_iload_n C dX1_pieceFact_0 rfl 2 rfl ?_
    refine g_tableIn (off := 53) (tgt := 54) C dX1_pieceFact_1 (by decide) (by decide) (by decide) (by decide) ?_
    refine g_aload_n C dX1_pieceFact_54 rfl 1 rfl ?_
    refine g_get (ci := 0) (Cn := RX0) (T := TX0) (N := 8) C k_X1_pieceFact_inX0 hm5 rfl 2 (by decide) k_X1_pieceFact_3 rfl rfl dX1_pieceFact_55 ?_
    refine g_iret C hQ (Nat.le_of_ble_eq_true rfl) (Nat.le_of_ble_eq_true rfl) dX1_pieceFact_58 ?_
    first | exact ⟨rfl, rfl⟩ | exact ⟨gz_e0 (by assumption), rfl⟩ | exact ⟨gz_e1 (by assumption), rfl⟩
  · skip
    refine g_iload_n C dX1_pieceFact_0 rfl 2 rfl ?_
    refine g_tableIn (off := 58) (tgt := 59) C dX1_pieceFact_1 (by decide) (by decide) (by decide) (by decide) ?_
    refine g_aload_n C dX1_pieceFact_59 rfl 1 rfl ?_
    refine g_get (ci := 0) (Cn := RX0) (T := TX0) (N := 8) C k_X1_pieceFact_inX0 hm5 rfl 5 (by decide) k_X1_pieceFact_4 rfl rfl dX1_pieceFact_60 ?_
    refine g_if_eq (tgt := 70) C dX1_pieceFact_63 (by decide) (fun c_1 => ?_) (fun c_1 => ?_)
    · skip
      replace c_1 := gz0.mp c_1
      refine g_iconst (v := 0) C dX1_pieceFact_70 (by decide) ?_
      refine g_iret C hQ (Nat.le_of_ble_eq_true rfl) (Nat.le_of_ble_eq_true rfl) dX1_pieceFact_71 ?_
      first | exact ⟨rfl, rfl⟩ | exact ⟨gz_e0 (by assumption), rfl⟩ | exact ⟨gz_e1 (by assumption), rfl⟩
    · skip
      replace c_1 := gzn.mp c_1
      refine g_iconst (v := 1) C dX1_pieceFact_66 (by decide) ?_
      refine g_goto (tgt := 71) C dX1_pieceFact_67 (by decide) ?_
      refine g_iret C hQ (Nat.le_of_ble_eq_true rfl) (Nat.le_of_ble_eq_true rfl) dX1_pieceFact_71 ?_
      first | exact ⟨rfl, rfl⟩ | exact ⟨gz_e0 (by assumption), rfl⟩ | exact ⟨gz_e1 (by assumption), rfl⟩
  · skip
    refine g_iload_n C dX1_pieceFact_0 rfl 2 rfl ?_
    refine g_tableIn (off := 71) (tgt := 72) C dX1_pieceFact_1 (by decide) (by decide) (by decide) (by decide) ?_
    refine g_aload_n C dX1_pieceFact_72 rfl 1 rfl ?_
    refine g_callV (ci := 0) (Cn := RX0) (As := []) (rest := []) C hm5 rfl rfl (c_X0_shownColour l D tys W o (qx p9) (qy p9) (ql p9) (qf p9) (qb p9) (qc p9) (qs p9) (qo p9) hm5) (cwV 0 C.ts gX1_pieceFact_X0_shownColour rfl rfl rfl (by decide +kernel) ⟨(Nat.le_of_ble_eq_true rfl), (Nat.le_of_ble_eq_true rfl)⟩) rfl rfl (Nat.le_of_ble_eq_true rfl) dX1_pieceFact_73 (Nat.le_of_ble_eq_true rfl) (Nat.le_of_ble_eq_true rfl) (g_is (x := .int (shw p9)) (W1 := W) ?_)
    refine g_iret C hQ (Nat.le_of_ble_eq_true rfl) (Nat.le_of_ble_eq_true rfl) dX1_pieceFact_76 ?_
    first | exact ⟨rfl, rfl⟩ | exact ⟨gz_e0 (by assumption), rfl⟩ | exact ⟨gz_e1 (by assumption), rfl⟩
  · skip
    refine g_iload_n C dX1_pieceFact_0 rfl 2 rfl ?_
    refine g_tableIn (off := 76) (tgt := 77) C dX1_pieceFact_1 (by decide) (by decide) (by decide) (by decide) ?_
    refine g_aload_n C dX1_pieceFact_77 rfl 1 rfl ?_
    refine g_callV (ci := 0) (Cn := RX0) (As := []) (rest := []) C hm5 rfl rfl (c_X0_otherColour l D tys W o (qx p9) (qy p9) (ql p9) (qf p9) (qb p9) (qc p9) (qs p9) (qo p9) hm5) (cwV 0 C.ts gX1_pieceFact_X0_otherColour rfl rfl rfl (by decide +kernel) ⟨(Nat.le_of_ble_eq_true rfl), (Nat.le_of_ble_eq_true rfl)⟩) rfl rfl (Nat.le_of_ble_eq_true rfl) dX1_pieceFact_78 (Nat.le_of_ble_eq_true rfl) (Nat.le_of_ble_eq_true rfl) (g_is (x := .int (oth p9)) (W1 := W) ?_)
    refine g_iret C hQ (Nat.le_of_ble_eq_true rfl) (Nat.le_of_ble_eq_true rfl) dX1_pieceFact_81 ?_
    first | exact ⟨rfl, rfl⟩ | exact ⟨gz_e0 (by assumption), rfl⟩ | exact ⟨gz_e1 (by assumption), rfl⟩
  · skip
    refine g_iload_n C dX1_pieceFact_0 rfl 2 rfl ?_
    refine g_tableIn (off := 81) (tgt := 82) C dX1_pieceFact_1 (by decide) (by decide) (by decide) (by decide) ?_
    refine g_aload_n C dX1_pieceFact_82 rfl 1 rfl ?_
    refine g_aload_n C dX1_pieceFact_83 rfl 0 rfl ?_
    refine g_get (ci := 1) (Cn := RX1) (T := TX1) (N := 9) C k_X1_pieceFact_inX1 hm rfl 0 (by decide) k_X1_pieceFact_6 rfl rfl dX1_pieceFact_84 ?_
    refine g_callS (As := [.ref o, .ref a1]) (rest := []) C (c_X1_isLoose l D tys cI ht0 W o (qx p9) (qy p9) (ql p9) (qf p9) (qb p9) (qc p9) (qs p9) (qo p9) a1 wet hg.2.1 hg.2.2.2.2 hm5 hm1) (va_cwS 2 C.ts gX1_pieceFact_X1_isLoose rfl rfl rfl (by decide +kernel) ⟨(Nat.le_of_ble_eq_true rfl), (Nat.le_of_ble_eq_true rfl)⟩) rfl rfl (Nat.le_of_ble_eq_true rfl) dX1_pieceFact_87 (Nat.le_of_ble_eq_true rfl) (Nat.le_of_ble_eq_true rfl) (g_is (x := .int (gz (lsp p9 wet))) (W1 := W) ?_)
    refine g_if_eq (tgt := 97) C dX1_pieceFact_90 (by decide) (fun c_2 => ?_) (fun c_2 => ?_)
    · skip
      replace c_2 := gz0.mp c_2
      refine g_iconst (v := 0) C dX1_pieceFact_97 (by decide) ?_
      refine g_iret C hQ (Nat.le_of_ble_eq_true rfl) (Nat.le_of_ble_eq_true rfl) dX1_pieceFact_98 ?_
      first | exact ⟨rfl, rfl⟩ | exact ⟨gz_e0 (by assumption), rfl⟩ | exact ⟨gz_e1 (by assumption), rfl⟩
    · skip
      replace c_2 := gzn.mp c_2
      refine g_iconst (v := 1) C dX1_pieceFact_93 (by decide) ?_
      refine g_goto (tgt := 98) C dX1_pieceFact_94 (by decide) ?_
      refine g_iret C hQ (Nat.le_of_ble_eq_true rfl) (Nat.le_of_ble_eq_true rfl) dX1_pieceFact_98 ?_
      first | exact ⟨rfl, rfl⟩ | exact ⟨gz_e0 (by assumption), rfl⟩ | exact ⟨gz_e1 (by assumption), rfl⟩
  · skip
    refine g_iload_n C dX1_pieceFact_0 rfl 2 rfl ?_
    refine g_tableOut (tgt := 99) C dX1_pieceFact_1 (by decide) (by decide) ?_
    refine g_aload_n C dX1_pieceFact_99 rfl 1 rfl ?_
    refine g_get (ci := 0) (Cn := RX0) (T := TX0) (N := 8) C k_X1_pieceFact_inX0 hm5 rfl 7 (by decide) k_X1_pieceFact_7 rfl rfl dX1_pieceFact_100 ?_
    refine g_if_eq (tgt := 110) C dX1_pieceFact_103 (by decide) (fun c_3 => ?_) (fun c_3 => ?_)
    · skip
      replace c_3 := gz0.mp c_3
      refine g_iconst (v := 0) C dX1_pieceFact_110 (by decide) ?_
      refine g_iret C hQ (Nat.le_of_ble_eq_true rfl) (Nat.le_of_ble_eq_true rfl) dX1_pieceFact_111 ?_
      first | exact ⟨rfl, rfl⟩ | exact ⟨gz_e0 (by assumption), rfl⟩ | exact ⟨gz_e1 (by assumption), rfl⟩
    · skip
      replace c_3 := gzn.mp c_3
      refine g_iconst (v := 1) C dX1_pieceFact_106 (by decide) ?_
      refine g_goto (tgt := 111) C dX1_pieceFact_107 (by decide) ?_
      refine g_iret C hQ (Nat.le_of_ble_eq_true rfl) (Nat.le_of_ble_eq_true rfl) dX1_pieceFact_111 ?_
      first | exact ⟨rfl, rfl⟩ | exact ⟨gz_e0 (by assumption), rfl⟩ | exact ⟨gz_e1 (by assumption), rfl⟩

set_option maxHeartbeats 4000000 in
set_option maxRecDepth 100000 in
theorem c_X1_fits (l : Launch) (D : va_G) (tys : List (ClassId × FieldType)) (cI : ClassId) (ht0 : tys[0]? = some (cI, .int)) (cP : ClassId) (ht1 : tys[1]? = some (cP, .object RX0)) (W : va_W) (h a1 a2 a3 a4 a5 a6 a7 np hr : Nat) (cover : Nat → Int32) (pcs : Nat → Option Nat) (pa : Nat → Nat) (P : Nat → Pd) (x y k9 : Nat) (a b : Int32) (hx : x ≤ 9) (hy : y ≤ 7) (hk : k9 ≤ 3) (hnp : np ≤ 100) (hp : Pin W np pcs pa P) (hm : (h, .inr (1, [.ref a1, .ref a2, .ref a3, .ref a4, .int (nI np), .int (nI hr), .ref a5, .ref a6, .ref a7])) ∈ W) (hm2 : (a2, .inl (cI, 80, .inl (cover))) ∈ W) (hm4 : (a4, .inl (cP, 100, .inr (.inr (.inr (.inr (pcs)))))) ∈ W) : gM l yX1_fits wsX1_fits ({ frames := 3, cells := 0, slots := 0, locals := 65 } : Room) D tys [.ref h, .int (nI x), .int (nI y), .int (nI k9), .int a, .int b] W (gIs (some (.int (gz (fitB np P cover x y k9 a b)))) W) 0 0 := by
  refine gM_of (by decide) rfl (Nat.le_of_ble_eq_true rfl) ?_
  intro p e s m args below meth c A Q hin C hQ
  refine g_sub [0, 1, 2, 3, 4, 5] (lv' := [(0, .ref h), (1, .int (nI x)), (2, .int (nI y)), (3, .int (nI k9)), (4, .int a), (5, .int b)]) rfl ?_
  rcases (show k9 = 0 ∨ k9 = 1 ∨ k9 = 2 ∨ k9 = 3 by omega) with rfl | rfl | rfl | rfl
  · skip
    refine g_aload_n C dX1_fits_0 rfl 0 rfl ?_
    refine g_iload_n C dX1_fits_1 rfl 1 rfl ?_
    refine g_iload_n C dX1_fits_2 rfl 2 rfl ?_
    refine g_callS (As := [.int (nI x), .int (nI y)]) (rest := [.ref h]) C (c_X1_cellOf l D tys W (nI x) (nI y)) (va_cwS 2 C.ts gX1_fits_X1_cellOf rfl rfl rfl (by decide +kernel) ⟨(Nat.le_of_ble_eq_true rfl), (Nat.le_of_ble_eq_true rfl)⟩) rfl rfl (Nat.le_of_ble_eq_true rfl) dX1_fits_3 (Nat.le_of_ble_eq_true rfl) (Nat.le_of_ble_eq_true rfl) (g_is (x := .int (10 * (nI y) + (nI x))) (W1 := W) ?_)
    rw [show (10 * (nI y) + (nI x)) = nI (10 * y + x) from cel_nI _ _]
    refine g_callV (ci := 1) (Cn := RX1) (As := [.int (nI (10 * y + x))]) (rest := []) C hm rfl rfl (c_X1_colourAt l D tys cI ht0 cP ht1 W h a1 a2 a3 a4 a5 a6 a7 np hr  cover pcs pa P (10 * y + x) (by omega) hnp hp hm hm2 hm4) (cwV 1 C.ts gX1_fits_X1_colourAt rfl rfl rfl (by decide +kernel) ⟨(Nat.le_of_ble_eq_true rfl), (Nat.le_of_ble_eq_true rfl)⟩) rfl rfl (Nat.le_of_ble_eq_true rfl) dX1_fits_6 (Nat.le_of_ble_eq_true rfl) (Nat.le_of_ble_eq_true rfl) (g_is (x := .int (colv np P cover (10 * y + x))) (W1 := W) ?_)
    refine g_istore (lv' := [(6, .int (colv np P cover (10 * y + x))), (0, .ref h), (1, .int (nI x)), (2, .int (nI y)), (3, .int (nI 0)), (4, .int a), (5, .int b)]) C dX1_fits_9 (by decide) rfl ?_
    refine g_iload_n C dX1_fits_11 rfl 4 rfl ?_
    refine g_tableIn (off := 28) (tgt := 40) C dX1_fits_12 (by decide) (by decide) (by decide) (by decide) ?_
    refine g_iload C dX1_fits_40 0 rfl ?_
    refine g_iload C dX1_fits_42 5 rfl ?_
    refine g_icmp_ne (tgt := 51) C dX1_fits_44 (by decide) (fun c_1 => ?_) (fun c_1 => ?_)
    · skip
      refine g_iconst (v := 0) C dX1_fits_51 (by decide) ?_
      refine g_zret C (by first | exact Or.inl rfl | exact Or.inr rfl | exact gz01 _) hQ (Nat.le_of_ble_eq_true rfl) (Nat.le_of_ble_eq_true rfl) dX1_fits_52 ?_
      first | exact ⟨gz_e0 (by simp [fitB, *]), rfl⟩ | exact ⟨gz_e1 (by simp [fitB, *]), rfl⟩
    · skip
      refine g_iconst (v := 1) C dX1_fits_47 (by decide) ?_
      refine g_goto (tgt := 52) C dX1_fits_48 (by decide) ?_
      refine g_zret C (by first | exact Or.inl rfl | exact Or.inr rfl | exact gz01 _) hQ (Nat.le_of_ble_eq_true rfl) (Nat.le_of_ble_eq_true rfl) dX1_fits_52 ?_
      first | exact ⟨gz_e0 (by simp [fitB, *]), rfl⟩ | exact ⟨gz_e1 (by simp [fitB, *]), rfl⟩
  · skip
    refine g_aload_n C dX1_fits_0 rfl 0 rfl ?_
    refine g_iload_n C dX1_fits_1 rfl 1 rfl ?_
    refine g_iload_n C dX1_fits_2 rfl 2 rfl ?_
    refine g_callS (As := [.int (nI x), .int (nI y)]) (rest := [.ref h]) C (c_X1_cellOf l D tys W (nI x) (nI y)) (va_cwS 2 C.ts gX1_fits_X1_cellOf rfl rfl rfl (by decide +kernel) ⟨(Nat.le_of_ble_eq_true rfl), (Nat.le_of_ble_eq_true rfl)⟩) rfl rfl (Nat.le_of_ble_eq_true rfl) dX1_fits_3 (Nat.le_of_ble_eq_true rfl) (Nat.le_of_ble_eq_true rfl) (g_is (x := .int (10 * (nI y) + (nI x))) (W1 := W) ?_)
    rw [show (10 * (nI y) + (nI x)) = nI (10 * y + x) from cel_nI _ _]
    refine g_callV (ci := 1) (Cn := RX1) (As := [.int (nI (10 * y + x))]) (rest := []) C hm rfl rfl (c_X1_colourAt l D tys cI ht0 cP ht1 W h a1 a2 a3 a4 a5 a6 a7 np hr  cover pcs pa P (10 * y + x) (by omega) hnp hp hm hm2 hm4) (cwV 1 C.ts gX1_fits_X1_colourAt rfl rfl rfl (by decide +kernel) ⟨(Nat.le_of_ble_eq_true rfl), (Nat.le_of_ble_eq_true rfl)⟩) rfl rfl (Nat.le_of_ble_eq_true rfl) dX1_fits_6 (Nat.le_of_ble_eq_true rfl) (Nat.le_of_ble_eq_true rfl) (g_is (x := .int (colv np P cover (10 * y + x))) (W1 := W) ?_)
    refine g_istore (lv' := [(6, .int (colv np P cover (10 * y + x))), (0, .ref h), (1, .int (nI x)), (2, .int (nI y)), (3, .int (nI 1)), (4, .int a), (5, .int b)]) C dX1_fits_9 (by decide) rfl ?_
    refine g_iload_n C dX1_fits_11 rfl 4 rfl ?_
    refine g_tableIn (off := 41) (tgt := 53) C dX1_fits_12 (by decide) (by decide) (by decide) (by decide) ?_
    refine g_iload C dX1_fits_53 0 rfl ?_
    refine g_iload_n C dX1_fits_55 rfl 3 rfl ?_
    refine g_iconst (v := 2) C dX1_fits_56 (by decide) ?_
    refine g_irem C dX1_fits_57 (by decide) ?_
    rw [show ((nI y) - (nI y) / 2 * 2) = nI (y % 2) from remI y 2 (by omega) (by omega) (by omega) rfl]
    refine g_if_ne (tgt := 66) C dX1_fits_58 (by decide) (fun c_2 => ?_) (fun c_2 => ?_)
    · skip
      rw [show (0 : Int32) = nI 0 from rfl, nI_eq (by omega) (by omega)] at c_2
      refine g_iload C dX1_fits_66 6 rfl ?_
      refine g_icmp_ne (tgt := 75) C dX1_fits_68 (by decide) (fun c_3 => ?_) (fun c_3 => ?_)
      · skip
        refine g_iconst (v := 0) C dX1_fits_75 (by decide) ?_
        refine g_zret C (by first | exact Or.inl rfl | exact Or.inr rfl | exact gz01 _) hQ (Nat.le_of_ble_eq_true rfl) (Nat.le_of_ble_eq_true rfl) dX1_fits_76 ?_
        first | exact ⟨gz_e0 (by simp [fitB, *]), rfl⟩ | exact ⟨gz_e1 (by simp [fitB, *]), rfl⟩
      · skip
        refine g_iconst (v := 1) C dX1_fits_71 (by decide) ?_
        refine g_goto (tgt := 76) C dX1_fits_72 (by decide) ?_
        refine g_zret C (by first | exact Or.inl rfl | exact Or.inr rfl | exact gz01 _) hQ (Nat.le_of_ble_eq_true rfl) (Nat.le_of_ble_eq_true rfl) dX1_fits_76 ?_
        first | exact ⟨gz_e0 (by simp [fitB, *]), rfl⟩ | exact ⟨gz_e1 (by simp [fitB, *]), rfl⟩
    · skip
      rw [show (0 : Int32) = nI 0 from rfl, nI_eq (by omega) (by omega)] at c_2
      refine g_iload C dX1_fits_61 5 rfl ?_
      refine g_goto (tgt := 68) C dX1_fits_63 (by decide) ?_
      refine g_icmp_ne (tgt := 75) C dX1_fits_68 (by decide) (fun c_4 => ?_) (fun c_4 => ?_)
      · skip
        refine g_iconst (v := 0) C dX1_fits_75 (by decide) ?_
        refine g_zret C (by first | exact Or.inl rfl | exact Or.inr rfl | exact gz01 _) hQ (Nat.le_of_ble_eq_true rfl) (Nat.le_of_ble_eq_true rfl) dX1_fits_76 ?_
        first | exact ⟨gz_e0 (by simp [fitB, *]), rfl⟩ | exact ⟨gz_e1 (by simp [fitB, *]), rfl⟩
      · skip
        refine g_iconst (v := 1) C dX1_fits_71 (by decide) ?_
        refine g_goto (tgt := 76) C dX1_fits_72 (by decide) ?_
        refine g_zret C (by first | exact Or.inl rfl | exact Or.inr rfl | exact gz01 _) hQ (Nat.le_of_ble_eq_true rfl) (Nat.le_of_ble_eq_true rfl) dX1_fits_76 ?_
        first | exact ⟨gz_e0 (by simp [fitB, *]), rfl⟩ | exact ⟨gz_e1 (by simp [fitB, *]), rfl⟩
  · skip
    refine g_aload_n C dX1_fits_0 rfl 0 rfl ?_
    refine g_iload_n C dX1_fits_1 rfl 1 rfl ?_
    refine g_iload_n C dX1_fits_2 rfl 2 rfl ?_
    refine g_callS (As := [.int (nI x), .int (nI y)]) (rest := [.ref h]) C (c_X1_cellOf l D tys W (nI x) (nI y)) (va_cwS 2 C.ts gX1_fits_X1_cellOf rfl rfl rfl (by decide +kernel) ⟨(Nat.le_of_ble_eq_true rfl), (Nat.le_of_ble_eq_true rfl)⟩) rfl rfl (Nat.le_of_ble_eq_true rfl) dX1_fits_3 (Nat.le_of_ble_eq_true rfl) (Nat.le_of_ble_eq_true rfl) (g_is (x := .int (10 * (nI y) + (nI x))) (W1 := W) ?_)
    rw [show (10 * (nI y) + (nI x)) = nI (10 * y + x) from cel_nI _ _]
    refine g_callV (ci := 1) (Cn := RX1) (As := [.int (nI (10 * y + x))]) (rest := []) C hm rfl rfl (c_X1_colourAt l D tys cI ht0 cP ht1 W h a1 a2 a3 a4 a5 a6 a7 np hr  cover pcs pa P (10 * y + x) (by omega) hnp hp hm hm2 hm4) (cwV 1 C.ts gX1_fits_X1_colourAt rfl rfl rfl (by decide +kernel) ⟨(Nat.le_of_ble_eq_true rfl), (Nat.le_of_ble_eq_true rfl)⟩) rfl rfl (Nat.le_of_ble_eq_true rfl) dX1_fits_6 (Nat.le_of_ble_eq_true rfl) (Nat.le_of_ble_eq_true rfl) (g_is (x := .int (colv np P cover (10 * y + x))) (W1 := W) ?_)
    refine g_istore (lv' := [(6, .int (colv np P cover (10 * y + x))), (0, .ref h), (1, .int (nI x)), (2, .int (nI y)), (3, .int (nI 2)), (4, .int a), (5, .int b)]) C dX1_fits_9 (by decide) rfl ?_
    refine g_iload_n C dX1_fits_11 rfl 4 rfl ?_
    refine g_tableIn (off := 65) (tgt := 77) C dX1_fits_12 (by decide) (by decide) (by decide) (by decide) ?_
    refine g_iload C dX1_fits_77 0 rfl ?_
    refine g_iload_n C dX1_fits_79 rfl 2 rfl ?_
    refine g_iload_n C dX1_fits_80 rfl 3 rfl ?_
    refine g_iadd C dX1_fits_81 ?_
    rw [show ((nI x) + (nI y)) = nI (x + y) from nI_add _ _]
    refine g_iconst (v := 2) C dX1_fits_82 (by decide) ?_
    refine g_irem C dX1_fits_83 (by decide) ?_
    rw [show ((nI (x + y)) - (nI (x + y)) / 2 * 2) = nI ((x + y) % 2) from remI (x + y) 2 (by omega) (by omega) (by omega) rfl]
    refine g_if_ne (tgt := 92) C dX1_fits_84 (by decide) (fun c_5 => ?_) (fun c_5 => ?_)
    · skip
      rw [show (0 : Int32) = nI 0 from rfl, nI_eq (by omega) (by omega)] at c_5
      refine g_iload C dX1_fits_92 6 rfl ?_
      refine g_icmp_ne (tgt := 101) C dX1_fits_94 (by decide) (fun c_6 => ?_) (fun c_6 => ?_)
      · skip
        refine g_iconst (v := 0) C dX1_fits_101 (by decide) ?_
        refine g_zret C (by first | exact Or.inl rfl | exact Or.inr rfl | exact gz01 _) hQ (Nat.le_of_ble_eq_true rfl) (Nat.le_of_ble_eq_true rfl) dX1_fits_102 ?_
        first | exact ⟨gz_e0 (by simp [fitB, *]), rfl⟩ | exact ⟨gz_e1 (by simp [fitB, *]), rfl⟩
      · skip
        refine g_iconst (v := 1) C dX1_fits_97 (by decide) ?_
        refine g_goto (tgt := 102) C dX1_fits_98 (by decide) ?_
        refine g_zret C (by first | exact Or.inl rfl | exact Or.inr rfl | exact gz01 _) hQ (Nat.le_of_ble_eq_true rfl) (Nat.le_of_ble_eq_true rfl) dX1_fits_102 ?_
        first | exact ⟨gz_e0 (by simp [fitB, *]), rfl⟩ | exact ⟨gz_e1 (by simp [fitB, *]), rfl⟩
    · skip
      rw [show (0 : Int32) = nI 0 from rfl, nI_eq (by omega) (by omega)] at c_5
      refine g_iload C dX1_fits_87 5 rfl ?_
      refine g_goto (tgt := 94) C dX1_fits_89 (by decide) ?_
      refine g_icmp_ne (tgt := 101) C dX1_fits_94 (by decide) (fun c_7 => ?_) (fun c_7 => ?_)
      · skip
        refine g_iconst (v := 0) C dX1_fits_101 (by decide) ?_
        refine g_zret C (by first | exact Or.inl rfl | exact Or.inr rfl | exact gz01 _) hQ (Nat.le_of_ble_eq_true rfl) (Nat.le_of_ble_eq_true rfl) dX1_fits_102 ?_
        first | exact ⟨gz_e0 (by simp [fitB, *]), rfl⟩ | exact ⟨gz_e1 (by simp [fitB, *]), rfl⟩
      · skip
        refine g_iconst (v := 1) C dX1_fits_97 (by decide) ?_
        refine g_goto (tgt := 102) C dX1_fits_98 (by decide) ?_
        refine g_zret C (by first | exact Or.inl rfl | exact Or.inr rfl | exact gz01 _) hQ (Nat.le_of_ble_eq_true rfl) (Nat.le_of_ble_eq_true rfl) dX1_fits_102 ?_
        first | exact ⟨gz_e0 (by simp [fitB, *]), rfl⟩ | exact ⟨gz_e1 (by simp [fitB, *]), rfl⟩
  · skip
    refine g_aload_n C dX1_fits_0 rfl 0 rfl ?_
    refine g_iload_n C dX1_fits_1 rfl 1 rfl ?_
    refine g_iload_n C dX1_fits_2 rfl 2 rfl ?_
    refine g_callS (As := [.int (nI x), .int (nI y)]) (rest := [.ref h]) C (c_X1_cellOf l D tys W (nI x) (nI y)) (va_cwS 2 C.ts gX1_fits_X1_cellOf rfl rfl rfl (by decide +kernel) ⟨(Nat.le_of_ble_eq_true rfl), (Nat.le_of_ble_eq_true rfl)⟩) rfl rfl (Nat.le_of_ble_eq_true rfl) dX1_fits_3 (Nat.le_of_ble_eq_true rfl) (Nat.le_of_ble_eq_true rfl) (g_is (x := .int (10 * (nI y) + (nI x))) (W1 := W) ?_)
    rw [show (10 * (nI y) + (nI x)) = nI (10 * y + x) from cel_nI _ _]
    refine g_callV (ci := 1) (Cn := RX1) (As := [.int (nI (10 * y + x))]) (rest := []) C hm rfl rfl (c_X1_colourAt l D tys cI ht0 cP ht1 W h a1 a2 a3 a4 a5 a6 a7 np hr  cover pcs pa P (10 * y + x) (by omega) hnp hp hm hm2 hm4) (cwV 1 C.ts gX1_fits_X1_colourAt rfl rfl rfl (by decide +kernel) ⟨(Nat.le_of_ble_eq_true rfl), (Nat.le_of_ble_eq_true rfl)⟩) rfl rfl (Nat.le_of_ble_eq_true rfl) dX1_fits_6 (Nat.le_of_ble_eq_true rfl) (Nat.le_of_ble_eq_true rfl) (g_is (x := .int (colv np P cover (10 * y + x))) (W1 := W) ?_)
    refine g_istore (lv' := [(6, .int (colv np P cover (10 * y + x))), (0, .ref h), (1, .int (nI x)), (2, .int (nI y)), (3, .int (nI 3)), (4, .int a), (5, .int b)]) C dX1_fits_9 (by decide) rfl ?_
    refine g_iload_n C dX1_fits_11 rfl 4 rfl ?_
    refine g_tableOut (tgt := 103) C dX1_fits_12 (by decide) (by decide) ?_
    refine g_iload C dX1_fits_103 0 rfl ?_
    refine g_aload_n C dX1_fits_105 rfl 1 rfl ?_
    refine g_bipush (v := 9) C dX1_fits_106 (by decide) ?_
    refine g_iload_n C dX1_fits_108 rfl 2 rfl ?_
    refine g_isub C dX1_fits_109 ?_
    rw [show (9 - (nI x)) = nI (9 - x) from sub9 hx]
    refine g_iload_n C dX1_fits_110 rfl 3 rfl ?_
    refine g_callS (As := [.int (nI (9 - x)), .int (nI y)]) (rest := [.ref h, .int (colv np P cover (10 * y + x))]) C (c_X1_cellOf l D tys W (nI (9 - x)) (nI y)) (va_cwS 2 C.ts gX1_fits_X1_cellOf rfl rfl rfl (by decide +kernel) ⟨(Nat.le_of_ble_eq_true rfl), (Nat.le_of_ble_eq_true rfl)⟩) rfl rfl (Nat.le_of_ble_eq_true rfl) dX1_fits_111 (Nat.le_of_ble_eq_true rfl) (Nat.le_of_ble_eq_true rfl) (g_is (x := .int (10 * (nI y) + (nI (9 - x)))) (W1 := W) ?_)
    rw [show (10 * (nI y) + (nI (9 - x))) = nI (10 * y + (9 - x)) from cel_nI _ _]
    refine g_callV (ci := 1) (Cn := RX1) (As := [.int (nI (10 * y + (9 - x)))]) (rest := [.int (colv np P cover (10 * y + x))]) C hm rfl rfl (c_X1_colourAt l D tys cI ht0 cP ht1 W h a1 a2 a3 a4 a5 a6 a7 np hr  cover pcs pa P ((10 * y + (9 - x))) (by omega) hnp hp hm hm2 hm4) (cwV 1 C.ts gX1_fits_X1_colourAt rfl rfl rfl (by decide +kernel) ⟨(Nat.le_of_ble_eq_true rfl), (Nat.le_of_ble_eq_true rfl)⟩) rfl rfl (Nat.le_of_ble_eq_true rfl) dX1_fits_114 (Nat.le_of_ble_eq_true rfl) (Nat.le_of_ble_eq_true rfl) (g_is (x := .int (colv np P cover ((10 * y + (9 - x))))) (W1 := W) ?_)
    refine g_icmp_ne (tgt := 124) C dX1_fits_117 (by decide) (fun c_8 => ?_) (fun c_8 => ?_)
    · skip
      refine g_iconst (v := 0) C dX1_fits_124 (by decide) ?_
      refine g_zret C (by first | exact Or.inl rfl | exact Or.inr rfl | exact gz01 _) hQ (Nat.le_of_ble_eq_true rfl) (Nat.le_of_ble_eq_true rfl) dX1_fits_125 ?_
      first | exact ⟨gz_e0 (by simp [fitB, *]), rfl⟩ | exact ⟨gz_e1 (by simp [fitB, *]), rfl⟩
    · skip
      refine g_iconst (v := 1) C dX1_fits_120 (by decide) ?_
      refine g_goto (tgt := 125) C dX1_fits_121 (by decide) ?_
      refine g_zret C (by first | exact Or.inl rfl | exact Or.inr rfl | exact gz01 _) hQ (Nat.le_of_ble_eq_true rfl) (Nat.le_of_ble_eq_true rfl) dX1_fits_125 ?_
      first | exact ⟨gz_e0 (by simp [fitB, *]), rfl⟩ | exact ⟨gz_e1 (by simp [fitB, *]), rfl⟩

set_option maxHeartbeats 4000000 in
set_option maxRecDepth 100000 in
theorem c_X1_cellsOff (l : Launch) (D : va_G) (tys : List (ClassId × FieldType)) (cI : ClassId) (ht0 : tys[0]? = some (cI, .int)) (cP : ClassId) (ht1 : tys[1]? = some (cP, .object RX0)) (W : va_W) (h a1 a2 a3 a4 a5 a6 a7 np hr : Nat) (cover : Nat → Int32) (pcs : Nat → Option Nat) (pa : Nat → Nat) (P : Nat → Pd) (k9 : Nat) (a b : Int32) (hk : k9 ≤ 3) (hnp : np ≤ 100) (hp : Pin W np pcs pa P) (hm : (h, .inr (1, [.ref a1, .ref a2, .ref a3, .ref a4, .int (nI np), .int (nI hr), .ref a5, .ref a6, .ref a7])) ∈ W) (hm2 : (a2, .inl (cI, 80, .inl (cover))) ∈ W) (hm4 : (a4, .inl (cP, 100, .inr (.inr (.inr (.inr (pcs)))))) ∈ W) : gM l yX1_cellsOff wsX1_cellsOff ({ frames := 4, cells := 0, slots := 0, locals := 91 } : Room) D tys [.ref h, .int (nI k9), .int a, .int b] W (gIs (some (.int (nI (cnt (offB np P cover k9 a b) 80)))) W) 0 0 := by
  refine gM_of (by decide) rfl (Nat.le_of_ble_eq_true rfl) ?_
  intro p e s m args below meth c A Q hin C hQ
  refine g_sub [0, 1, 2, 3] (lv' := [(0, .ref h), (1, .int (nI k9)), (2, .int a), (3, .int b)]) rfl ?_
  refine g_iconst (v := 0) C dX1_cellsOff_0 (by decide) ?_
  refine g_istore (lv' := [(4, .int 0), (0, .ref h), (1, .int (nI k9)), (2, .int a), (3, .int b)]) C dX1_cellsOff_1 (by decide) rfl ?_
  refine g_iconst (v := 0) C dX1_cellsOff_3 (by decide) ?_
  refine g_istore (lv' := [(5, .int 0), (4, .int 0), (0, .ref h), (1, .int (nI k9)), (2, .int a), (3, .int b)]) C dX1_cellsOff_4 (by decide) rfl ?_
  have lp6 : ∀ (n9 : Nat) (y q : Nat) (hq : q = cnt (offB np P cover k9 a b) (10 * y)) (hi : y ≤ 8) (hn : 9 ≤ y + n9), G p l e ({ frames := 4, cells := 0, slots := 0, locals := 91 } : Room) s m args below meth c D A s.heap 7 0 0 Q 6 [(0, .ref h), (1, .int (nI k9)), (2, .int a), (3, .int b), (4, .int (nI q)), (5, .int (nI y))] [] W := by
    intro n9
    induction n9 with
    | zero =>
      intro y q hq hi hn
      exfalso; omega
    | succ n9 ih =>
      intro y q hq hi hn
      refine g_iload C dX1_cellsOff_6 5 rfl ?_
      refine g_bipush (v := 8) C dX1_cellsOff_8 (by decide) ?_
      refine g_icmp_ge (tgt := 52) C dX1_cellsOff_10 (by decide) (fun c_1 => ?_) (fun c_1 => ?_)
      · skip
        rw [show (8 : Int32) = nI 8 from rfl, nI_leI (by omega) (by omega)] at c_1
        refine g_iload C dX1_cellsOff_52 4 rfl ?_
        refine g_iret C hQ (Nat.le_of_ble_eq_true rfl) (Nat.le_of_ble_eq_true rfl) dX1_cellsOff_54 ?_
        exact ⟨by rw [hq, show y = 8 by omega], rfl⟩
      · skip
        rw [show (8 : Int32) = nI 8 from rfl, nI_leI (by omega) (by omega)] at c_1
        refine g_iconst (v := 0) C dX1_cellsOff_13 (by decide) ?_
        refine g_istore (lv' := [(6, .int 0), (0, .ref h), (1, .int (nI k9)), (2, .int a), (3, .int b), (4, .int (nI q)), (5, .int (nI y))]) C dX1_cellsOff_14 (by decide) rfl ?_
        have lp16 : ∀ (n9 : Nat) (x q : Nat) (hq2 : q = cnt (offB np P cover k9 a b) (10 * y + x)) (hi2 : x ≤ 10) (hn2 : 11 ≤ x + n9), G p l e ({ frames := 4, cells := 0, slots := 0, locals := 91 } : Room) s m args below meth c D A s.heap 7 0 0 Q 16 [(0, .ref h), (1, .int (nI k9)), (2, .int a), (3, .int b), (4, .int (nI q)), (5, .int (nI y)), (6, .int (nI x))] [] W := by
          intro n9
          induction n9 with
          | zero =>
            intro x q hq2 hi2 hn2
            exfalso; omega
          | succ n9 ih2 =>
            intro x q hq2 hi2 hn2
            refine g_iload C dX1_cellsOff_16 6 rfl ?_
            refine g_bipush (v := 10) C dX1_cellsOff_18 (by decide) ?_
            refine g_icmp_ge (tgt := 46) C dX1_cellsOff_20 (by decide) (fun c_2 => ?_) (fun c_2 => ?_)
            · skip
              rw [show (10 : Int32) = nI 10 from rfl, nI_leI (by omega) (by omega)] at c_2
              refine g_iinc (v := nI (y + 1)) (lv' := [(5, .int (nI (y + 1))), (0, .ref h), (1, .int (nI k9)), (2, .int a), (3, .int b), (4, .int (nI q)), (6, .int (nI x))]) C dX1_cellsOff_46 5 rfl (by exact nI_add _ 1) (by decide) rfl ?_
              refine g_goto (tgt := 6) C dX1_cellsOff_49 (by decide) ?_
              refine g_sub [1, 2, 3, 4, 5, 0] (lv' := [(0, .ref h), (1, .int (nI k9)), (2, .int a), (3, .int b), (4, .int (nI q)), (5, .int (nI (y + 1)))]) rfl ?_
              exact ih (y + 1) _ (by rw [hq2, show x = 10 by omega]; rfl) (by omega) (by omega)
            · skip
              rw [show (10 : Int32) = nI 10 from rfl, nI_leI (by omega) (by omega)] at c_2
              refine g_aload_n C dX1_cellsOff_23 rfl 0 rfl ?_
              refine g_iload C dX1_cellsOff_24 6 rfl ?_
              refine g_iload C dX1_cellsOff_26 5 rfl ?_
              refine g_iload_n C dX1_cellsOff_28 rfl 1 rfl ?_
              refine g_iload_n C dX1_cellsOff_29 rfl 2 rfl ?_
              refine g_iload_n C dX1_cellsOff_30 rfl 3 rfl ?_
              refine g_callV (ci := 1) (Cn := RX1) (As := [.int (nI x), .int (nI y), .int (nI k9), .int a, .int b]) (rest := []) C hm rfl rfl (c_X1_fits l D tys cI ht0 cP ht1 W h a1 a2 a3 a4 a5 a6 a7 np hr cover pcs pa P x y k9 a b (by omega) (by omega) (by omega) hnp hp hm hm2 hm4) (cwV 5 C.ts gX1_cellsOff_X1_fits rfl rfl rfl (by decide +kernel) ⟨(Nat.le_of_ble_eq_true rfl), (Nat.le_of_ble_eq_true rfl)⟩) rfl rfl (Nat.le_of_ble_eq_true rfl) dX1_cellsOff_31 (Nat.le_of_ble_eq_true rfl) (Nat.le_of_ble_eq_true rfl) (g_is (x := .int (gz (fitB np P cover x y k9 a b))) (W1 := W) ?_)
              refine g_if_ne (tgt := 40) C dX1_cellsOff_34 (by decide) (fun c_3 => ?_) (fun c_3 => ?_)
              · skip
                replace c_3 := gzn.mp c_3
                refine g_iinc (v := nI (x + 1)) (lv' := [(6, .int (nI (x + 1))), (0, .ref h), (1, .int (nI k9)), (2, .int a), (3, .int b), (4, .int (nI q)), (5, .int (nI y))]) C dX1_cellsOff_40 6 rfl (by exact nI_add _ 1) (by decide) rfl ?_
                refine g_goto (tgt := 16) C dX1_cellsOff_43 (by decide) ?_
                refine g_sub [1, 2, 3, 4, 5, 6, 0] (lv' := [(0, .ref h), (1, .int (nI k9)), (2, .int a), (3, .int b), (4, .int (nI q)), (5, .int (nI y)), (6, .int (nI (x + 1)))]) rfl ?_
                exact ih2 (x + 1) _ (by rw [hq2]; first | exact (cnt_f (by simp [offB, show (10 * y + x) % 10 = x by omega, show (10 * y + x) / 10 = y by omega, *])).symm | exact (cnt_t (by simp [offB, show (10 * y + x) % 10 = x by omega, show (10 * y + x) / 10 = y by omega, *])).symm) (by omega) (by omega)
              · skip
                replace c_3 := gz0.mp c_3
                refine g_iinc (v := nI (q + 1)) (lv' := [(4, .int (nI (q + 1))), (0, .ref h), (1, .int (nI k9)), (2, .int a), (3, .int b), (5, .int (nI y)), (6, .int (nI x))]) C dX1_cellsOff_37 4 rfl (by exact nI_add _ 1) (by decide) rfl ?_
                refine g_iinc (v := nI (x + 1)) (lv' := [(6, .int (nI (x + 1))), (4, .int (nI (q + 1))), (0, .ref h), (1, .int (nI k9)), (2, .int a), (3, .int b), (5, .int (nI y))]) C dX1_cellsOff_40 6 rfl (by exact nI_add _ 1) (by decide) rfl ?_
                refine g_goto (tgt := 16) C dX1_cellsOff_43 (by decide) ?_
                refine g_sub [2, 3, 4, 5, 1, 6, 0] (lv' := [(0, .ref h), (1, .int (nI k9)), (2, .int a), (3, .int b), (4, .int (nI (q + 1))), (5, .int (nI y)), (6, .int (nI (x + 1)))]) rfl ?_
                exact ih2 (x + 1) _ (by rw [hq2]; first | exact (cnt_f (by simp [offB, show (10 * y + x) % 10 = x by omega, show (10 * y + x) / 10 = y by omega, *])).symm | exact (cnt_t (by simp [offB, show (10 * y + x) % 10 = x by omega, show (10 * y + x) / 10 = y by omega, *])).symm) (by omega) (by omega)
        refine g_sub [1, 2, 3, 4, 5, 6, 0] (lv' := [(0, .ref h), (1, .int (nI k9)), (2, .int a), (3, .int b), (4, .int (nI q)), (5, .int (nI y)), (6, .int 0)]) rfl ?_
        exact lp16 11 0 q (by rw [hq]; rfl) (by omega) (by omega)
  refine g_sub [2, 3, 4, 5, 1, 0] (lv' := [(0, .ref h), (1, .int (nI k9)), (2, .int a), (3, .int b), (4, .int 0), (5, .int 0)]) rfl ?_
  exact lp6 9 0 0 rfl (by omega) (by omega)
end
