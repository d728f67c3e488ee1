theorem dX1_dry_24 : decode cX1_dry 24 = .ok (.aload_n 0, 1) := by decide +kernel
theorem dX1_dry_25 : decode cX1_dry 25 = .ok (.getfield 25, 3) := by decide +kernel
theorem dX1_dry_28 : decode cX1_dry 28 = .ok (.iconst 1, 1) := by decide +kernel
theorem dX1_dry_29 : decode cX1_dry 29 = .ok (.invokestatic 197, 3) := by decide +kernel
theorem dX1_dry_32 : decode cX1_dry 32 = .ok (.ifCond .ne 5, 3) := by decide +kernel
theorem dX1_dry_35 : decode cX1_dry 35 = .ok (.iload_n 1, 1) := by decide +kernel
theorem dX1_dry_36 : decode cX1_dry 36 = .ok (.ireturn, 1) := by decide +kernel
theorem dX1_dry_37 : decode cX1_dry 37 = .ok (.aload_n 0, 1) := by decide +kernel
theorem dX1_dry_38 : decode cX1_dry 38 = .ok (.aload_n 0, 1) := by decide +kernel
theorem dX1_dry_39 : decode cX1_dry 39 = .ok (.getfield 25, 3) := by decide +kernel
theorem dX1_dry_42 : decode cX1_dry 42 = .ok (.aload_n 0, 1) := by decide +kernel
theorem dX1_dry_43 : decode cX1_dry 43 = .ok (.getfield 181, 3) := by decide +kernel
theorem dX1_dry_46 : decode cX1_dry 46 = .ok (.iload_n 1, 1) := by decide +kernel
theorem dX1_dry_47 : decode cX1_dry 47 = .ok (.iadd, 1) := by decide +kernel
theorem dX1_dry_48 : decode cX1_dry 48 = .ok (.invokevirtual 184, 3) := by decide +kernel
theorem dX1_dry_51 : decode cX1_dry 51 = .ok (.iinc 1 1, 3) := by decide +kernel
theorem dX1_dry_54 : decode cX1_dry 54 = .ok (.goto (-37), 3) := by decide +kernel
theorem dX1_dry_57 : decode cX1_dry 57 = .ok (.iconst (-1), 1) := by decide +kernel
theorem dX1_dry_58 : decode cX1_dry 58 = .ok (.ireturn, 1) := by decide +kernel
set_option maxRecDepth 20000 in
theorem ggX1_share_X1_cellsFrom : GoodIn wsX1_share wsX1_cellsFrom := goodIn_r _ [6] (by decide +kernel) (by decide +kernel)
set_option maxRecDepth 20000 in
theorem gX1_share_X1_cellsFrom : GoodIn wsX1_share (va_wsS RX1 197 yX1_cellsFrom wsX1_cellsFrom) := goodIn_app (goodIn_of _ (by decide +kernel)) ggX1_share_X1_cellsFrom
theorem dX1_share_0 : decode cX1_share 0 = .ok (.aload_n 0, 1) := by decide +kernel
theorem dX1_share_1 : decode cX1_share 1 = .ok (.getfield 13, 3) := by decide +kernel
theorem dX1_share_4 : decode cX1_share 4 = .ok (.iconst 0, 1) := by decide +kernel
theorem dX1_share_5 : decode cX1_share 5 = .ok (.invokestatic 197, 3) := by decide +kernel
theorem dX1_share_8 : decode cX1_share 8 = .ok (.i2d, 1) := by decide +kernel
theorem dX1_share_9 : decode cX1_share 9 = .ok (.ldc2_w 200, 3) := by decide +kernel
theorem dX1_share_12 : decode cX1_share 12 = .ok (.ddiv, 1) := by decide +kernel
theorem dX1_share_13 : decode cX1_share 13 = .ok (.dreturn, 1) := by decide +kernel
set_option maxRecDepth 20000 in
theorem ggX1_digest_X1_countFact : GoodIn wsX1_digest wsX1_countFact := goodIn_r _ [9, 10, 3, 11, 12, 13, 14, 15, 8, 16, 17, 18, 19, 20, 21, 22, 23, 24, 25, 26, 27, 28, 29, 30, 31, 32, 33, 34, 35, 36, 37, 38, 39, 40, 41, 42, 43, 44, 45, 46, 47, 48, 49, 50, 51, 52, 53, 54, 55, 56, 57, 58, 59, 60, 61, 62, 63, 64, 65, 66, 67, 68, 69, 70, 71, 72, 73, 74, 101, 102, 103, 104, 105, 106, 107, 108, 109, 110, 111, 112, 113, 114, 115, 116, 117] (by decide +kernel) (by decide +kernel)
set_option maxRecDepth 20000 in
theorem gX1_digest_X1_countFact : GoodIn wsX1_digest (wsV RX1 154 RX1 yX1_countFact wsX1_countFact) := goodIn_app (goodIn_of _ (by decide +kernel)) ggX1_digest_X1_countFact
set_option maxRecDepth 20000 in
theorem ggX1_digest_X1_cellFact : GoodIn wsX1_digest wsX1_cellFact := goodIn_r _ [78, 11, 12, 44, 45, 8, 46, 23, 24, 25, 79, 80, 81, 82, 18, 19, 20, 21, 3, 22, 83, 84, 85, 37, 86, 87, 88, 89, 101, 102, 103, 104, 105, 106, 107, 108, 109, 110, 111, 112, 113, 114, 115, 116, 117] (by decide +kernel) (by decide +kernel)
set_option maxRecDepth 20000 in
theorem gX1_digest_X1_cellFact : GoodIn wsX1_digest (wsV RX1 143 RX1 yX1_cellFact wsX1_cellFact) := goodIn_app (goodIn_of _ (by decide +kernel)) ggX1_digest_X1_cellFact
set_option maxRecDepth 20000 in
theorem ggX1_digest_X1_find : GoodIn wsX1_digest wsX1_find := goodIn_r _ [21, 3, 22, 23, 24, 8, 25, 101, 102, 103, 104, 105, 106, 107, 108, 109] (by decide +kernel) (by decide +kernel)
set_option maxRecDepth 20000 in
theorem gX1_digest_X1_find : GoodIn wsX1_digest (wsV RX1 94 RX1 yX1_find wsX1_find) := goodIn_app (goodIn_of _ (by decide +kernel)) ggX1_digest_X1_find
set_option maxRecDepth 20000 in
theorem ggX1_digest_X1_pieceFact : GoodIn wsX1_digest wsX1_pieceFact := goodIn_r _ [93, 94, 95, 33, 96, 11, 17, 83, 84, 85, 37, 86, 87, 88, 89, 97, 98, 99, 100, 30, 31, 8, 32, 34, 35, 36, 38, 39, 40, 41, 42, 43, 44, 45, 46, 23, 24, 25, 110, 111, 112, 113, 114, 115, 116, 117, 101, 102, 103, 104, 105, 106, 107, 108, 109] (by decide +kernel) (by decide +kernel)
set_option maxRecDepth 20000 in
theorem gX1_digest_X1_pieceFact : GoodIn wsX1_digest (wsV RX1 148 RX1 yX1_pieceFact wsX1_pieceFact) := goodIn_app (goodIn_of _ (by decide +kernel)) ggX1_digest_X1_pieceFact
theorem dX1_digest_0 : decode cX1_digest 0 = .ok (.ldc2_w 202, 3) := by decide +kernel
theorem dX1_digest_3 : decode cX1_digest 3 = .ok (.lstore_n 1, 1) := by decide +kernel
theorem dX1_digest_4 : decode cX1_digest 4 = .ok (.iconst 0, 1) := by decide +kernel
theorem dX1_digest_5 : decode cX1_digest 5 = .ok (.istore_n 3, 1) := by decide +kernel
theorem dX1_digest_6 : decode cX1_digest 6 = .ok (.iload_n 3, 1) := by decide +kernel
theorem dX1_digest_7 : decode cX1_digest 7 = .ok (.bipush 8, 2) := by decide +kernel
theorem dX1_digest_9 : decode cX1_digest 9 = .ok (.if_icmp .ge 22, 3) := by decide +kernel
theorem dX1_digest_12 : decode cX1_digest 12 = .ok (.lload_n 1, 1) := by decide +kernel
theorem dX1_digest_13 : decode cX1_digest 13 = .ok (.ldc2_w 204, 3) := by decide +kernel
theorem dX1_digest_16 : decode cX1_digest 16 = .ok (.lmul, 1) := by decide +kernel
theorem dX1_digest_17 : decode cX1_digest 17 = .ok (.aload_n 0, 1) := by decide +kernel
theorem dX1_digest_18 : decode cX1_digest 18 = .ok (.iload_n 3, 1) := by decide +kernel
theorem dX1_digest_19 : decode cX1_digest 19 = .ok (.invokevirtual 154, 3) := by decide +kernel
theorem dX1_digest_22 : decode cX1_digest 22 = .ok (.i2l, 1) := by decide +kernel
theorem dX1_digest_23 : decode cX1_digest 23 = .ok (.ladd, 1) := by decide +kernel
theorem dX1_digest_24 : decode cX1_digest 24 = .ok (.lstore_n 1, 1) := by decide +kernel
theorem dX1_digest_25 : decode cX1_digest 25 = .ok (.iinc 3 1, 3) := by decide +kernel
theorem dX1_digest_28 : decode cX1_digest 28 = .ok (.goto (-22), 3) := by decide +kernel
theorem dX1_digest_31 : decode cX1_digest 31 = .ok (.iconst 0, 1) := by decide +kernel
theorem dX1_digest_32 : decode cX1_digest 32 = .ok (.istore_n 3, 1) := by decide +kernel
theorem dX1_digest_33 : decode cX1_digest 33 = .ok (.iload_n 3, 1) := by decide +kernel
theorem dX1_digest_34 : decode cX1_digest 34 = .ok (.bipush 80, 2) := by decide +kernel
theorem dX1_digest_36 : decode cX1_digest 36 = .ok (.if_icmp .ge 39, 3) := by decide +kernel
theorem dX1_digest_39 : decode cX1_digest 39 = .ok (.iconst 0, 1) := by decide +kernel
theorem dX1_digest_40 : decode cX1_digest 40 = .ok (.istore 4, 2) := by decide +kernel
theorem dX1_digest_42 : decode cX1_digest 42 = .ok (.iload 4, 2) := by decide +kernel
theorem dX1_digest_44 : decode cX1_digest 44 = .ok (.iconst 3, 1) := by decide +kernel
theorem dX1_digest_45 : decode cX1_digest 45 = .ok (.if_icmp .ge 24, 3) := by decide +kernel
theorem dX1_digest_48 : decode cX1_digest 48 = .ok (.lload_n 1, 1) := by decide +kernel
theorem dX1_digest_49 : decode cX1_digest 49 = .ok (.ldc2_w 204, 3) := by decide +kernel
theorem dX1_digest_52 : decode cX1_digest 52 = .ok (.lmul, 1) := by decide +kernel
theorem dX1_digest_53 : decode cX1_digest 53 = .ok (.aload_n 0, 1) := by decide +kernel
theorem dX1_digest_54 : decode cX1_digest 54 = .ok (.iload_n 3, 1) := by decide +kernel
theorem dX1_digest_55 : decode cX1_digest 55 = .ok (.iload 4, 2) := by decide +kernel
theorem dX1_digest_57 : decode cX1_digest 57 = .ok (.invokevirtual 143, 3) := by decide +kernel
theorem dX1_digest_60 : decode cX1_digest 60 = .ok (.i2l, 1) := by decide +kernel
theorem dX1_digest_61 : decode cX1_digest 61 = .ok (.ladd, 1) := by decide +kernel
theorem dX1_digest_62 : decode cX1_digest 62 = .ok (.lstore_n 1, 1) := by decide +kernel
theorem dX1_digest_63 : decode cX1_digest 63 = .ok (.iinc 4 1, 3) := by decide +kernel
theorem dX1_digest_66 : decode cX1_digest 66 = .ok (.goto (-24), 3) := by decide +kernel
theorem dX1_digest_69 : decode cX1_digest 69 = .ok (.iinc 3 1, 3) := by decide +kernel
theorem dX1_digest_72 : decode cX1_digest 72 = .ok (.goto (-39), 3) := by decide +kernel
theorem dX1_digest_75 : decode cX1_digest 75 = .ok (.iconst 0, 1) := by decide +kernel
theorem dX1_digest_76 : decode cX1_digest 76 = .ok (.istore_n 3, 1) := by decide +kernel
theorem dX1_digest_77 : decode cX1_digest 77 = .ok (.iload_n 3, 1) := by decide +kernel
theorem dX1_digest_78 : decode cX1_digest 78 = .ok (.aload_n 0, 1) := by decide +kernel
theorem dX1_digest_79 : decode cX1_digest 79 = .ok (.getfield 74, 3) := by decide +kernel
theorem dX1_digest_82 : decode cX1_digest 82 = .ok (.if_icmp .ge 53, 3) := by decide +kernel
theorem dX1_digest_85 : decode cX1_digest 85 = .ok (.aload_n 0, 1) := by decide +kernel
theorem dX1_digest_86 : decode cX1_digest 86 = .ok (.iload_n 3, 1) := by decide +kernel
theorem dX1_digest_87 : decode cX1_digest 87 = .ok (.invokevirtual 94, 3) := by decide +kernel
theorem dX1_digest_90 : decode cX1_digest 90 = .ok (.astore 4, 2) := by decide +kernel
theorem dX1_digest_92 : decode cX1_digest 92 = .ok (.iconst 0, 1) := by decide +kernel
theorem dX1_digest_93 : decode cX1_digest 93 = .ok (.istore 5, 2) := by decide +kernel
theorem dX1_digest_95 : decode cX1_digest 95 = .ok (.aload 4, 2) := by decide +kernel
theorem dX1_digest_97 : decode cX1_digest 97 = .ok (.ifnull 32, 3) := by decide +kernel
theorem dX1_digest_100 : decode cX1_digest 100 = .ok (.iload 5, 2) := by decide +kernel
theorem dX1_digest_102 : decode cX1_digest 102 = .ok (.bipush 8, 2) := by decide +kernel
theorem dX1_digest_104 : decode cX1_digest 104 = .ok (.if_icmp .ge 25, 3) := by decide +kernel
theorem dX1_digest_107 : decode cX1_digest 107 = .ok (.lload_n 1, 1) := by decide +kernel
theorem dX1_digest_108 : decode cX1_digest 108 = .ok (.ldc2_w 204, 3) := by decide +kernel
theorem dX1_digest_111 : decode cX1_digest 111 = .ok (.lmul, 1) := by decide +kernel
theorem dX1_digest_112 : decode cX1_digest 112 = .ok (.aload_n 0, 1) := by decide +kernel
theorem dX1_digest_113 : decode cX1_digest 113 = .ok (.aload 4, 2) := by decide +kernel
theorem dX1_digest_115 : decode cX1_digest 115 = .ok (.iload 5, 2) := by decide +kernel
theorem dX1_digest_117 : decode cX1_digest 117 = .ok (.invokevirtual 148, 3) := by decide +kernel
theorem dX1_digest_120 : decode cX1_digest 120 = .ok (.i2l, 1) := by decide +kernel
theorem dX1_digest_121 : decode cX1_digest 121 = .ok (.ladd, 1) := by decide +kernel
theorem dX1_digest_122 : decode cX1_digest 122 = .ok (.lstore_n 1, 1) := by decide +kernel
theorem dX1_digest_123 : decode cX1_digest 123 = .ok (.iinc 5 1, 3) := by decide +kernel
theorem dX1_digest_126 : decode cX1_digest 126 = .ok (.goto (-31), 3) := by decide +kernel
theorem dX1_digest_129 : decode cX1_digest 129 = .ok (.iinc 3 1, 3) := by decide +kernel
theorem dX1_digest_132 : decode cX1_digest 132 = .ok (.goto (-55), 3) := by decide +kernel
theorem dX1_digest_135 : decode cX1_digest 135 = .ok (.iconst 0, 1) := by decide +kernel
theorem dX1_digest_136 : decode cX1_digest 136 = .ok (.istore_n 3, 1) := by decide +kernel
theorem dX1_digest_137 : decode cX1_digest 137 = .ok (.iload_n 3, 1) := by decide +kernel
theorem dX1_digest_138 : decode cX1_digest 138 = .ok (.bipush 8, 2) := by decide +kernel
theorem dX1_digest_140 : decode cX1_digest 140 = .ok (.if_icmp .ge 23, 3) := by decide +kernel
theorem dX1_digest_143 : decode cX1_digest 143 = .ok (.lload_n 1, 1) := by decide +kernel
theorem dX1_digest_144 : decode cX1_digest 144 = .ok (.ldc2_w 204, 3) := by decide +kernel
theorem dX1_digest_147 : decode cX1_digest 147 = .ok (.lmul, 1) := by decide +kernel
theorem dX1_digest_148 : decode cX1_digest 148 = .ok (.aload_n 0, 1) := by decide +kernel
theorem dX1_digest_149 : decode cX1_digest 149 = .ok (.getfield 16, 3) := by decide +kernel
theorem dX1_digest_152 : decode cX1_digest 152 = .ok (.iload_n 3, 1) := by decide +kernel
theorem dX1_digest_153 : decode cX1_digest 153 = .ok (.iaload, 1) := by decide +kernel
theorem dX1_digest_154 : decode cX1_digest 154 = .ok (.i2l, 1) := by decide +kernel
theorem dX1_digest_155 : decode cX1_digest 155 = .ok (.ladd, 1) := by decide +kernel
theorem dX1_digest_156 : decode cX1_digest 156 = .ok (.lstore_n 1, 1) := by decide +kernel
theorem dX1_digest_157 : decode cX1_digest 157 = .ok (.iinc 3 1, 3) := by decide +kernel
theorem dX1_digest_160 : decode cX1_digest 160 = .ok (.goto (-23), 3) := by decide +kernel
theorem dX1_digest_163 : decode cX1_digest 163 = .ok (.lload_n 1, 1) := by decide +kernel
theorem dX1_digest_164 : decode cX1_digest 164 = .ok (.lreturn, 1) := by decide +kernel
theorem dX1_within_0 : decode cX1_within 0 = .ok (.iload_n 0, 1) := by decide +kernel
theorem dX1_within_1 : decode cX1_within 1 = .ok (.iload_n 1, 1) := by decide +kernel
theorem dX1_within_2 : decode cX1_within 2 = .ok (.if_icmp .lt 12, 3) := by decide +kernel
theorem dX1_within_5 : decode cX1_within 5 = .ok (.iload_n 0, 1) := by decide +kernel
theorem dX1_within_6 : decode cX1_within 6 = .ok (.iload_n 2, 1) := by decide +kernel
theorem dX1_within_7 : decode cX1_within 7 = .ok (.if_icmp .gt 7, 3) := by decide +kernel
theorem dX1_within_10 : decode cX1_within 10 = .ok (.iconst 1, 1) := by decide +kernel
theorem dX1_within_11 : decode cX1_within 11 = .ok (.goto 4, 3) := by decide +kernel
theorem dX1_within_14 : decode cX1_within 14 = .ok (.iconst 0, 1) := by decide +kernel
theorem dX1_within_15 : decode cX1_within 15 = .ok (.ireturn, 1) := by decide +kernel
set_option maxRecDepth 20000 in
theorem ggX1_isOnWall_X1_within : GoodIn wsX1_isOnWall wsX1_within := goodIn_r _ [4] (by decide +kernel) (by decide +kernel)
set_option maxRecDepth 20000 in
theorem gX1_isOnWall_X1_within : GoodIn wsX1_isOnWall (va_wsS RX1 38 yX1_within wsX1_within) := goodIn_app (goodIn_of _ (by decide +kernel)) ggX1_isOnWall_X1_within
theorem dX1_isOnWall_0 : decode cX1_isOnWall 0 = .ok (.iload_n 0, 1) := by decide +kernel
theorem dX1_isOnWall_1 : decode cX1_isOnWall 1 = .ok (.iconst 0, 1) := by decide +kernel
theorem dX1_isOnWall_2 : decode cX1_isOnWall 2 = .ok (.bipush 9, 2) := by decide +kernel
theorem dX1_isOnWall_4 : decode cX1_isOnWall 4 = .ok (.invokestatic 38, 3) := by decide +kernel
theorem dX1_isOnWall_7 : decode cX1_isOnWall 7 = .ok (.ifCond .eq 17, 3) := by decide +kernel
theorem dX1_isOnWall_10 : decode cX1_isOnWall 10 = .ok (.iload_n 1, 1) := by decide +kernel
theorem dX1_isOnWall_11 : decode cX1_isOnWall 11 = .ok (.iconst 0, 1) := by decide +kernel
theorem dX1_isOnWall_12 : decode cX1_isOnWall 12 = .ok (.bipush 7, 2) := by decide +kernel
theorem dX1_isOnWall_14 : decode cX1_isOnWall 14 = .ok (.invokestatic 38, 3) := by decide +kernel
theorem dX1_isOnWall_17 : decode cX1_isOnWall 17 = .ok (.ifCond .eq 7, 3) := by decide +kernel
theorem dX1_isOnWall_20 : decode cX1_isOnWall 20 = .ok (.iconst 1, 1) := by decide +kernel
theorem dX1_isOnWall_21 : decode cX1_isOnWall 21 = .ok (.goto 4, 3) := by decide +kernel
theorem dX1_isOnWall_24 : decode cX1_isOnWall 24 = .ok (.iconst 0, 1) := by decide +kernel
theorem dX1_isOnWall_25 : decode cX1_isOnWall 25 = .ok (.ireturn, 1) := by decide +kernel
set_option maxRecDepth 20000 in
theorem ggX1_isColour_X1_within : GoodIn wsX1_isColour wsX1_within := goodIn_r _ [4] (by decide +kernel) (by decide +kernel)
set_option maxRecDepth 20000 in
theorem gX1_isColour_X1_within : GoodIn wsX1_isColour (va_wsS RX1 38 yX1_within wsX1_within) := goodIn_app (goodIn_of _ (by decide +kernel)) ggX1_isColour_X1_within
theorem dX1_isColour_0 : decode cX1_isColour 0 = .ok (.iload_n 0, 1) := by decide +kernel
theorem dX1_isColour_1 : decode cX1_isColour 1 = .ok (.iconst 0, 1) := by decide +kernel
theorem dX1_isColour_2 : decode cX1_isColour 2 = .ok (.bipush 6, 2) := by decide +kernel
theorem dX1_isColour_4 : decode cX1_isColour 4 = .ok (.invokestatic 38, 3) := by decide +kernel
theorem dX1_isColour_7 : decode cX1_isColour 7 = .ok (.ireturn, 1) := by decide +kernel
set_option maxRecDepth 20000 in
theorem ggX1_refuseOutside_X1_isOnWall : GoodIn wsX1_refuseOutside wsX1_isOnWall := goodIn_r _ [6, 7, 8, 5, 9] (by decide +kernel) (by decide +kernel)
set_option maxRecDepth 20000 in
theorem gX1_refuseOutside_X1_isOnWall : GoodIn wsX1_refuseOutside (va_wsS RX1 206 yX1_isOnWall wsX1_isOnWall) := goodIn_app (goodIn_of _ (by decide +kernel)) ggX1_refuseOutside_X1_isOnWall
theorem dX1_refuseOutside_0 : decode cX1_refuseOutside 0 = .ok (.iload_n 0, 1) := by decide +kernel
theorem dX1_refuseOutside_1 : decode cX1_refuseOutside 1 = .ok (.iload_n 1, 1) := by decide +kernel
theorem dX1_refuseOutside_2 : decode cX1_refuseOutside 2 = .ok (.invokestatic 206, 3) := by decide +kernel
theorem dX1_refuseOutside_5 : decode cX1_refuseOutside 5 = .ok (.ifCond .ne 13, 3) := by decide +kernel
theorem dX1_refuseOutside_8 : decode cX1_refuseOutside 8 = .ok (.new 61, 3) := by decide +kernel
theorem dX1_refuseOutside_11 : decode cX1_refuseOutside 11 = .ok (.dup, 1) := by decide +kernel
theorem dX1_refuseOutside_12 : decode cX1_refuseOutside 12 = .ok (.ldc 210, 2) := by decide +kernel
theorem dX1_refuseOutside_14 : decode cX1_refuseOutside 14 = .ok (.invokespecial 65, 3) := by decide +kernel
theorem dX1_refuseOutside_17 : decode cX1_refuseOutside 17 = .ok (.athrow, 1) := by decide +kernel
theorem dX1_refuseOutside_18 : decode cX1_refuseOutside 18 = .ok (.return_, 1) := by decide +kernel
set_option maxRecDepth 20000 in
theorem ggX1_refuseNoPattern_X1_within : GoodIn wsX1_refuseNoPattern wsX1_within := goodIn_r _ [6] (by decide +kernel) (by decide +kernel)
set_option maxRecDepth 20000 in
theorem gX1_refuseNoPattern_X1_within : GoodIn wsX1_refuseNoPattern (va_wsS RX1 38 yX1_within wsX1_within) := goodIn_app (goodIn_of _ (by decide +kernel)) ggX1_refuseNoPattern_X1_within
set_option maxRecDepth 20000 in
theorem ggX1_refuseNoPattern_X1_isColour : GoodIn wsX1_refuseNoPattern wsX1_isColour := goodIn_r _ [9, 3, 4, 5, 6] (by decide +kernel) (by decide +kernel)
set_option maxRecDepth 20000 in
theorem gX1_refuseNoPattern_X1_isColour : GoodIn wsX1_refuseNoPattern (va_wsS RX1 68 yX1_isColour wsX1_isColour) := goodIn_app (goodIn_of _ (by decide +kernel)) ggX1_refuseNoPattern_X1_isColour
theorem dX1_refuseNoPattern_0 : decode cX1_refuseNoPattern 0 = .ok (.iload_n 0, 1) := by decide +kernel
theorem dX1_refuseNoPattern_1 : decode cX1_refuseNoPattern 1 = .ok (.iconst 0, 1) := by decide +kernel
theorem dX1_refuseNoPattern_2 : decode cX1_refuseNoPattern 2 = .ok (.iconst 3, 1) := by decide +kernel
theorem dX1_refuseNoPattern_3 : decode cX1_refuseNoPattern 3 = .ok (.invokestatic 38, 3) := by decide +kernel
theorem dX1_refuseNoPattern_6 : decode cX1_refuseNoPattern 6 = .ok (.ifCond .eq 17, 3) := by decide +kernel
theorem dX1_refuseNoPattern_9 : decode cX1_refuseNoPattern 9 = .ok (.iload_n 1, 1) := by decide +kernel
theorem dX1_refuseNoPattern_10 : decode cX1_refuseNoPattern 10 = .ok (.invokestatic 68, 3) := by decide +kernel
theorem dX1_refuseNoPattern_13 : decode cX1_refuseNoPattern 13 = .ok (.ifCond .eq 10, 3) := by decide +kernel
theorem dX1_refuseNoPattern_16 : decode cX1_refuseNoPattern 16 = .ok (.iload_n 2, 1) := by decide +kernel
theorem dX1_refuseNoPattern_17 : decode cX1_refuseNoPattern 17 = .ok (.invokestatic 68, 3) := by decide +kernel
theorem dX1_refuseNoPattern_20 : decode cX1_refuseNoPattern 20 = .ok (.ifCond .ne 13, 3) := by decide +kernel
theorem dX1_refuseNoPattern_23 : decode cX1_refuseNoPattern 23 = .ok (.new 42, 3) := by decide +kernel
theorem dX1_refuseNoPattern_26 : decode cX1_refuseNoPattern 26 = .ok (.dup, 1) := by decide +kernel
theorem dX1_refuseNoPattern_27 : decode cX1_refuseNoPattern 27 = .ok (.ldc 212, 2) := by decide +kernel
theorem dX1_refuseNoPattern_29 : decode cX1_refuseNoPattern 29 = .ok (.invokespecial 46, 3) := by decide +kernel
theorem dX1_refuseNoPattern_32 : decode cX1_refuseNoPattern 32 = .ok (.athrow, 1) := by decide +kernel
theorem dX1_refuseNoPattern_33 : decode cX1_refuseNoPattern 33 = .ok (.return_, 1) := by decide +kernel
theorem dX1_cellOf_0 : decode cX1_cellOf 0 = .ok (.bipush 10, 2) := by decide +kernel
theorem dX1_cellOf_2 : decode cX1_cellOf 2 = .ok (.iload_n 1, 1) := by decide +kernel
theorem dX1_cellOf_3 : decode cX1_cellOf 3 = .ok (.imul, 1) := by decide +kernel
theorem dX1_cellOf_4 : decode cX1_cellOf 4 = .ok (.iload_n 0, 1) := by decide +kernel
theorem dX1_cellOf_5 : decode cX1_cellOf 5 = .ok (.iadd, 1) := by decide +kernel
theorem dX1_cellOf_6 : decode cX1_cellOf 6 = .ok (.ireturn, 1) := by decide +kernel
set_option maxRecDepth 20000 in
theorem ggX1_at_X1_within : GoodIn wsX1_at wsX1_within := goodIn_r _ [4] (by decide +kernel) (by decide +kernel)
set_option maxRecDepth 20000 in
theorem gX1_at_X1_within : GoodIn wsX1_at (va_wsS RX1 38 yX1_within wsX1_within) := goodIn_app (goodIn_of _ (by decide +kernel)) ggX1_at_X1_within
theorem dX1_at_0 : decode cX1_at 0 = .ok (.iload_n 1, 1) := by decide +kernel
theorem dX1_at_1 : decode cX1_at 1 = .ok (.iconst 0, 1) := by decide +kernel
theorem dX1_at_2 : decode cX1_at 2 = .ok (.aload_n 0, 1) := by decide +kernel
theorem dX1_at_3 : decode cX1_at 3 = .ok (.arraylength, 1) := by decide +kernel
theorem dX1_at_4 : decode cX1_at 4 = .ok (.iconst 1, 1) := by decide +kernel
theorem dX1_at_5 : decode cX1_at 5 = .ok (.isub, 1) := by decide +kernel
theorem dX1_at_6 : decode cX1_at 6 = .ok (.invokestatic 38, 3) := by decide +kernel
theorem dX1_at_9 : decode cX1_at 9 = .ok (.ifCond .eq 9, 3) := by decide +kernel
theorem dX1_at_12 : decode cX1_at 12 = .ok (.aload_n 0, 1) := by decide +kernel
theorem dX1_at_13 : decode cX1_at 13 = .ok (.iload_n 1, 1) := by decide +kernel
theorem dX1_at_14 : decode cX1_at 14 = .ok (.iaload, 1) := by decide +kernel
theorem dX1_at_15 : decode cX1_at 15 = .ok (.goto 4, 3) := by decide +kernel
theorem dX1_at_18 : decode cX1_at 18 = .ok (.iconst (-1), 1) := by decide +kernel
theorem dX1_at_19 : decode cX1_at 19 = .ok (.ireturn, 1) := by decide +kernel
set_option maxRecDepth 20000 in
theorem ggX1_put_X1_within : GoodIn wsX1_put wsX1_within := goodIn_r _ [4] (by decide +kernel) (by decide +kernel)
set_option maxRecDepth 20000 in
theorem gX1_put_X1_within : GoodIn wsX1_put (va_wsS RX1 38 yX1_within wsX1_within) := goodIn_app (goodIn_of _ (by decide +kernel)) ggX1_put_X1_within
theorem dX1_put_0 : decode cX1_put 0 = .ok (.iload_n 1, 1) := by decide +kernel
theorem dX1_put_1 : decode cX1_put 1 = .ok (.iconst 0, 1) := by decide +kernel
theorem dX1_put_2 : decode cX1_put 2 = .ok (.aload_n 0, 1) := by decide +kernel
theorem dX1_put_3 : decode cX1_put 3 = .ok (.arraylength, 1) := by decide +kernel
theorem dX1_put_4 : decode cX1_put 4 = .ok (.iconst 1, 1) := by decide +kernel
theorem dX1_put_5 : decode cX1_put 5 = .ok (.isub, 1) := by decide +kernel
theorem dX1_put_6 : decode cX1_put 6 = .ok (.invokestatic 38, 3) := by decide +kernel
theorem dX1_put_9 : decode cX1_put 9 = .ok (.ifCond .eq 7, 3) := by decide +kernel
theorem dX1_put_12 : decode cX1_put 12 = .ok (.aload_n 0, 1) := by decide +kernel
theorem dX1_put_13 : decode cX1_put 13 = .ok (.iload_n 1, 1) := by decide +kernel
theorem dX1_put_14 : decode cX1_put 14 = .ok (.iload_n 2, 1) := by decide +kernel
theorem dX1_put_15 : decode cX1_put 15 = .ok (.iastore, 1) := by decide +kernel
theorem dX1_put_16 : decode cX1_put 16 = .ok (.return_, 1) := by decide +kernel
theorem dX1_cellsFrom_0 : decode cX1_cellsFrom 0 = .ok (.iconst 0, 1) := by decide +kernel
theorem dX1_cellsFrom_1 : decode cX1_cellsFrom 1 = .ok (.istore_n 2, 1) := by decide +kernel
theorem dX1_cellsFrom_2 : decode cX1_cellsFrom 2 = .ok (.iconst 0, 1) := by decide +kernel
theorem dX1_cellsFrom_3 : decode cX1_cellsFrom 3 = .ok (.istore_n 3, 1) := by decide +kernel
theorem dX1_cellsFrom_4 : decode cX1_cellsFrom 4 = .ok (.iload_n 3, 1) := by decide +kernel
theorem dX1_cellsFrom_5 : decode cX1_cellsFrom 5 = .ok (.aload_n 0, 1) := by decide +kernel
theorem dX1_cellsFrom_6 : decode cX1_cellsFrom 6 = .ok (.arraylength, 1) := by decide +kernel
theorem dX1_cellsFrom_7 : decode cX1_cellsFrom 7 = .ok (.if_icmp .ge 19, 3) := by decide +kernel
theorem dX1_cellsFrom_10 : decode cX1_cellsFrom 10 = .ok (.aload_n 0, 1) := by decide +kernel
theorem dX1_cellsFrom_11 : decode cX1_cellsFrom 11 = .ok (.iload_n 3, 1) := by decide +kernel
theorem dX1_cellsFrom_12 : decode cX1_cellsFrom 12 = .ok (.iaload, 1) := by decide +kernel
theorem dX1_cellsFrom_13 : decode cX1_cellsFrom 13 = .ok (.iload_n 1, 1) := by decide +kernel
theorem dX1_cellsFrom_14 : decode cX1_cellsFrom 14 = .ok (.if_icmp .lt 6, 3) := by decide +kernel
theorem dX1_cellsFrom_17 : decode cX1_cellsFrom 17 = .ok (.iinc 2 1, 3) := by decide +kernel
theorem dX1_cellsFrom_20 : decode cX1_cellsFrom 20 = .ok (.iinc 3 1, 3) := by decide +kernel
theorem dX1_cellsFrom_23 : decode cX1_cellsFrom 23 = .ok (.goto (-19), 3) := by decide +kernel
theorem dX1_cellsFrom_26 : decode cX1_cellsFrom 26 = .ok (.iload_n 2, 1) := by decide +kernel
theorem dX1_cellsFrom_27 : decode cX1_cellsFrom 27 = .ok (.ireturn, 1) := by decide +kernel
set_option maxRecDepth 20000 in
theorem ggX1_find_X1_within : GoodIn wsX1_find wsX1_within := goodIn_r _ [6] (by decide +kernel) (by decide +kernel)
set_option maxRecDepth 20000 in
theorem gX1_find_X1_within : GoodIn wsX1_find (va_wsS RX1 38 yX1_within wsX1_within) := goodIn_app (goodIn_of _ (by decide +kernel)) ggX1_find_X1_within
theorem dX1_find_0 : decode cX1_find 0 = .ok (.iload_n 1, 1) := by decide +kernel
theorem dX1_find_1 : decode cX1_find 1 = .ok (.iconst 0, 1) := by decide +kernel
theorem dX1_find_2 : decode cX1_find 2 = .ok (.aload_n 0, 1) := by decide +kernel
theorem dX1_find_3 : decode cX1_find 3 = .ok (.getfield 74, 3) := by decide +kernel
theorem dX1_find_6 : decode cX1_find 6 = .ok (.iconst 1, 1) := by decide +kernel
theorem dX1_find_7 : decode cX1_find 7 = .ok (.isub, 1) := by decide +kernel
theorem dX1_find_8 : decode cX1_find 8 = .ok (.invokestatic 38, 3) := by decide +kernel
theorem dX1_find_11 : decode cX1_find 11 = .ok (.ifCond .eq 21, 3) := by decide +kernel
theorem dX1_find_14 : decode cX1_find 14 = .ok (.iload_n 1, 1) := by decide +kernel
theorem dX1_find_15 : decode cX1_find 15 = .ok (.aload_n 0, 1) := by decide +kernel
theorem dX1_find_16 : decode cX1_find 16 = .ok (.getfield 21, 3) := by decide +kernel
theorem dX1_find_19 : decode cX1_find 19 = .ok (.arraylength, 1) := by decide +kernel
theorem dX1_find_20 : decode cX1_find 20 = .ok (.if_icmp .ge 12, 3) := by decide +kernel
theorem dX1_find_23 : decode cX1_find 23 = .ok (.aload_n 0, 1) := by decide +kernel
theorem dX1_find_24 : decode cX1_find 24 = .ok (.getfield 21, 3) := by decide +kernel
theorem dX1_find_27 : decode cX1_find 27 = .ok (.iload_n 1, 1) := by decide +kernel
theorem dX1_find_28 : decode cX1_find 28 = .ok (.aaload, 1) := by decide +kernel
theorem dX1_find_29 : decode cX1_find 29 = .ok (.goto 4, 3) := by decide +kernel
theorem dX1_find_32 : decode cX1_find 32 = .ok (.aconst_null, 1) := by decide +kernel
theorem dX1_find_33 : decode cX1_find 33 = .ok (.areturn, 1) := by decide +kernel
set_option maxRecDepth 20000 in
theorem ggX1_isLoose_X0_cellAt : GoodIn wsX1_isLoose wsX0_cellAt := goodIn_r _ [7, 8, 9, 10, 11, 12, 13, 20, 21, 22, 23, 24, 25, 26, 27] (by decide +kernel) (by decide +kernel)
set_option maxRecDepth 20000 in
theorem gX1_isLoose_X0_cellAt : GoodIn wsX1_isLoose (wsV RX1 113 RX0 yX0_cellAt wsX0_cellAt) := goodIn_app (goodIn_of _ (by decide +kernel)) ggX1_isLoose_X0_cellAt
set_option maxRecDepth 20000 in
theorem ggX1_isLoose_X1_at : GoodIn wsX1_isLoose wsX1_at := goodIn_r _ [16, 17, 18, 12, 19] (by decide +kernel) (by decide +kernel)
set_option maxRecDepth 20000 in
theorem gX1_isLoose_X1_at : GoodIn wsX1_isLoose (va_wsS RX1 53 yX1_at wsX1_at) := goodIn_app (goodIn_of _ (by decide +kernel)) ggX1_isLoose_X1_at
theorem dX1_isLoose_0 : decode cX1_isLoose 0 = .ok (.aload_n 0, 1) := by decide +kernel
theorem dX1_isLoose_1 : decode cX1_isLoose 1 = .ok (.getfield 132, 3) := by decide +kernel
theorem dX1_isLoose_4 : decode cX1_isLoose 4 = .ok (.ifCond .eq 5, 3) := by decide +kernel
theorem dX1_isLoose_7 : decode cX1_isLoose 7 = .ok (.iconst 0, 1) := by decide +kernel
theorem dX1_isLoose_8 : decode cX1_isLoose 8 = .ok (.ireturn, 1) := by decide +kernel
theorem dX1_isLoose_9 : decode cX1_isLoose 9 = .ok (.iconst 0, 1) := by decide +kernel
theorem dX1_isLoose_10 : decode cX1_isLoose 10 = .ok (.istore_n 2, 1) := by decide +kernel
theorem dX1_isLoose_11 : decode cX1_isLoose 11 = .ok (.iload_n 2, 1) := by decide +kernel
theorem dX1_isLoose_12 : decode cX1_isLoose 12 = .ok (.aload_n 0, 1) := by decide +kernel
theorem dX1_isLoose_13 : decode cX1_isLoose 13 = .ok (.getfield 110, 3) := by decide +kernel
theorem dX1_isLoose_16 : decode cX1_isLoose 16 = .ok (.if_icmp .ge 24, 3) := by decide +kernel
theorem dX1_isLoose_19 : decode cX1_isLoose 19 = .ok (.aload_n 1, 1) := by decide +kernel
theorem dX1_isLoose_20 : decode cX1_isLoose 20 = .ok (.aload_n 0, 1) := by decide +kernel
theorem dX1_isLoose_21 : decode cX1_isLoose 21 = .ok (.iload_n 2, 1) := by decide +kernel
theorem dX1_isLoose_22 : decode cX1_isLoose 22 = .ok (.invokevirtual 113, 3) := by decide +kernel
theorem dX1_isLoose_25 : decode cX1_isLoose 25 = .ok (.invokestatic 53, 3) := by decide +kernel
theorem dX1_isLoose_28 : decode cX1_isLoose 28 = .ok (.iconst 1, 1) := by decide +kernel
theorem dX1_isLoose_29 : decode cX1_isLoose 29 = .ok (.if_icmp .ge 5, 3) := by decide +kernel
theorem dX1_isLoose_32 : decode cX1_isLoose 32 = .ok (.iconst 0, 1) := by decide +kernel
theorem dX1_isLoose_33 : decode cX1_isLoose 33 = .ok (.ireturn, 1) := by decide +kernel
theorem dX1_isLoose_34 : decode cX1_isLoose 34 = .ok (.iinc 2 1, 3) := by decide +kernel
theorem dX1_isLoose_37 : decode cX1_isLoose 37 = .ok (.goto (-26), 3) := by decide +kernel
theorem dX1_isLoose_40 : decode cX1_isLoose 40 = .ok (.iconst 1, 1) := by decide +kernel
theorem dX1_isLoose_41 : decode cX1_isLoose 41 = .ok (.ireturn, 1) := by decide +kernel
set_option maxRecDepth 20000 in
theorem ggX1_hasRoom_X1_isOnWall : GoodIn wsX1_hasRoom wsX1_isOnWall := goodIn_r _ [4, 5, 6, 3, 7] (by decide +kernel) (by decide +kernel)
set_option maxRecDepth 20000 in
theorem gX1_hasRoom_X1_isOnWall : GoodIn wsX1_hasRoom (va_wsS RX1 206 yX1_isOnWall wsX1_isOnWall) := goodIn_app (goodIn_of _ (by decide +kernel)) ggX1_hasRoom_X1_isOnWall
set_option maxRecDepth 20000 in
theorem ggX1_hasRoom_X1_cellOf : GoodIn wsX1_hasRoom wsX1_cellOf := goodIn_r _ [10] (by decide +kernel) (by decide +kernel)
set_option maxRecDepth 20000 in
theorem gX1_hasRoom_X1_cellOf : GoodIn wsX1_hasRoom (va_wsS RX1 49 yX1_cellOf wsX1_cellOf) := goodIn_app (goodIn_of _ (by decide +kernel)) ggX1_hasRoom_X1_cellOf
set_option maxRecDepth 20000 in
theorem ggX1_hasRoom_X1_isFree : GoodIn wsX1_hasRoom wsX1_isFree := goodIn_r _ [14, 15, 16, 17, 18, 3, 19, 5, 6, 7, 20, 21, 22, 23, 24, 25, 26, 27, 28] (by decide +kernel) (by decide +kernel)
set_option maxRecDepth 20000 in
theorem gX1_hasRoom_X1_isFree : GoodIn wsX1_hasRoom (wsV RX1 214 RX1 yX1_isFree wsX1_isFree) := goodIn_app (goodIn_of _ (by decide +kernel)) ggX1_hasRoom_X1_isFree
theorem dX1_hasRoom_0 : decode cX1_hasRoom 0 = .ok (.iconst 0, 1) := by decide +kernel
theorem dX1_hasRoom_1 : decode cX1_hasRoom 1 = .ok (.istore 6, 2) := by decide +kernel
theorem dX1_hasRoom_3 : decode cX1_hasRoom 3 = .ok (.iload 6, 2) := by decide +kernel
theorem dX1_hasRoom_5 : decode cX1_hasRoom 5 = .ok (.iload_n 3, 1) := by decide +kernel
theorem dX1_hasRoom_6 : decode cX1_hasRoom 6 = .ok (.if_icmp .ge 67, 3) := by decide +kernel
theorem dX1_hasRoom_9 : decode cX1_hasRoom 9 = .ok (.iload 4, 2) := by decide +kernel
theorem dX1_hasRoom_11 : decode cX1_hasRoom 11 = .ok (.ifCond .eq 10, 3) := by decide +kernel
theorem dX1_hasRoom_14 : decode cX1_hasRoom 14 = .ok (.iload_n 1, 1) := by decide +kernel
theorem dX1_hasRoom_15 : decode cX1_hasRoom 15 = .ok (.iload 6, 2) := by decide +kernel
theorem dX1_hasRoom_17 : decode cX1_hasRoom 17 = .ok (.iadd, 1) := by decide +kernel
theorem dX1_hasRoom_18 : decode cX1_hasRoom 18 = .ok (.goto 4, 3) := by decide +kernel
theorem dX1_hasRoom_21 : decode cX1_hasRoom 21 = .ok (.iload_n 1, 1) := by decide +kernel
theorem dX1_hasRoom_22 : decode cX1_hasRoom 22 = .ok (.istore 7, 2) := by decide +kernel
theorem dX1_hasRoom_24 : decode cX1_hasRoom 24 = .ok (.iload 4, 2) := by decide +kernel
theorem dX1_hasRoom_26 : decode cX1_hasRoom 26 = .ok (.ifCond .eq 7, 3) := by decide +kernel
theorem dX1_hasRoom_29 : decode cX1_hasRoom 29 = .ok (.iload_n 2, 1) := by decide +kernel
theorem dX1_hasRoom_30 : decode cX1_hasRoom 30 = .ok (.goto 7, 3) := by decide +kernel
theorem dX1_hasRoom_33 : decode cX1_hasRoom 33 = .ok (.iload_n 2, 1) := by decide +kernel
theorem dX1_hasRoom_34 : decode cX1_hasRoom 34 = .ok (.iload 6, 2) := by decide +kernel
theorem dX1_hasRoom_36 : decode cX1_hasRoom 36 = .ok (.iadd, 1) := by decide +kernel
theorem dX1_hasRoom_37 : decode cX1_hasRoom 37 = .ok (.istore 8, 2) := by decide +kernel
theorem dX1_hasRoom_39 : decode cX1_hasRoom 39 = .ok (.iload 7, 2) := by decide +kernel
theorem dX1_hasRoom_41 : decode cX1_hasRoom 41 = .ok (.iload 8, 2) := by decide +kernel
theorem dX1_hasRoom_43 : decode cX1_hasRoom 43 = .ok (.invokestatic 206, 3) := by decide +kernel
theorem dX1_hasRoom_46 : decode cX1_hasRoom 46 = .ok (.ifCond .eq 19, 3) := by decide +kernel
theorem dX1_hasRoom_49 : decode cX1_hasRoom 49 = .ok (.aload_n 0, 1) := by decide +kernel
theorem dX1_hasRoom_50 : decode cX1_hasRoom 50 = .ok (.iload 7, 2) := by decide +kernel
theorem dX1_hasRoom_52 : decode cX1_hasRoom 52 = .ok (.iload 8, 2) := by decide +kernel
theorem dX1_hasRoom_54 : decode cX1_hasRoom 54 = .ok (.invokestatic 49, 3) := by decide +kernel
theorem dX1_hasRoom_57 : decode cX1_hasRoom 57 = .ok (.iload 5, 2) := by decide +kernel
theorem dX1_hasRoom_59 : decode cX1_hasRoom 59 = .ok (.invokevirtual 214, 3) := by decide +kernel
theorem dX1_hasRoom_62 : decode cX1_hasRoom 62 = .ok (.ifCond .ne 5, 3) := by decide +kernel
theorem dX1_hasRoom_65 : decode cX1_hasRoom 65 = .ok (.iconst 0, 1) := by decide +kernel
theorem dX1_hasRoom_66 : decode cX1_hasRoom 66 = .ok (.ireturn, 1) := by decide +kernel
theorem dX1_hasRoom_67 : decode cX1_hasRoom 67 = .ok (.iinc 6 1, 3) := by decide +kernel
theorem dX1_hasRoom_70 : decode cX1_hasRoom 70 = .ok (.goto (-67), 3) := by decide +kernel
theorem dX1_hasRoom_73 : decode cX1_hasRoom 73 = .ok (.iconst 1, 1) := by decide +kernel
theorem dX1_hasRoom_74 : decode cX1_hasRoom 74 = .ok (.ireturn, 1) := by decide +kernel
set_option maxRecDepth 20000 in
theorem ggX1_isFree_X1_at : GoodIn wsX1_isFree wsX1_at := goodIn_r _ [6, 7, 8, 5, 9] (by decide +kernel) (by decide +kernel)
set_option maxRecDepth 20000 in
theorem gX1_isFree_X1_at : GoodIn wsX1_isFree (va_wsS RX1 53 yX1_at wsX1_at) := goodIn_app (goodIn_of _ (by decide +kernel)) ggX1_isFree_X1_at
theorem dX1_isFree_0 : decode cX1_isFree 0 = .ok (.aload_n 0, 1) := by decide +kernel
theorem dX1_isFree_1 : decode cX1_isFree 1 = .ok (.getfield 13, 3) := by decide +kernel
theorem dX1_isFree_4 : decode cX1_isFree 4 = .ok (.iload_n 1, 1) := by decide +kernel
theorem dX1_isFree_5 : decode cX1_isFree 5 = .ok (.invokestatic 53, 3) := by decide +kernel
theorem dX1_isFree_8 : decode cX1_isFree 8 = .ok (.istore_n 3, 1) := by decide +kernel
theorem dX1_isFree_9 : decode cX1_isFree 9 = .ok (.aload_n 0, 1) := by decide +kernel
theorem dX1_isFree_10 : decode cX1_isFree 10 = .ok (.getfield 9, 3) := by decide +kernel
theorem dX1_isFree_13 : decode cX1_isFree 13 = .ok (.iload_n 1, 1) := by decide +kernel
theorem dX1_isFree_14 : decode cX1_isFree 14 = .ok (.invokestatic 53, 3) := by decide +kernel
theorem dX1_isFree_17 : decode cX1_isFree 17 = .ok (.iconst 1, 1) := by decide +kernel
theorem dX1_isFree_18 : decode cX1_isFree 18 = .ok (.if_icmp .lt 17, 3) := by decide +kernel
theorem dX1_isFree_21 : decode cX1_isFree 21 = .ok (.iload_n 3, 1) := by decide +kernel
theorem dX1_isFree_22 : decode cX1_isFree 22 = .ok (.iconst (-1), 1) := by decide +kernel
theorem dX1_isFree_23 : decode cX1_isFree 23 = .ok (.if_icmp .eq 8, 3) := by decide +kernel
theorem dX1_isFree_26 : decode cX1_isFree 26 = .ok (.iload_n 3, 1) := by decide +kernel
theorem dX1_isFree_27 : decode cX1_isFree 27 = .ok (.iload_n 2, 1) := by decide +kernel
theorem dX1_isFree_28 : decode cX1_isFree 28 = .ok (.if_icmp .ne 7, 3) := by decide +kernel
theorem dX1_isFree_31 : decode cX1_isFree 31 = .ok (.iconst 1, 1) := by decide +kernel
theorem dX1_isFree_32 : decode cX1_isFree 32 = .ok (.goto 4, 3) := by decide +kernel
theorem dX1_isFree_35 : decode cX1_isFree 35 = .ok (.iconst 0, 1) := by decide +kernel
theorem dX1_isFree_36 : decode cX1_isFree 36 = .ok (.ireturn, 1) := by decide +kernel
set_option maxRecDepth 20000 in
theorem ggX1_setCover_X0_cellAt : GoodIn wsX1_setCover wsX0_cellAt := goodIn_r _ [7, 8, 9, 10, 11, 12, 13, 20, 21, 22, 23, 24, 25, 26, 27] (by decide +kernel) (by decide +kernel)
set_option maxRecDepth 20000 in
theorem gX1_setCover_X0_cellAt : GoodIn wsX1_setCover (wsV RX1 113 RX0 yX0_cellAt wsX0_cellAt) := goodIn_app (goodIn_of _ (by decide +kernel)) ggX1_setCover_X0_cellAt
set_option maxRecDepth 20000 in
theorem ggX1_setCover_X1_put : GoodIn wsX1_setCover wsX1_put := goodIn_r _ [16, 17, 18, 12, 19] (by decide +kernel) (by decide +kernel)
set_option maxRecDepth 20000 in
theorem gX1_setCover_X1_put : GoodIn wsX1_setCover (va_wsS RX1 57 yX1_put wsX1_put) := goodIn_app (goodIn_of _ (by decide +kernel)) ggX1_setCover_X1_put
theorem dX1_setCover_0 : decode cX1_setCover 0 = .ok (.iconst 0, 1) := by decide +kernel
theorem dX1_setCover_1 : decode cX1_setCover 1 = .ok (.istore_n 3, 1) := by decide +kernel
theorem dX1_setCover_2 : decode cX1_setCover 2 = .ok (.iload_n 3, 1) := by decide +kernel
theorem dX1_setCover_3 : decode cX1_setCover 3 = .ok (.aload_n 1, 1) := by decide +kernel
theorem dX1_setCover_4 : decode cX1_setCover 4 = .ok (.getfield 110, 3) := by decide +kernel
theorem dX1_setCover_7 : decode cX1_setCover 7 = .ok (.if_icmp .ge 22, 3) := by decide +kernel
theorem dX1_setCover_10 : decode cX1_setCover 10 = .ok (.aload_n 0, 1) := by decide +kernel
theorem dX1_setCover_11 : decode cX1_setCover 11 = .ok (.getfield 13, 3) := by decide +kernel
theorem dX1_setCover_14 : decode cX1_setCover 14 = .ok (.aload_n 1, 1) := by decide +kernel
theorem dX1_setCover_15 : decode cX1_setCover 15 = .ok (.iload_n 3, 1) := by decide +kernel
theorem dX1_setCover_16 : decode cX1_setCover 16 = .ok (.invokevirtual 113, 3) := by decide +kernel
theorem dX1_setCover_19 : decode cX1_setCover 19 = .ok (.iload_n 2, 1) := by decide +kernel
theorem dX1_setCover_20 : decode cX1_setCover 20 = .ok (.invokestatic 57, 3) := by decide +kernel
theorem dX1_setCover_23 : decode cX1_setCover 23 = .ok (.iinc 3 1, 3) := by decide +kernel
theorem dX1_setCover_26 : decode cX1_setCover 26 = .ok (.goto (-24), 3) := by decide +kernel
theorem dX1_setCover_29 : decode cX1_setCover 29 = .ok (.return_, 1) := by decide +kernel
set_option maxRecDepth 20000 in
theorem ggX1_removeMortar_X0_cellAt : GoodIn wsX1_removeMortar wsX0_cellAt := goodIn_r _ [7, 8, 9, 10, 11, 12, 13, 20, 21, 22, 23, 24, 25, 26, 27] (by decide +kernel) (by decide +kernel)
set_option maxRecDepth 20000 in
theorem gX1_removeMortar_X0_cellAt : GoodIn wsX1_removeMortar (wsV RX1 113 RX0 yX0_cellAt wsX0_cellAt) := goodIn_app (goodIn_of _ (by decide +kernel)) ggX1_removeMortar_X0_cellAt
set_option maxRecDepth 20000 in
theorem ggX1_removeMortar_X1_put : GoodIn wsX1_removeMortar wsX1_put := goodIn_r _ [16, 17, 18, 12, 19] (by decide +kernel) (by decide +kernel)
set_option maxRecDepth 20000 in
theorem gX1_removeMortar_X1_put : GoodIn wsX1_removeMortar (va_wsS RX1 57 yX1_put wsX1_put) := goodIn_app (goodIn_of _ (by decide +kernel)) ggX1_removeMortar_X1_put
theorem dX1_removeMortar_0 : decode cX1_removeMortar 0 = .ok (.iconst 0, 1) := by decide +kernel
theorem dX1_removeMortar_1 : decode cX1_removeMortar 1 = .ok (.istore_n 2, 1) := by decide +kernel
theorem dX1_removeMortar_2 : decode cX1_removeMortar 2 = .ok (.iload_n 2, 1) := by decide +kernel
theorem dX1_removeMortar_3 : decode cX1_removeMortar 3 = .ok (.aload_n 1, 1) := by decide +kernel
theorem dX1_removeMortar_4 : decode cX1_removeMortar 4 = .ok (.getfield 110, 3) := by decide +kernel
theorem dX1_removeMortar_7 : decode cX1_removeMortar 7 = .ok (.if_icmp .ge 22, 3) := by decide +kernel
theorem dX1_removeMortar_10 : decode cX1_removeMortar 10 = .ok (.aload_n 0, 1) := by decide +kernel
theorem dX1_removeMortar_11 : decode cX1_removeMortar 11 = .ok (.getfield 9, 3) := by decide +kernel
theorem dX1_removeMortar_14 : decode cX1_removeMortar 14 = .ok (.aload_n 1, 1) := by decide +kernel
theorem dX1_removeMortar_15 : decode cX1_removeMortar 15 = .ok (.iload_n 2, 1) := by decide +kernel
theorem dX1_removeMortar_16 : decode cX1_removeMortar 16 = .ok (.invokevirtual 113, 3) := by decide +kernel
theorem dX1_removeMortar_19 : decode cX1_removeMortar 19 = .ok (.iconst (-1), 1) := by decide +kernel
theorem dX1_removeMortar_20 : decode cX1_removeMortar 20 = .ok (.invokestatic 57, 3) := by decide +kernel
theorem dX1_removeMortar_23 : decode cX1_removeMortar 23 = .ok (.iinc 2 1, 3) := by decide +kernel
theorem dX1_removeMortar_26 : decode cX1_removeMortar 26 = .ok (.goto (-24), 3) := by decide +kernel
theorem dX1_removeMortar_29 : decode cX1_removeMortar 29 = .ok (.return_, 1) := by decide +kernel
set_option maxRecDepth 20000 in
theorem ggX1_piecesIn_X1_find : GoodIn wsX1_piecesIn wsX1_find := goodIn_r _ [7, 1, 8, 9, 10, 6, 11, 12, 13, 14, 15, 16, 17, 18, 19, 20] (by decide +kernel) (by decide +kernel)
set_option maxRecDepth 20000 in
theorem gX1_piecesIn_X1_find : GoodIn wsX1_piecesIn (wsV RX1 94 RX1 yX1_find wsX1_find) := goodIn_app (goodIn_of _ (by decide +kernel)) ggX1_piecesIn_X1_find
theorem dX1_piecesIn_0 : decode cX1_piecesIn 0 = .ok (.iconst 0, 1) := by decide +kernel
theorem dX1_piecesIn_1 : decode cX1_piecesIn 1 = .ok (.istore_n 1, 1) := by decide +kernel
theorem dX1_piecesIn_2 : decode cX1_piecesIn 2 = .ok (.iconst 0, 1) := by decide +kernel
theorem dX1_piecesIn_3 : decode cX1_piecesIn 3 = .ok (.istore_n 2, 1) := by decide +kernel
theorem dX1_piecesIn_4 : decode cX1_piecesIn 4 = .ok (.iload_n 2, 1) := by decide +kernel
theorem dX1_piecesIn_5 : decode cX1_piecesIn 5 = .ok (.aload_n 0, 1) := by decide +kernel
theorem dX1_piecesIn_6 : decode cX1_piecesIn 6 = .ok (.getfield 74, 3) := by decide +kernel
theorem dX1_piecesIn_9 : decode cX1_piecesIn 9 = .ok (.if_icmp .ge 29, 3) := by decide +kernel
theorem dX1_piecesIn_12 : decode cX1_piecesIn 12 = .ok (.aload_n 0, 1) := by decide +kernel
theorem dX1_piecesIn_13 : decode cX1_piecesIn 13 = .ok (.iload_n 2, 1) := by decide +kernel
theorem dX1_piecesIn_14 : decode cX1_piecesIn 14 = .ok (.invokevirtual 94, 3) := by decide +kernel
theorem dX1_piecesIn_17 : decode cX1_piecesIn 17 = .ok (.astore_n 3, 1) := by decide +kernel
theorem dX1_piecesIn_18 : decode cX1_piecesIn 18 = .ok (.aload_n 3, 1) := by decide +kernel
theorem dX1_piecesIn_19 : decode cX1_piecesIn 19 = .ok (.ifnull 13, 3) := by decide +kernel
theorem dX1_piecesIn_22 : decode cX1_piecesIn 22 = .ok (.aload_n 3, 1) := by decide +kernel
theorem dX1_piecesIn_23 : decode cX1_piecesIn 23 = .ok (.getfield 132, 3) := by decide +kernel
theorem dX1_piecesIn_26 : decode cX1_piecesIn 26 = .ok (.ifCond .ne 6, 3) := by decide +kernel
theorem dX1_piecesIn_29 : decode cX1_piecesIn 29 = .ok (.iinc 1 1, 3) := by decide +kernel
theorem dX1_piecesIn_32 : decode cX1_piecesIn 32 = .ok (.iinc 2 1, 3) := by decide +kernel
theorem dX1_piecesIn_35 : decode cX1_piecesIn 35 = .ok (.goto (-31), 3) := by decide +kernel
theorem dX1_piecesIn_38 : decode cX1_piecesIn 38 = .ok (.iload_n 1, 1) := by decide +kernel
theorem dX1_piecesIn_39 : decode cX1_piecesIn 39 = .ok (.ireturn, 1) := by decide +kernel
set_option maxRecDepth 20000 in
theorem ggX1_loosePieces_X1_find : GoodIn wsX1_loosePieces wsX1_find := goodIn_r _ [7, 1, 8, 9, 10, 6, 11, 30, 31, 32, 33, 34, 35, 36, 37, 38] (by decide +kernel) (by decide +kernel)
set_option maxRecDepth 20000 in
theorem gX1_loosePieces_X1_find : GoodIn wsX1_loosePieces (wsV RX1 94 RX1 yX1_find wsX1_find) := goodIn_app (goodIn_of _ (by decide +kernel)) ggX1_loosePieces_X1_find
set_option maxRecDepth 20000 in
theorem ggX1_loosePieces_X1_isLoose : GoodIn wsX1_loosePieces wsX1_isLoose := goodIn_r _ [14, 15, 16, 17, 18, 19, 20, 21, 22, 23, 24, 25, 6, 26, 27, 28, 29, 9, 10, 11, 39, 40, 41, 42, 43, 44, 45, 46] (by decide +kernel) (by decide +kernel)
set_option maxRecDepth 20000 in
theorem gX1_loosePieces_X1_isLoose : GoodIn wsX1_loosePieces (va_wsS RX1 100 yX1_isLoose wsX1_isLoose) := goodIn_app (goodIn_of _ (by decide +kernel)) ggX1_loosePieces_X1_isLoose
theorem dX1_loosePieces_0 : decode cX1_loosePieces 0 = .ok (.iconst 0, 1) := by decide +kernel
theorem dX1_loosePieces_1 : decode cX1_loosePieces 1 = .ok (.istore_n 1, 1) := by decide +kernel
theorem dX1_loosePieces_2 : decode cX1_loosePieces 2 = .ok (.iconst 0, 1) := by decide +kernel
theorem dX1_loosePieces_3 : decode cX1_loosePieces 3 = .ok (.istore_n 2, 1) := by decide +kernel
theorem dX1_loosePieces_4 : decode cX1_loosePieces 4 = .ok (.iload_n 2, 1) := by decide +kernel
theorem dX1_loosePieces_5 : decode cX1_loosePieces 5 = .ok (.aload_n 0, 1) := by decide +kernel
theorem dX1_loosePieces_6 : decode cX1_loosePieces 6 = .ok (.getfield 74, 3) := by decide +kernel
theorem dX1_loosePieces_9 : decode cX1_loosePieces 9 = .ok (.if_icmp .ge 33, 3) := by decide +kernel
theorem dX1_loosePieces_12 : decode cX1_loosePieces 12 = .ok (.aload_n 0, 1) := by decide +kernel
theorem dX1_loosePieces_13 : decode cX1_loosePieces 13 = .ok (.iload_n 2, 1) := by decide +kernel
theorem dX1_loosePieces_14 : decode cX1_loosePieces 14 = .ok (.invokevirtual 94, 3) := by decide +kernel
theorem dX1_loosePieces_17 : decode cX1_loosePieces 17 = .ok (.astore_n 3, 1) := by decide +kernel
theorem dX1_loosePieces_18 : decode cX1_loosePieces 18 = .ok (.aload_n 3, 1) := by decide +kernel
theorem dX1_loosePieces_19 : decode cX1_loosePieces 19 = .ok (.ifnull 17, 3) := by decide +kernel
theorem dX1_loosePieces_22 : decode cX1_loosePieces 22 = .ok (.aload_n 3, 1) := by decide +kernel
theorem dX1_loosePieces_23 : decode cX1_loosePieces 23 = .ok (.aload_n 0, 1) := by decide +kernel
theorem dX1_loosePieces_24 : decode cX1_loosePieces 24 = .ok (.getfield 9, 3) := by decide +kernel
theorem dX1_loosePieces_27 : decode cX1_loosePieces 27 = .ok (.invokestatic 100, 3) := by decide +kernel
theorem dX1_loosePieces_30 : decode cX1_loosePieces 30 = .ok (.ifCond .eq 6, 3) := by decide +kernel
theorem dX1_loosePieces_33 : decode cX1_loosePieces 33 = .ok (.iinc 1 1, 3) := by decide +kernel
theorem dX1_loosePieces_36 : decode cX1_loosePieces 36 = .ok (.iinc 2 1, 3) := by decide +kernel
theorem dX1_loosePieces_39 : decode cX1_loosePieces 39 = .ok (.goto (-35), 3) := by decide +kernel
theorem dX1_loosePieces_42 : decode cX1_loosePieces 42 = .ok (.iload_n 1, 1) := by decide +kernel
theorem dX1_loosePieces_43 : decode cX1_loosePieces 43 = .ok (.ireturn, 1) := by decide +kernel
set_option maxRecDepth 20000 in
theorem ggX1_colourAt_X1_at : GoodIn wsX1_colourAt wsX1_at := goodIn_r _ [5, 6, 7, 4, 8] (by decide +kernel) (by decide +kernel)
set_option maxRecDepth 20000 in
theorem gX1_colourAt_X1_at : GoodIn wsX1_colourAt (va_wsS RX1 53 yX1_at wsX1_at) := goodIn_app (goodIn_of _ (by decide +kernel)) ggX1_colourAt_X1_at
set_option maxRecDepth 20000 in
theorem ggX1_colourAt_X1_find : GoodIn wsX1_colourAt wsX1_find := goodIn_r _ [12, 13, 14, 6, 7, 4, 8, 23, 24, 25, 26, 27, 28, 29, 30, 31] (by decide +kernel) (by decide +kernel)
set_option maxRecDepth 20000 in
theorem gX1_colourAt_X1_find : GoodIn wsX1_colourAt (wsV RX1 94 RX1 yX1_find wsX1_find) := goodIn_app (goodIn_of _ (by decide +kernel)) ggX1_colourAt_X1_find
set_option maxRecDepth 20000 in
theorem ggX1_colourAt_X0_shownColour : GoodIn wsX1_colourAt wsX0_shownColour := goodIn_r _ [19, 20, 21, 22, 32, 33, 34, 35, 36, 37, 38, 39] (by decide +kernel) (by decide +kernel)
set_option maxRecDepth 20000 in
theorem gX1_colourAt_X0_shownColour : GoodIn wsX1_colourAt (wsV RX1 117 RX0 yX0_shownColour wsX0_shownColour) := goodIn_app (goodIn_of _ (by decide +kernel)) ggX1_colourAt_X0_shownColour
theorem dX1_colourAt_0 : decode cX1_colourAt 0 = .ok (.aload_n 0, 1) := by decide +kernel
theorem dX1_colourAt_1 : decode cX1_colourAt 1 = .ok (.aload_n 0, 1) := by decide +kernel
theorem dX1_colourAt_2 : decode cX1_colourAt 2 = .ok (.getfield 13, 3) := by decide +kernel
theorem dX1_colourAt_5 : decode cX1_colourAt 5 = .ok (.iload_n 1, 1) := by decide +kernel
theorem dX1_colourAt_6 : decode cX1_colourAt 6 = .ok (.invokestatic 53, 3) := by decide +kernel
theorem dX1_colourAt_9 : decode cX1_colourAt 9 = .ok (.invokevirtual 94, 3) := by decide +kernel
theorem dX1_colourAt_12 : decode cX1_colourAt 12 = .ok (.astore_n 2, 1) := by decide +kernel
theorem dX1_colourAt_13 : decode cX1_colourAt 13 = .ok (.aload_n 2, 1) := by decide +kernel
theorem dX1_colourAt_14 : decode cX1_colourAt 14 = .ok (.ifnonnull 7, 3) := by decide +kernel
theorem dX1_colourAt_17 : decode cX1_colourAt 17 = .ok (.iconst (-1), 1) := by decide +kernel
theorem dX1_colourAt_18 : decode cX1_colourAt 18 = .ok (.goto 7, 3) := by decide +kernel
theorem dX1_colourAt_21 : decode cX1_colourAt 21 = .ok (.aload_n 2, 1) := by decide +kernel
theorem dX1_colourAt_22 : decode cX1_colourAt 22 = .ok (.invokevirtual 117, 3) := by decide +kernel
theorem dX1_colourAt_25 : decode cX1_colourAt 25 = .ok (.ireturn, 1) := by decide +kernel
set_option maxRecDepth 20000 in
theorem ggX1_cellFact_X1_at : GoodIn wsX1_cellFact wsX1_at := goodIn_r _ [6, 7, 8, 5, 9] (by decide +kernel) (by decide +kernel)
set_option maxRecDepth 20000 in
theorem gX1_cellFact_X1_at : GoodIn wsX1_cellFact (va_wsS RX1 53 yX1_at wsX1_at) := goodIn_app (goodIn_of _ (by decide +kernel)) ggX1_cellFact_X1_at
set_option maxRecDepth 20000 in
theorem ggX1_cellFact_X1_colourAt : GoodIn wsX1_cellFact wsX1_colourAt := goodIn_r _ [13, 2, 3, 4, 5, 6, 7, 8, 9, 14, 15, 16, 17, 18, 19, 20, 21, 22, 23, 24, 25, 26, 27, 28, 29, 30, 31, 32, 33, 34, 35, 36, 37, 38, 39, 40, 41, 42, 43, 44] (by decide +kernel) (by decide +kernel)
set_option maxRecDepth 20000 in
theorem gX1_cellFact_X1_colourAt : GoodIn wsX1_cellFact (wsV RX1 217 RX1 yX1_colourAt wsX1_colourAt) := goodIn_app (goodIn_of _ (by decide +kernel)) ggX1_cellFact_X1_colourAt
theorem dX1_cellFact_0 : decode cX1_cellFact 0 = .ok (.iload_n 2, 1) := by decide +kernel
theorem dX1_cellFact_1 : decode cX1_cellFact 1 = .ok (.lookupswitch 45 #[(0, 27), (1, 36)], 27) := by decide +kernel
theorem dX1_cellFact_28 : decode cX1_cellFact 28 = .ok (.aload_n 0, 1) := by decide +kernel
theorem dX1_cellFact_29 : decode cX1_cellFact 29 = .ok (.getfield 9, 3) := by decide +kernel
theorem dX1_cellFact_32 : decode cX1_cellFact 32 = .ok (.iload_n 1, 1) := by decide +kernel
theorem dX1_cellFact_33 : decode cX1_cellFact 33 = .ok (.invokestatic 53, 3) := by decide +kernel
theorem dX1_cellFact_36 : decode cX1_cellFact 36 = .ok (.ireturn, 1) := by decide +kernel
theorem dX1_cellFact_37 : decode cX1_cellFact 37 = .ok (.aload_n 0, 1) := by decide +kernel
theorem dX1_cellFact_38 : decode cX1_cellFact 38 = .ok (.getfield 13, 3) := by decide +kernel
theorem dX1_cellFact_41 : decode cX1_cellFact 41 = .ok (.iload_n 1, 1) := by decide +kernel
theorem dX1_cellFact_42 : decode cX1_cellFact 42 = .ok (.invokestatic 53, 3) := by decide +kernel
theorem dX1_cellFact_45 : decode cX1_cellFact 45 = .ok (.ireturn, 1) := by decide +kernel
theorem dX1_cellFact_46 : decode cX1_cellFact 46 = .ok (.aload_n 0, 1) := by decide +kernel
theorem dX1_cellFact_47 : decode cX1_cellFact 47 = .ok (.iload_n 1, 1) := by decide +kernel
theorem dX1_cellFact_48 : decode cX1_cellFact 48 = .ok (.invokevirtual 217, 3) := by decide +kernel
theorem dX1_cellFact_51 : decode cX1_cellFact 51 = .ok (.ireturn, 1) := by decide +kernel
set_option maxRecDepth 20000 in
theorem ggX1_pieceFact_X0_shownColour : GoodIn wsX1_pieceFact wsX0_shownColour := goodIn_r _ [11, 12, 13, 14, 38, 39, 40, 41, 42, 43, 44, 45] (by decide +kernel) (by decide +kernel)
set_option maxRecDepth 20000 in
theorem gX1_pieceFact_X0_shownColour : GoodIn wsX1_pieceFact (wsV RX1 117 RX0 yX0_shownColour wsX0_shownColour) := goodIn_app (goodIn_of _ (by decide +kernel)) ggX1_pieceFact_X0_shownColour
set_option maxRecDepth 20000 in
theorem ggX1_pieceFact_X0_otherColour : GoodIn wsX1_pieceFact wsX0_otherColour := goodIn_r _ [18, 12, 14, 13, 38, 39, 40, 41, 42, 43, 44, 45] (by decide +kernel) (by decide +kernel)
set_option maxRecDepth 20000 in
theorem gX1_pieceFact_X0_otherColour : GoodIn wsX1_pieceFact (wsV RX1 220 RX0 yX0_otherColour wsX0_otherColour) := goodIn_app (goodIn_of _ (by decide +kernel)) ggX1_pieceFact_X0_otherColour
set_option maxRecDepth 20000 in
theorem ggX1_pieceFact_X1_isLoose : GoodIn wsX1_pieceFact wsX1_isLoose := goodIn_r _ [22, 6, 3, 23, 24, 25, 10, 26, 27, 28, 29, 30, 21, 31, 32, 33, 34, 35, 36, 37, 38, 39, 40, 41, 42, 43, 44, 45] (by decide +kernel) (by decide +kernel)
set_option maxRecDepth 20000 in
theorem gX1_pieceFact_X1_isLoose : GoodIn wsX1_pieceFact (va_wsS RX1 100 yX1_isLoose wsX1_isLoose) := goodIn_app (goodIn_of _ (by decide +kernel)) ggX1_pieceFact_X1_isLoose
theorem dX1_pieceFact_0 : decode cX1_pieceFact 0 = .ok (.iload_n 2, 1) := by decide +kernel
theorem dX1_pieceFact_1 : decode cX1_pieceFact 1 = .ok (.tableswitch 98 0 6 #[43, 48, 53, 58, 71, 76, 81], 43) := by decide +kernel
theorem dX1_pieceFact_44 : decode cX1_pieceFact 44 = .ok (.aload_n 1, 1) := by decide +kernel
theorem dX1_pieceFact_45 : decode cX1_pieceFact 45 = .ok (.getfield 121, 3) := by decide +kernel
theorem dX1_pieceFact_48 : decode cX1_pieceFact 48 = .ok (.ireturn, 1) := by decide +kernel
theorem dX1_pieceFact_49 : decode cX1_pieceFact 49 = .ok (.aload_n 1, 1) := by decide +kernel
theorem dX1_pieceFact_50 : decode cX1_pieceFact 50 = .ok (.getfield 124, 3) := by decide +kernel
theorem dX1_pieceFact_53 : decode cX1_pieceFact 53 = .ok (.ireturn, 1) := by decide +kernel
theorem dX1_pieceFact_54 : decode cX1_pieceFact 54 = .ok (.aload_n 1, 1) := by decide +kernel
theorem dX1_pieceFact_55 : decode cX1_pieceFact 55 = .ok (.getfield 110, 3) := by decide +kernel
theorem dX1_pieceFact_58 : decode cX1_pieceFact 58 = .ok (.ireturn, 1) := by decide +kernel
theorem dX1_pieceFact_59 : decode cX1_pieceFact 59 = .ok (.aload_n 1, 1) := by decide +kernel
theorem dX1_pieceFact_60 : decode cX1_pieceFact 60 = .ok (.getfield 127, 3) := by decide +kernel
theorem dX1_pieceFact_63 : decode cX1_pieceFact 63 = .ok (.ifCond .eq 7, 3) := by decide +kernel
theorem dX1_pieceFact_66 : decode cX1_pieceFact 66 = .ok (.iconst 1, 1) := by decide +kernel
theorem dX1_pieceFact_67 : decode cX1_pieceFact 67 = .ok (.goto 4, 3) := by decide +kernel
theorem dX1_pieceFact_70 : decode cX1_pieceFact 70 = .ok (.iconst 0, 1) := by decide +kernel
theorem dX1_pieceFact_71 : decode cX1_pieceFact 71 = .ok (.ireturn, 1) := by decide +kernel
theorem dX1_pieceFact_72 : decode cX1_pieceFact 72 = .ok (.aload_n 1, 1) := by decide +kernel
theorem dX1_pieceFact_73 : decode cX1_pieceFact 73 = .ok (.invokevirtual 117, 3) := by decide +kernel
theorem dX1_pieceFact_76 : decode cX1_pieceFact 76 = .ok (.ireturn, 1) := by decide +kernel
theorem dX1_pieceFact_77 : decode cX1_pieceFact 77 = .ok (.aload_n 1, 1) := by decide +kernel
theorem dX1_pieceFact_78 : decode cX1_pieceFact 78 = .ok (.invokevirtual 220, 3) := by decide +kernel
theorem dX1_pieceFact_81 : decode cX1_pieceFact 81 = .ok (.ireturn, 1) := by decide +kernel
theorem dX1_pieceFact_82 : decode cX1_pieceFact 82 = .ok (.aload_n 1, 1) := by decide +kernel
theorem dX1_pieceFact_83 : decode cX1_pieceFact 83 = .ok (.aload_n 0, 1) := by decide +kernel
theorem dX1_pieceFact_84 : decode cX1_pieceFact 84 = .ok (.getfield 9, 3) := by decide +kernel
theorem dX1_pieceFact_87 : decode cX1_pieceFact 87 = .ok (.invokestatic 100, 3) := by decide +kernel
theorem dX1_pieceFact_90 : decode cX1_pieceFact 90 = .ok (.ifCond .eq 7, 3) := by decide +kernel
theorem dX1_pieceFact_93 : decode cX1_pieceFact 93 = .ok (.iconst 1, 1) := by decide +kernel
theorem dX1_pieceFact_94 : decode cX1_pieceFact 94 = .ok (.goto 4, 3) := by decide +kernel
theorem dX1_pieceFact_97 : decode cX1_pieceFact 97 = .ok (.iconst 0, 1) := by decide +kernel
theorem dX1_pieceFact_98 : decode cX1_pieceFact 98 = .ok (.ireturn, 1) := by decide +kernel
theorem dX1_pieceFact_99 : decode cX1_pieceFact 99 = .ok (.aload_n 1, 1) := by decide +kernel
theorem dX1_pieceFact_100 : decode cX1_pieceFact 100 = .ok (.getfield 132, 3) := by decide +kernel
theorem dX1_pieceFact_103 : decode cX1_pieceFact 103 = .ok (.ifCond .eq 7, 3) := by decide +kernel
theorem dX1_pieceFact_106 : decode cX1_pieceFact 106 = .ok (.iconst 1, 1) := by decide +kernel
theorem dX1_pieceFact_107 : decode cX1_pieceFact 107 = .ok (.goto 4, 3) := by decide +kernel
theorem dX1_pieceFact_110 : decode cX1_pieceFact 110 = .ok (.iconst 0, 1) := by decide +kernel
theorem dX1_pieceFact_111 : decode cX1_pieceFact 111 = .ok (.ireturn, 1) := by decide +kernel
set_option maxRecDepth 20000 in
theorem ggX1_countFact_X1_piecesIn : GoodIn wsX1_countFact wsX1_piecesIn := goodIn_r _ [9, 2, 10, 11, 12, 13, 8, 14, 15, 16, 17, 18, 68, 69, 70, 71, 72, 73, 74, 75, 76, 77, 78, 79, 80, 81, 82, 83, 84] (by decide +kernel) (by decide +kernel)
set_option maxRecDepth 20000 in
theorem gX1_countFact_X1_piecesIn : GoodIn wsX1_countFact (wsV RX1 223 RX1 yX1_piecesIn wsX1_piecesIn) := goodIn_app (goodIn_of _ (by decide +kernel)) ggX1_countFact_X1_piecesIn
set_option maxRecDepth 20000 in
theorem ggX1_countFact_X1_loosePieces : GoodIn wsX1_countFact wsX1_loosePieces := goodIn_r _ [22, 2, 3, 11, 12, 13, 8, 14, 15, 16, 17, 18, 23, 24, 25, 10, 26, 27, 28, 29, 30, 31, 32, 33, 34, 35, 36, 37, 38, 39, 68, 69, 70, 71, 72, 73, 74, 75, 76, 77, 78, 79, 80, 81, 82, 83, 84] (by decide +kernel) (by decide +kernel)
set_option maxRecDepth 20000 in
theorem gX1_countFact_X1_loosePieces : GoodIn wsX1_countFact (wsV RX1 188 RX1 yX1_loosePieces wsX1_loosePieces) := goodIn_app (goodIn_of _ (by decide +kernel)) ggX1_countFact_X1_loosePieces
set_option maxRecDepth 20000 in
theorem ggX1_countFact_X1_cellsFrom : GoodIn wsX1_countFact wsX1_cellsFrom := goodIn_r _ [42] (by decide +kernel) (by decide +kernel)
set_option maxRecDepth 20000 in
theorem gX1_countFact_X1_cellsFrom : GoodIn wsX1_countFact (va_wsS RX1 197 yX1_cellsFrom wsX1_cellsFrom) := goodIn_app (goodIn_of _ (by decide +kernel)) ggX1_countFact_X1_cellsFrom
set_option maxRecDepth 20000 in
theorem ggX1_countFact_X1_gaps : GoodIn wsX1_countFact wsX1_gaps := goodIn_r _ [46, 47, 48, 49, 8, 50, 51, 52, 53, 54, 55, 56, 57, 58, 59, 60, 4, 61, 35, 36, 62, 63, 64, 16, 17, 18, 37, 38, 39, 65, 66, 67, 68, 69, 70, 71, 72, 73, 74, 75, 76] (by decide +kernel) (by decide +kernel)
set_option maxRecDepth 20000 in
theorem gX1_countFact_X1_gaps : GoodIn wsX1_countFact (wsV RX1 226 RX1 yX1_gaps wsX1_gaps) := goodIn_app (goodIn_of _ (by decide +kernel)) ggX1_countFact_X1_gaps
theorem dX1_countFact_0 : decode cX1_countFact 0 = .ok (.iload_n 1, 1) := by decide +kernel
theorem dX1_countFact_1 : decode cX1_countFact 1 = .ok (.tableswitch 90 0 6 #[43, 48, 53, 58, 63, 72, 81], 43) := by decide +kernel
theorem dX1_countFact_44 : decode cX1_countFact 44 = .ok (.aload_n 0, 1) := by decide +kernel
theorem dX1_countFact_45 : decode cX1_countFact 45 = .ok (.getfield 181, 3) := by decide +kernel
theorem dX1_countFact_48 : decode cX1_countFact 48 = .ok (.ireturn, 1) := by decide +kernel
theorem dX1_countFact_49 : decode cX1_countFact 49 = .ok (.aload_n 0, 1) := by decide +kernel
theorem dX1_countFact_50 : decode cX1_countFact 50 = .ok (.getfield 74, 3) := by decide +kernel
theorem dX1_countFact_53 : decode cX1_countFact 53 = .ok (.ireturn, 1) := by decide +kernel
theorem dX1_countFact_54 : decode cX1_countFact 54 = .ok (.aload_n 0, 1) := by decide +kernel
theorem dX1_countFact_55 : decode cX1_countFact 55 = .ok (.invokevirtual 223, 3) := by decide +kernel
theorem dX1_countFact_58 : decode cX1_countFact 58 = .ok (.ireturn, 1) := by decide +kernel
theorem dX1_countFact_59 : decode cX1_countFact 59 = .ok (.aload_n 0, 1) := by decide +kernel
theorem dX1_countFact_60 : decode cX1_countFact 60 = .ok (.invokevirtual 188, 3) := by decide +kernel
theorem dX1_countFact_63 : decode cX1_countFact 63 = .ok (.ireturn, 1) := by decide +kernel
theorem dX1_countFact_64 : decode cX1_countFact 64 = .ok (.aload_n 0, 1) := by decide +kernel
theorem dX1_countFact_65 : decode cX1_countFact 65 = .ok (.getfield 9, 3) := by decide +kernel
theorem dX1_countFact_68 : decode cX1_countFact 68 = .ok (.iconst 0, 1) := by decide +kernel
theorem dX1_countFact_69 : decode cX1_countFact 69 = .ok (.invokestatic 197, 3) := by decide +kernel
theorem dX1_countFact_72 : decode cX1_countFact 72 = .ok (.ireturn, 1) := by decide +kernel
theorem dX1_countFact_73 : decode cX1_countFact 73 = .ok (.aload_n 0, 1) := by decide +kernel
theorem dX1_countFact_74 : decode cX1_countFact 74 = .ok (.getfield 9, 3) := by decide +kernel
theorem dX1_countFact_77 : decode cX1_countFact 77 = .ok (.iconst 1, 1) := by decide +kernel
theorem dX1_countFact_78 : decode cX1_countFact 78 = .ok (.invokestatic 197, 3) := by decide +kernel
theorem dX1_countFact_81 : decode cX1_countFact 81 = .ok (.ireturn, 1) := by decide +kernel
theorem dX1_countFact_82 : decode cX1_countFact 82 = .ok (.aload_n 0, 1) := by decide +kernel
theorem dX1_countFact_83 : decode cX1_countFact 83 = .ok (.getfield 13, 3) := by decide +kernel
theorem dX1_countFact_86 : decode cX1_countFact 86 = .ok (.iconst 0, 1) := by decide +kernel
theorem dX1_countFact_87 : decode cX1_countFact 87 = .ok (.invokestatic 197, 3) := by decide +kernel
theorem dX1_countFact_90 : decode cX1_countFact 90 = .ok (.ireturn, 1) := by decide +kernel
theorem dX1_countFact_91 : decode cX1_countFact 91 = .ok (.aload_n 0, 1) := by decide +kernel
theorem dX1_countFact_92 : decode cX1_countFact 92 = .ok (.invokevirtual 226, 3) := by decide +kernel
theorem dX1_countFact_95 : decode cX1_countFact 95 = .ok (.ireturn, 1) := by decide +kernel
set_option maxRecDepth 20000 in
theorem ggX1_fits_X1_cellOf : GoodIn wsX1_fits wsX1_cellOf := goodIn_r _ [4] (by decide +kernel) (by decide +kernel)
set_option maxRecDepth 20000 in
theorem gX1_fits_X1_cellOf : GoodIn wsX1_fits (va_wsS RX1 49 yX1_cellOf wsX1_cellOf) := goodIn_app (goodIn_of _ (by decide +kernel)) ggX1_fits_X1_cellOf
set_option maxRecDepth 20000 in
theorem ggX1_fits_X1_colourAt : GoodIn wsX1_fits wsX1_colourAt := goodIn_r _ [8, 9, 10, 11, 3, 12, 13, 14, 15, 16, 17, 18, 19, 20, 21, 22, 23, 24, 25, 26, 27, 28, 29, 30, 31, 32, 33, 34, 35, 36, 37, 38, 39, 40, 41, 42, 43, 44, 45, 46] (by decide +kernel) (by decide +kernel)
set_option maxRecDepth 20000 in
theorem gX1_fits_X1_colourAt : GoodIn wsX1_fits (wsV RX1 217 RX1 yX1_colourAt wsX1_colourAt) := goodIn_app (goodIn_of _ (by decide +kernel)) ggX1_fits_X1_colourAt
theorem dX1_fits_0 : decode cX1_fits 0 = .ok (.aload_n 0, 1) := by decide +kernel
theorem dX1_fits_1 : decode cX1_fits 1 = .ok (.iload_n 1, 1) := by decide +kernel
theorem dX1_fits_2 : decode cX1_fits 2 = .ok (.iload_n 2, 1) := by decide +kernel
theorem dX1_fits_3 : decode cX1_fits 3 = .ok (.invokestatic 49, 3) := by decide +kernel
theorem dX1_fits_6 : decode cX1_fits 6 = .ok (.invokevirtual 217, 3) := by decide +kernel
theorem dX1_fits_9 : decode cX1_fits 9 = .ok (.istore 6, 2) := by decide +kernel
theorem dX1_fits_11 : decode cX1_fits 11 = .ok (.iload_n 3, 1) := by decide +kernel
theorem dX1_fits_12 : decode cX1_fits 12 = .ok (.tableswitch 91 0 2 #[28, 41, 65], 28) := by decide +kernel
theorem dX1_fits_40 : decode cX1_fits 40 = .ok (.iload 6, 2) := by decide +kernel
theorem dX1_fits_42 : decode cX1_fits 42 = .ok (.iload 4, 2) := by decide +kernel
theorem dX1_fits_44 : decode cX1_fits 44 = .ok (.if_icmp .ne 7, 3) := by decide +kernel
theorem dX1_fits_47 : decode cX1_fits 47 = .ok (.iconst 1, 1) := by decide +kernel
theorem dX1_fits_48 : decode cX1_fits 48 = .ok (.goto 4, 3) := by decide +kernel
theorem dX1_fits_51 : decode cX1_fits 51 = .ok (.iconst 0, 1) := by decide +kernel
theorem dX1_fits_52 : decode cX1_fits 52 = .ok (.ireturn, 1) := by decide +kernel
theorem dX1_fits_53 : decode cX1_fits 53 = .ok (.iload 6, 2) := by decide +kernel
theorem dX1_fits_55 : decode cX1_fits 55 = .ok (.iload_n 2, 1) := by decide +kernel
theorem dX1_fits_56 : decode cX1_fits 56 = .ok (.iconst 2, 1) := by decide +kernel
theorem dX1_fits_57 : decode cX1_fits 57 = .ok (.irem, 1) := by decide +kernel
theorem dX1_fits_58 : decode cX1_fits 58 = .ok (.ifCond .ne 8, 3) := by decide +kernel
theorem dX1_fits_61 : decode cX1_fits 61 = .ok (.iload 4, 2) := by decide +kernel
theorem dX1_fits_63 : decode cX1_fits 63 = .ok (.goto 5, 3) := by decide +kernel
theorem dX1_fits_66 : decode cX1_fits 66 = .ok (.iload 5, 2) := by decide +kernel
theorem dX1_fits_68 : decode cX1_fits 68 = .ok (.if_icmp .ne 7, 3) := by decide +kernel
theorem dX1_fits_71 : decode cX1_fits 71 = .ok (.iconst 1, 1) := by decide +kernel
theorem dX1_fits_72 : decode cX1_fits 72 = .ok (.goto 4, 3) := by decide +kernel
theorem dX1_fits_75 : decode cX1_fits 75 = .ok (.iconst 0, 1) := by decide +kernel
theorem dX1_fits_76 : decode cX1_fits 76 = .ok (.ireturn, 1) := by decide +kernel
theorem dX1_fits_77 : decode cX1_fits 77 = .ok (.iload 6, 2) := by decide +kernel
theorem dX1_fits_79 : decode cX1_fits 79 = .ok (.iload_n 1, 1) := by decide +kernel
theorem dX1_fits_80 : decode cX1_fits 80 = .ok (.iload_n 2, 1) := by decide +kernel
theorem dX1_fits_81 : decode cX1_fits 81 = .ok (.iadd, 1) := by decide +kernel
theorem dX1_fits_82 : decode cX1_fits 82 = .ok (.iconst 2, 1) := by decide +kernel
theorem dX1_fits_83 : decode cX1_fits 83 = .ok (.irem, 1) := by decide +kernel
theorem dX1_fits_84 : decode cX1_fits 84 = .ok (.ifCond .ne 8, 3) := by decide +kernel
theorem dX1_fits_87 : decode cX1_fits 87 = .ok (.iload 4, 2) := by decide +kernel
theorem dX1_fits_89 : decode cX1_fits 89 = .ok (.goto 5, 3) := by decide +kernel
theorem dX1_fits_92 : decode cX1_fits 92 = .ok (.iload 5, 2) := by decide +kernel
theorem dX1_fits_94 : decode cX1_fits 94 = .ok (.if_icmp .ne 7, 3) := by decide +kernel
theorem dX1_fits_97 : decode cX1_fits 97 = .ok (.iconst 1, 1) := by decide +kernel
theorem dX1_fits_98 : decode cX1_fits 98 = .ok (.goto 4, 3) := by decide +kernel
theorem dX1_fits_101 : decode cX1_fits 101 = .ok (.iconst 0, 1) := by decide +kernel
theorem dX1_fits_102 : decode cX1_fits 102 = .ok (.ireturn, 1) := by decide +kernel
theorem dX1_fits_103 : decode cX1_fits 103 = .ok (.iload 6, 2) := by decide +kernel
theorem dX1_fits_105 : decode cX1_fits 105 = .ok (.aload_n 0, 1) := by decide +kernel
theorem dX1_fits_106 : decode cX1_fits 106 = .ok (.bipush 9, 2) := by decide +kernel
theorem dX1_fits_108 : decode cX1_fits 108 = .ok (.iload_n 1, 1) := by decide +kernel
theorem dX1_fits_109 : decode cX1_fits 109 = .ok (.isub, 1) := by decide +kernel
theorem dX1_fits_110 : decode cX1_fits 110 = .ok (.iload_n 2, 1) := by decide +kernel
theorem dX1_fits_111 : decode cX1_fits 111 = .ok (.invokestatic 49, 3) := by decide +kernel
theorem dX1_fits_114 : decode cX1_fits 114 = .ok (.invokevirtual 217, 3) := by decide +kernel
theorem dX1_fits_117 : decode cX1_fits 117 = .ok (.if_icmp .ne 7, 3) := by decide +kernel
theorem dX1_fits_120 : decode cX1_fits 120 = .ok (.iconst 1, 1) := by decide +kernel
theorem dX1_fits_121 : decode cX1_fits 121 = .ok (.goto 4, 3) := by decide +kernel
theorem dX1_fits_124 : decode cX1_fits 124 = .ok (.iconst 0, 1) := by decide +kernel
theorem dX1_fits_125 : decode cX1_fits 125 = .ok (.ireturn, 1) := by decide +kernel
set_option maxRecDepth 20000 in
theorem ggX1_cellsOff_X1_fits : GoodIn wsX1_cellsOff wsX1_fits := goodIn_r _ [5, 6, 7, 4, 8, 9, 10, 11, 12, 13, 14, 15, 16, 17, 18, 19, 20, 21, 22, 23, 24, 25, 26, 27, 28, 29, 30, 31, 32, 33, 34, 35, 36, 37, 38, 39, 40, 41, 42, 43, 44, 45, 46, 47, 48, 49, 50] (by decide +kernel) (by decide +kernel)
set_option maxRecDepth 20000 in
theorem gX1_cellsOff_X1_fits : GoodIn wsX1_cellsOff (wsV RX1 229 RX1 yX1_fits wsX1_fits) := goodIn_app (goodIn_of _ (by decide +kernel)) ggX1_cellsOff_X1_fits
theorem dX1_cellsOff_0 : decode cX1_cellsOff 0 = .ok (.iconst 0, 1) := by decide +kernel
theorem dX1_cellsOff_1 : decode cX1_cellsOff 1 = .ok (.istore 4, 2) := by decide +kernel
theorem dX1_cellsOff_3 : decode cX1_cellsOff 3 = .ok (.iconst 0, 1) := by decide +kernel
theorem dX1_cellsOff_4 : decode cX1_cellsOff 4 = .ok (.istore 5, 2) := by decide +kernel
theorem dX1_cellsOff_6 : decode cX1_cellsOff 6 = .ok (.iload 5, 2) := by decide +kernel
theorem dX1_cellsOff_8 : decode cX1_cellsOff 8 = .ok (.bipush 8, 2) := by decide +kernel
theorem dX1_cellsOff_10 : decode cX1_cellsOff 10 = .ok (.if_icmp .ge 42, 3) := by decide +kernel
theorem dX1_cellsOff_13 : decode cX1_cellsOff 13 = .ok (.iconst 0, 1) := by decide +kernel
theorem dX1_cellsOff_14 : decode cX1_cellsOff 14 = .ok (.istore 6, 2) := by decide +kernel
theorem dX1_cellsOff_16 : decode cX1_cellsOff 16 = .ok (.iload 6, 2) := by decide +kernel
theorem dX1_cellsOff_18 : decode cX1_cellsOff 18 = .ok (.bipush 10, 2) := by decide +kernel
theorem dX1_cellsOff_20 : decode cX1_cellsOff 20 = .ok (.if_icmp .ge 26, 3) := by decide +kernel
theorem dX1_cellsOff_23 : decode cX1_cellsOff 23 = .ok (.aload_n 0, 1) := by decide +kernel
theorem dX1_cellsOff_24 : decode cX1_cellsOff 24 = .ok (.iload 6, 2) := by decide +kernel
theorem dX1_cellsOff_26 : decode cX1_cellsOff 26 = .ok (.iload 5, 2) := by decide +kernel
theorem dX1_cellsOff_28 : decode cX1_cellsOff 28 = .ok (.iload_n 1, 1) := by decide +kernel
theorem dX1_cellsOff_29 : decode cX1_cellsOff 29 = .ok (.iload_n 2, 1) := by decide +kernel
theorem dX1_cellsOff_30 : decode cX1_cellsOff 30 = .ok (.iload_n 3, 1) := by decide +kernel
theorem dX1_cellsOff_31 : decode cX1_cellsOff 31 = .ok (.invokevirtual 229, 3) := by decide +kernel
theorem dX1_cellsOff_34 : decode cX1_cellsOff 34 = .ok (.ifCond .ne 6, 3) := by decide +kernel
theorem dX1_cellsOff_37 : decode cX1_cellsOff 37 = .ok (.iinc 4 1, 3) := by decide +kernel
theorem dX1_cellsOff_40 : decode cX1_cellsOff 40 = .ok (.iinc 6 1, 3) := by decide +kernel
theorem dX1_cellsOff_43 : decode cX1_cellsOff 43 = .ok (.goto (-27), 3) := by decide +kernel
theorem dX1_cellsOff_46 : decode cX1_cellsOff 46 = .ok (.iinc 5 1, 3) := by decide +kernel
theorem dX1_cellsOff_49 : decode cX1_cellsOff 49 = .ok (.goto (-43), 3) := by decide +kernel
theorem dX1_cellsOff_52 : decode cX1_cellsOff 52 = .ok (.iload 4, 2) := by decide +kernel
theorem dX1_cellsOff_54 : decode cX1_cellsOff 54 = .ok (.ireturn, 1) := by decide +kernel
set_option maxRecDepth 20000 in
theorem ggX1_cellsOffFlipped_X1_cellsOff : GoodIn wsX1_cellsOffFlipped wsX1_cellsOff := goodIn_r _ [6, 7, 8, 9, 5, 10, 11, 12, 13, 14, 15, 16, 17, 18, 19, 20, 21, 22, 23, 24, 25, 26, 27, 28, 29, 30, 31, 32, 33, 34, 35, 36, 37, 38, 47, 48, 49, 50, 51, 52, 53, 54, 55, 39, 40, 41, 42, 43, 44, 45, 46] (by decide +kernel) (by decide +kernel)
set_option maxRecDepth 20000 in
theorem gX1_cellsOffFlipped_X1_cellsOff : GoodIn wsX1_cellsOffFlipped (wsV RX1 161 RX1 yX1_cellsOff wsX1_cellsOff) := goodIn_app (goodIn_of _ (by decide +kernel)) ggX1_cellsOffFlipped_X1_cellsOff
theorem dX1_cellsOffFlipped_0 : decode cX1_cellsOffFlipped 0 = .ok (.aload_n 1, 1) := by decide +kernel
theorem dX1_cellsOffFlipped_1 : decode cX1_cellsOffFlipped 1 = .ok (.aload_n 1, 1) := by decide +kernel
theorem dX1_cellsOffFlipped_2 : decode cX1_cellsOffFlipped 2 = .ok (.getfield 106, 3) := by decide +kernel
theorem dX1_cellsOffFlipped_5 : decode cX1_cellsOffFlipped 5 = .ok (.ifCond .ne 7, 3) := by decide +kernel
theorem dX1_cellsOffFlipped_8 : decode cX1_cellsOffFlipped 8 = .ok (.iconst 1, 1) := by decide +kernel
theorem dX1_cellsOffFlipped_9 : decode cX1_cellsOffFlipped 9 = .ok (.goto 4, 3) := by decide +kernel
theorem dX1_cellsOffFlipped_12 : decode cX1_cellsOffFlipped 12 = .ok (.iconst 0, 1) := by decide +kernel
theorem dX1_cellsOffFlipped_13 : decode cX1_cellsOffFlipped 13 = .ok (.putfield 106, 3) := by decide +kernel
theorem dX1_cellsOffFlipped_16 : decode cX1_cellsOffFlipped 16 = .ok (.aload_n 0, 1) := by decide +kernel
theorem dX1_cellsOffFlipped_17 : decode cX1_cellsOffFlipped 17 = .ok (.iload_n 2, 1) := by decide +kernel
theorem dX1_cellsOffFlipped_18 : decode cX1_cellsOffFlipped 18 = .ok (.iload_n 3, 1) := by decide +kernel
theorem dX1_cellsOffFlipped_19 : decode cX1_cellsOffFlipped 19 = .ok (.iload 4, 2) := by decide +kernel
theorem dX1_cellsOffFlipped_21 : decode cX1_cellsOffFlipped 21 = .ok (.invokevirtual 161, 3) := by decide +kernel
theorem dX1_cellsOffFlipped_24 : decode cX1_cellsOffFlipped 24 = .ok (.istore 5, 2) := by decide +kernel
theorem dX1_cellsOffFlipped_26 : decode cX1_cellsOffFlipped 26 = .ok (.aload_n 1, 1) := by decide +kernel
theorem dX1_cellsOffFlipped_27 : decode cX1_cellsOffFlipped 27 = .ok (.aload_n 1, 1) := by decide +kernel
theorem dX1_cellsOffFlipped_28 : decode cX1_cellsOffFlipped 28 = .ok (.getfield 106, 3) := by decide +kernel
theorem dX1_cellsOffFlipped_31 : decode cX1_cellsOffFlipped 31 = .ok (.ifCond .ne 7, 3) := by decide +kernel
theorem dX1_cellsOffFlipped_34 : decode cX1_cellsOffFlipped 34 = .ok (.iconst 1, 1) := by decide +kernel
theorem dX1_cellsOffFlipped_35 : decode cX1_cellsOffFlipped 35 = .ok (.goto 4, 3) := by decide +kernel
theorem dX1_cellsOffFlipped_38 : decode cX1_cellsOffFlipped 38 = .ok (.iconst 0, 1) := by decide +kernel
theorem dX1_cellsOffFlipped_39 : decode cX1_cellsOffFlipped 39 = .ok (.putfield 106, 3) := by decide +kernel
theorem dX1_cellsOffFlipped_42 : decode cX1_cellsOffFlipped 42 = .ok (.iload 5, 2) := by decide +kernel
theorem dX1_cellsOffFlipped_44 : decode cX1_cellsOffFlipped 44 = .ok (.ireturn, 1) := by decide +kernel
theorem dX1_clearMarks_0 : decode cX1_clearMarks 0 = .ok (.iconst 0, 1) := by decide +kernel
theorem dX1_clearMarks_1 : decode cX1_clearMarks 1 = .ok (.istore_n 1, 1) := by decide +kernel
theorem dX1_clearMarks_2 : decode cX1_clearMarks 2 = .ok (.iload_n 1, 1) := by decide +kernel
theorem dX1_clearMarks_3 : decode cX1_clearMarks 3 = .ok (.bipush 80, 2) := by decide +kernel
theorem dX1_clearMarks_5 : decode cX1_clearMarks 5 = .ok (.if_icmp .ge 16, 3) := by decide +kernel
theorem dX1_clearMarks_8 : decode cX1_clearMarks 8 = .ok (.aload_n 0, 1) := by decide +kernel
theorem dX1_clearMarks_9 : decode cX1_clearMarks 9 = .ok (.getfield 28, 3) := by decide +kernel
theorem dX1_clearMarks_12 : decode cX1_clearMarks 12 = .ok (.iload_n 1, 1) := by decide +kernel
theorem dX1_clearMarks_13 : decode cX1_clearMarks 13 = .ok (.iconst 0, 1) := by decide +kernel
theorem dX1_clearMarks_14 : decode cX1_clearMarks 14 = .ok (.iastore, 1) := by decide +kernel
theorem dX1_clearMarks_15 : decode cX1_clearMarks 15 = .ok (.iinc 1 1, 3) := by decide +kernel
theorem dX1_clearMarks_18 : decode cX1_clearMarks 18 = .ok (.goto (-16), 3) := by decide +kernel
theorem dX1_clearMarks_21 : decode cX1_clearMarks 21 = .ok (.return_, 1) := by decide +kernel
set_option maxRecDepth 20000 in
theorem ggX1_gaps_X1_clearMarks : GoodIn wsX1_gaps wsX1_clearMarks := goodIn_r _ [5, 6, 32, 33, 34, 35, 36, 37, 38, 39, 40] (by decide +kernel) (by decide +kernel)
set_option maxRecDepth 20000 in
theorem gX1_gaps_X1_clearMarks : GoodIn wsX1_gaps (wsV RX1 169 RX1 yX1_clearMarks wsX1_clearMarks) := goodIn_app (goodIn_of _ (by decide +kernel)) ggX1_gaps_X1_clearMarks
set_option maxRecDepth 20000 in
theorem ggX1_gaps_X1_markGap : GoodIn wsX1_gaps wsX1_markGap := goodIn_r _ [10, 11, 12, 13, 14, 4, 15, 16, 6, 17, 18, 19, 20, 21, 22, 23, 24, 25, 26, 27, 28, 29, 30, 31, 32, 33, 34, 35, 36, 37, 38, 39, 40] (by decide +kernel) (by decide +kernel)
set_option maxRecDepth 20000 in
theorem gX1_gaps_X1_markGap : GoodIn wsX1_gaps (wsV RX1 172 RX1 yX1_markGap wsX1_markGap) := goodIn_app (goodIn_of _ (by decide +kernel)) ggX1_gaps_X1_markGap
theorem dX1_gaps_0 : decode cX1_gaps 0 = .ok (.aload_n 0, 1) := by decide +kernel
theorem dX1_gaps_1 : decode cX1_gaps 1 = .ok (.invokevirtual 169, 3) := by decide +kernel
theorem dX1_gaps_4 : decode cX1_gaps 4 = .ok (.iconst 0, 1) := by decide +kernel
theorem dX1_gaps_5 : decode cX1_gaps 5 = .ok (.istore_n 1, 1) := by decide +kernel
theorem dX1_gaps_6 : decode cX1_gaps 6 = .ok (.iconst 0, 1) := by decide +kernel
theorem dX1_gaps_7 : decode cX1_gaps 7 = .ok (.istore_n 2, 1) := by decide +kernel
theorem dX1_gaps_8 : decode cX1_gaps 8 = .ok (.iload_n 2, 1) := by decide +kernel
theorem dX1_gaps_9 : decode cX1_gaps 9 = .ok (.bipush 8, 2) := by decide +kernel
theorem dX1_gaps_11 : decode cX1_gaps 11 = .ok (.if_icmp .ge 35, 3) := by decide +kernel
theorem dX1_gaps_14 : decode cX1_gaps 14 = .ok (.iconst 0, 1) := by decide +kernel
theorem dX1_gaps_15 : decode cX1_gaps 15 = .ok (.istore_n 3, 1) := by decide +kernel
theorem dX1_gaps_16 : decode cX1_gaps 16 = .ok (.iload_n 3, 1) := by decide +kernel
theorem dX1_gaps_17 : decode cX1_gaps 17 = .ok (.bipush 10, 2) := by decide +kernel
theorem dX1_gaps_19 : decode cX1_gaps 19 = .ok (.if_icmp .ge 21, 3) := by decide +kernel
theorem dX1_gaps_22 : decode cX1_gaps 22 = .ok (.aload_n 0, 1) := by decide +kernel
theorem dX1_gaps_23 : decode cX1_gaps 23 = .ok (.iload_n 3, 1) := by decide +kernel
theorem dX1_gaps_24 : decode cX1_gaps 24 = .ok (.iload_n 2, 1) := by decide +kernel
theorem dX1_gaps_25 : decode cX1_gaps 25 = .ok (.invokevirtual 172, 3) := by decide +kernel
theorem dX1_gaps_28 : decode cX1_gaps 28 = .ok (.ifCond .le 6, 3) := by decide +kernel
theorem dX1_gaps_31 : decode cX1_gaps 31 = .ok (.iinc 1 1, 3) := by decide +kernel
theorem dX1_gaps_34 : decode cX1_gaps 34 = .ok (.iinc 3 1, 3) := by decide +kernel
theorem dX1_gaps_37 : decode cX1_gaps 37 = .ok (.goto (-21), 3) := by decide +kernel
theorem dX1_gaps_40 : decode cX1_gaps 40 = .ok (.iinc 2 1, 3) := by decide +kernel
theorem dX1_gaps_43 : decode cX1_gaps 43 = .ok (.goto (-35), 3) := by decide +kernel
theorem dX1_gaps_46 : decode cX1_gaps 46 = .ok (.iload_n 1, 1) := by decide +kernel
theorem dX1_gaps_47 : decode cX1_gaps 47 = .ok (.ireturn, 1) := by decide +kernel
set_option maxRecDepth 20000 in
theorem ggX1_markGap_X1_reach : GoodIn wsX1_markGap wsX1_reach := goodIn_r _ [6, 7, 8, 1, 9, 10, 5, 11, 12, 13, 14, 15, 16, 17, 18, 19, 20, 21, 22, 23, 24, 25, 26, 27, 28, 29, 30, 31, 32] (by decide +kernel) (by decide +kernel)
set_option maxRecDepth 20000 in
theorem gX1_markGap_X1_reach : GoodIn wsX1_markGap (wsV RX1 233 RX1 yX1_reach wsX1_reach) := goodIn_app (goodIn_of _ (by decide +kernel)) ggX1_markGap_X1_reach
theorem dX1_markGap_0 : decode cX1_markGap 0 = .ok (.aload_n 0, 1) := by decide +kernel
theorem dX1_markGap_1 : decode cX1_markGap 1 = .ok (.iload_n 1, 1) := by decide +kernel
theorem dX1_markGap_2 : decode cX1_markGap 2 = .ok (.iload_n 2, 1) := by decide +kernel
theorem dX1_markGap_3 : decode cX1_markGap 3 = .ok (.iconst 0, 1) := by decide +kernel
theorem dX1_markGap_4 : decode cX1_markGap 4 = .ok (.invokevirtual 233, 3) := by decide +kernel
theorem dX1_markGap_7 : decode cX1_markGap 7 = .ok (.istore_n 3, 1) := by decide +kernel
theorem dX1_markGap_8 : decode cX1_markGap 8 = .ok (.iconst 0, 1) := by decide +kernel
theorem dX1_markGap_9 : decode cX1_markGap 9 = .ok (.istore 4, 2) := by decide +kernel
theorem dX1_markGap_11 : decode cX1_markGap 11 = .ok (.iload 4, 2) := by decide +kernel
theorem dX1_markGap_13 : decode cX1_markGap 13 = .ok (.iload_n 3, 1) := by decide +kernel
theorem dX1_markGap_14 : decode cX1_markGap 14 = .ok (.if_icmp .ge 97, 3) := by decide +kernel
theorem dX1_markGap_17 : decode cX1_markGap 17 = .ok (.iload 4, 2) := by decide +kernel
theorem dX1_markGap_19 : decode cX1_markGap 19 = .ok (.bipush 80, 2) := by decide +kernel
theorem dX1_markGap_21 : decode cX1_markGap 21 = .ok (.if_icmp .ge 90, 3) := by decide +kernel
theorem dX1_markGap_24 : decode cX1_markGap 24 = .ok (.aload_n 0, 1) := by decide +kernel
theorem dX1_markGap_25 : decode cX1_markGap 25 = .ok (.getfield 31, 3) := by decide +kernel
theorem dX1_markGap_28 : decode cX1_markGap 28 = .ok (.iload 4, 2) := by decide +kernel
theorem dX1_markGap_30 : decode cX1_markGap 30 = .ok (.iaload, 1) := by decide +kernel
theorem dX1_markGap_31 : decode cX1_markGap 31 = .ok (.istore 5, 2) := by decide +kernel
theorem dX1_markGap_33 : decode cX1_markGap 33 = .ok (.aload_n 0, 1) := by decide +kernel
theorem dX1_markGap_34 : decode cX1_markGap 34 = .ok (.iload 5, 2) := by decide +kernel
theorem dX1_markGap_36 : decode cX1_markGap 36 = .ok (.bipush 10, 2) := by decide +kernel
theorem dX1_markGap_38 : decode cX1_markGap 38 = .ok (.irem, 1) := by decide +kernel
theorem dX1_markGap_39 : decode cX1_markGap 39 = .ok (.iconst 1, 1) := by decide +kernel
theorem dX1_markGap_40 : decode cX1_markGap 40 = .ok (.isub, 1) := by decide +kernel
theorem dX1_markGap_41 : decode cX1_markGap 41 = .ok (.iload 5, 2) := by decide +kernel
theorem dX1_markGap_43 : decode cX1_markGap 43 = .ok (.bipush 10, 2) := by decide +kernel
theorem dX1_markGap_45 : decode cX1_markGap 45 = .ok (.idiv, 1) := by decide +kernel
theorem dX1_markGap_46 : decode cX1_markGap 46 = .ok (.iload_n 3, 1) := by decide +kernel
theorem dX1_markGap_47 : decode cX1_markGap 47 = .ok (.invokevirtual 233, 3) := by decide +kernel
theorem dX1_markGap_50 : decode cX1_markGap 50 = .ok (.istore_n 3, 1) := by decide +kernel
theorem dX1_markGap_51 : decode cX1_markGap 51 = .ok (.aload_n 0, 1) := by decide +kernel
theorem dX1_markGap_52 : decode cX1_markGap 52 = .ok (.iload 5, 2) := by decide +kernel
theorem dX1_markGap_54 : decode cX1_markGap 54 = .ok (.bipush 10, 2) := by decide +kernel
theorem dX1_markGap_56 : decode cX1_markGap 56 = .ok (.irem, 1) := by decide +kernel
theorem dX1_markGap_57 : decode cX1_markGap 57 = .ok (.iconst 1, 1) := by decide +kernel
theorem dX1_markGap_58 : decode cX1_markGap 58 = .ok (.iadd, 1) := by decide +kernel
theorem dX1_markGap_59 : decode cX1_markGap 59 = .ok (.iload 5, 2) := by decide +kernel
theorem dX1_markGap_61 : decode cX1_markGap 61 = .ok (.bipush 10, 2) := by decide +kernel
theorem dX1_markGap_63 : decode cX1_markGap 63 = .ok (.idiv, 1) := by decide +kernel
theorem dX1_markGap_64 : decode cX1_markGap 64 = .ok (.iload_n 3, 1) := by decide +kernel
theorem dX1_markGap_65 : decode cX1_markGap 65 = .ok (.invokevirtual 233, 3) := by decide +kernel
theorem dX1_markGap_68 : decode cX1_markGap 68 = .ok (.istore_n 3, 1) := by decide +kernel
theorem dX1_markGap_69 : decode cX1_markGap 69 = .ok (.aload_n 0, 1) := by decide +kernel
theorem dX1_markGap_70 : decode cX1_markGap 70 = .ok (.iload 5, 2) := by decide +kernel
theorem dX1_markGap_72 : decode cX1_markGap 72 = .ok (.bipush 10, 2) := by decide +kernel
theorem dX1_markGap_74 : decode cX1_markGap 74 = .ok (.irem, 1) := by decide +kernel
theorem dX1_markGap_75 : decode cX1_markGap 75 = .ok (.iload 5, 2) := by decide +kernel
theorem dX1_markGap_77 : decode cX1_markGap 77 = .ok (.bipush 10, 2) := by decide +kernel
theorem dX1_markGap_79 : decode cX1_markGap 79 = .ok (.idiv, 1) := by decide +kernel
theorem dX1_markGap_80 : decode cX1_markGap 80 = .ok (.iconst 1, 1) := by decide +kernel
theorem dX1_markGap_81 : decode cX1_markGap 81 = .ok (.isub, 1) := by decide +kernel
theorem dX1_markGap_82 : decode cX1_markGap 82 = .ok (.iload_n 3, 1) := by decide +kernel
theorem dX1_markGap_83 : decode cX1_markGap 83 = .ok (.invokevirtual 233, 3) := by decide +kernel
theorem dX1_markGap_86 : decode cX1_markGap 86 = .ok (.istore_n 3, 1) := by decide +kernel
theorem dX1_markGap_87 : decode cX1_markGap 87 = .ok (.aload_n 0, 1) := by decide +kernel
theorem dX1_markGap_88 : decode cX1_markGap 88 = .ok (.iload 5, 2) := by decide +kernel
theorem dX1_markGap_90 : decode cX1_markGap 90 = .ok (.bipush 10, 2) := by decide +kernel
theorem dX1_markGap_92 : decode cX1_markGap 92 = .ok (.irem, 1) := by decide +kernel
theorem dX1_markGap_93 : decode cX1_markGap 93 = .ok (.iload 5, 2) := by decide +kernel
theorem dX1_markGap_95 : decode cX1_markGap 95 = .ok (.bipush 10, 2) := by decide +kernel
theorem dX1_markGap_97 : decode cX1_markGap 97 = .ok (.idiv, 1) := by decide +kernel
theorem dX1_markGap_98 : decode cX1_markGap 98 = .ok (.iconst 1, 1) := by decide +kernel
theorem dX1_markGap_99 : decode cX1_markGap 99 = .ok (.iadd, 1) := by decide +kernel
theorem dX1_markGap_100 : decode cX1_markGap 100 = .ok (.iload_n 3, 1) := by decide +kernel
