theorem dX3_advise_69 : decode cX3_advise 69 = .ok (.invokevirtual 145, 3) := by decide +kernel
theorem dX3_advise_72 : decode cX3_advise 72 = .ok (.istore 7, 2) := by decide +kernel
theorem dX3_advise_74 : decode cX3_advise 74 = .ok (.aload_n 0, 1) := by decide +kernel
theorem dX3_advise_75 : decode cX3_advise 75 = .ok (.iload 6, 2) := by decide +kernel
theorem dX3_advise_77 : decode cX3_advise 77 = .ok (.invokevirtual 92, 3) := by decide +kernel
theorem dX3_advise_80 : decode cX3_advise 80 = .ok (.iload 7, 2) := by decide +kernel
theorem dX3_advise_82 : decode cX3_advise 82 = .ok (.iload 4, 2) := by decide +kernel
theorem dX3_advise_84 : decode cX3_advise 84 = .ok (.if_icmp .lt 6, 3) := by decide +kernel
theorem dX3_advise_87 : decode cX3_advise 87 = .ok (.goto 11, 3) := by decide +kernel
theorem dX3_advise_90 : decode cX3_advise 90 = .ok (.iload 7, 2) := by decide +kernel
theorem dX3_advise_92 : decode cX3_advise 92 = .ok (.istore 4, 2) := by decide +kernel
theorem dX3_advise_94 : decode cX3_advise 94 = .ok (.iload 6, 2) := by decide +kernel
theorem dX3_advise_96 : decode cX3_advise 96 = .ok (.istore 5, 2) := by decide +kernel
theorem dX3_advise_98 : decode cX3_advise 98 = .ok (.iinc 6 1, 3) := by decide +kernel
theorem dX3_advise_101 : decode cX3_advise 101 = .ok (.goto (-66), 3) := by decide +kernel
theorem dX3_advise_104 : decode cX3_advise 104 = .ok (.iload 5, 2) := by decide +kernel
theorem dX3_advise_106 : decode cX3_advise 106 = .ok (.ireturn, 1) := by decide +kernel
set_option maxRecDepth 20000 in
theorem ggX3_mends_X3_isCell : GoodIn wsX3_mends wsX3_isCell := goodIn_r _ [7, 8, 9, 6, 10] (by decide +kernel) (by decide +kernel)
set_option maxRecDepth 20000 in
theorem gX3_mends_X3_isCell : GoodIn wsX3_mends (va_wsS RX3 66 yX3_isCell wsX3_isCell) := goodIn_app (goodIn_of _ (by decide +kernel)) ggX3_mends_X3_isCell
set_option maxRecDepth 20000 in
theorem ggX3_mends_X3_no : GoodIn wsX3_mends wsX3_no := goodIn_r _ [14, 1, 27, 28, 29, 30, 31, 32, 33, 34, 35, 36, 37, 38, 39, 40] (by decide +kernel) (by decide +kernel)
set_option maxRecDepth 20000 in
theorem gX3_mends_X3_no : GoodIn wsX3_mends (wsV RX3 70 RX3 yX3_no wsX3_no) := goodIn_app (goodIn_of _ (by decide +kernel)) ggX3_mends_X3_no
set_option maxRecDepth 20000 in
theorem ggX3_mends_X3_clear : GoodIn wsX3_mends wsX3_clear := goodIn_r _ [18, 3, 27, 28, 29, 30, 31, 32, 33, 34, 35, 36, 37, 38, 39, 40] (by decide +kernel) (by decide +kernel)
set_option maxRecDepth 20000 in
theorem gX3_mends_X3_clear : GoodIn wsX3_mends (wsV RX3 113 RX3 yX3_clear wsX3_clear) := goodIn_app (goodIn_of _ (by decide +kernel)) ggX3_mends_X3_clear
set_option maxRecDepth 20000 in
theorem ggX3_mends_X3_fill : GoodIn wsX3_mends wsX3_fill := goodIn_r _ [22, 3, 23, 2, 24, 25, 6, 26, 4, 5, 7, 8, 9, 10, 27, 28, 29, 30, 31, 32, 33, 34, 35, 36, 37, 38, 39, 40] (by decide +kernel) (by decide +kernel)
set_option maxRecDepth 20000 in
theorem gX3_mends_X3_fill : GoodIn wsX3_mends (wsV RX3 116 RX3 yX3_fill wsX3_fill) := goodIn_app (goodIn_of _ (by decide +kernel)) ggX3_mends_X3_fill
theorem dX3_mends_0 : decode cX3_mends 0 = .ok (.aload_n 0, 1) := by decide +kernel
theorem dX3_mends_1 : decode cX3_mends 1 = .ok (.iconst 0, 1) := by decide +kernel
theorem dX3_mends_2 : decode cX3_mends 2 = .ok (.putfield 55, 3) := by decide +kernel
theorem dX3_mends_5 : decode cX3_mends 5 = .ok (.iload_n 1, 1) := by decide +kernel
theorem dX3_mends_6 : decode cX3_mends 6 = .ok (.iload_n 2, 1) := by decide +kernel
theorem dX3_mends_7 : decode cX3_mends 7 = .ok (.invokestatic 66, 3) := by decide +kernel
theorem dX3_mends_10 : decode cX3_mends 10 = .ok (.ifCond .ne 9, 3) := by decide +kernel
theorem dX3_mends_13 : decode cX3_mends 13 = .ok (.aload_n 0, 1) := by decide +kernel
theorem dX3_mends_14 : decode cX3_mends 14 = .ok (.iconst 1, 1) := by decide +kernel
theorem dX3_mends_15 : decode cX3_mends 15 = .ok (.invokevirtual 70, 3) := by decide +kernel
theorem dX3_mends_18 : decode cX3_mends 18 = .ok (.ireturn, 1) := by decide +kernel
theorem dX3_mends_19 : decode cX3_mends 19 = .ok (.aload_n 0, 1) := by decide +kernel
theorem dX3_mends_20 : decode cX3_mends 20 = .ok (.getfield 28, 3) := by decide +kernel
theorem dX3_mends_23 : decode cX3_mends 23 = .ok (.bipush 10, 2) := by decide +kernel
theorem dX3_mends_25 : decode cX3_mends 25 = .ok (.iload_n 2, 1) := by decide +kernel
theorem dX3_mends_26 : decode cX3_mends 26 = .ok (.imul, 1) := by decide +kernel
theorem dX3_mends_27 : decode cX3_mends 27 = .ok (.iload_n 1, 1) := by decide +kernel
theorem dX3_mends_28 : decode cX3_mends 28 = .ok (.iadd, 1) := by decide +kernel
theorem dX3_mends_29 : decode cX3_mends 29 = .ok (.iaload, 1) := by decide +kernel
theorem dX3_mends_30 : decode cX3_mends 30 = .ok (.iconst (-1), 1) := by decide +kernel
theorem dX3_mends_31 : decode cX3_mends 31 = .ok (.if_icmp .eq 5, 3) := by decide +kernel
theorem dX3_mends_34 : decode cX3_mends 34 = .ok (.iconst 0, 1) := by decide +kernel
theorem dX3_mends_35 : decode cX3_mends 35 = .ok (.ireturn, 1) := by decide +kernel
theorem dX3_mends_36 : decode cX3_mends 36 = .ok (.aload_n 0, 1) := by decide +kernel
theorem dX3_mends_37 : decode cX3_mends 37 = .ok (.invokevirtual 113, 3) := by decide +kernel
theorem dX3_mends_40 : decode cX3_mends 40 = .ok (.aload_n 0, 1) := by decide +kernel
theorem dX3_mends_41 : decode cX3_mends 41 = .ok (.bipush 10, 2) := by decide +kernel
theorem dX3_mends_43 : decode cX3_mends 43 = .ok (.iload_n 2, 1) := by decide +kernel
theorem dX3_mends_44 : decode cX3_mends 44 = .ok (.imul, 1) := by decide +kernel
theorem dX3_mends_45 : decode cX3_mends 45 = .ok (.iload_n 1, 1) := by decide +kernel
theorem dX3_mends_46 : decode cX3_mends 46 = .ok (.iadd, 1) := by decide +kernel
theorem dX3_mends_47 : decode cX3_mends 47 = .ok (.invokevirtual 116, 3) := by decide +kernel
theorem dX3_mends_50 : decode cX3_mends 50 = .ok (.pop, 1) := by decide +kernel
theorem dX3_mends_51 : decode cX3_mends 51 = .ok (.iconst 0, 1) := by decide +kernel
theorem dX3_mends_52 : decode cX3_mends 52 = .ok (.istore 4, 2) := by decide +kernel
theorem dX3_mends_54 : decode cX3_mends 54 = .ok (.iload_n 3, 1) := by decide +kernel
theorem dX3_mends_55 : decode cX3_mends 55 = .ok (.ifCond .eq 8, 3) := by decide +kernel
theorem dX3_mends_58 : decode cX3_mends 58 = .ok (.bipush 8, 2) := by decide +kernel
theorem dX3_mends_60 : decode cX3_mends 60 = .ok (.goto 5, 3) := by decide +kernel
theorem dX3_mends_63 : decode cX3_mends 63 = .ok (.bipush 10, 2) := by decide +kernel
theorem dX3_mends_65 : decode cX3_mends 65 = .ok (.istore 5, 2) := by decide +kernel
theorem dX3_mends_67 : decode cX3_mends 67 = .ok (.bipush 80, 2) := by decide +kernel
theorem dX3_mends_69 : decode cX3_mends 69 = .ok (.iload 5, 2) := by decide +kernel
theorem dX3_mends_71 : decode cX3_mends 71 = .ok (.idiv, 1) := by decide +kernel
theorem dX3_mends_72 : decode cX3_mends 72 = .ok (.istore 6, 2) := by decide +kernel
theorem dX3_mends_74 : decode cX3_mends 74 = .ok (.iconst 0, 1) := by decide +kernel
theorem dX3_mends_75 : decode cX3_mends 75 = .ok (.istore 7, 2) := by decide +kernel
theorem dX3_mends_77 : decode cX3_mends 77 = .ok (.iload 7, 2) := by decide +kernel
theorem dX3_mends_79 : decode cX3_mends 79 = .ok (.iload 5, 2) := by decide +kernel
theorem dX3_mends_81 : decode cX3_mends 81 = .ok (.if_icmp .ge 85, 3) := by decide +kernel
theorem dX3_mends_84 : decode cX3_mends 84 = .ok (.iconst 0, 1) := by decide +kernel
theorem dX3_mends_85 : decode cX3_mends 85 = .ok (.istore 8, 2) := by decide +kernel
theorem dX3_mends_87 : decode cX3_mends 87 = .ok (.iconst 0, 1) := by decide +kernel
theorem dX3_mends_88 : decode cX3_mends 88 = .ok (.istore 9, 2) := by decide +kernel
theorem dX3_mends_90 : decode cX3_mends 90 = .ok (.iload 9, 2) := by decide +kernel
theorem dX3_mends_92 : decode cX3_mends 92 = .ok (.iload 6, 2) := by decide +kernel
theorem dX3_mends_94 : decode cX3_mends 94 = .ok (.if_icmp .ge 66, 3) := by decide +kernel
theorem dX3_mends_97 : decode cX3_mends 97 = .ok (.iload_n 3, 1) := by decide +kernel
theorem dX3_mends_98 : decode cX3_mends 98 = .ok (.ifCond .eq 14, 3) := by decide +kernel
theorem dX3_mends_101 : decode cX3_mends 101 = .ok (.bipush 10, 2) := by decide +kernel
theorem dX3_mends_103 : decode cX3_mends 103 = .ok (.iload 7, 2) := by decide +kernel
theorem dX3_mends_105 : decode cX3_mends 105 = .ok (.imul, 1) := by decide +kernel
theorem dX3_mends_106 : decode cX3_mends 106 = .ok (.iload 9, 2) := by decide +kernel
theorem dX3_mends_108 : decode cX3_mends 108 = .ok (.iadd, 1) := by decide +kernel
theorem dX3_mends_109 : decode cX3_mends 109 = .ok (.goto 11, 3) := by decide +kernel
theorem dX3_mends_112 : decode cX3_mends 112 = .ok (.bipush 10, 2) := by decide +kernel
theorem dX3_mends_114 : decode cX3_mends 114 = .ok (.iload 9, 2) := by decide +kernel
theorem dX3_mends_116 : decode cX3_mends 116 = .ok (.imul, 1) := by decide +kernel
theorem dX3_mends_117 : decode cX3_mends 117 = .ok (.iload 7, 2) := by decide +kernel
theorem dX3_mends_119 : decode cX3_mends 119 = .ok (.iadd, 1) := by decide +kernel
theorem dX3_mends_120 : decode cX3_mends 120 = .ok (.istore 10, 2) := by decide +kernel
theorem dX3_mends_122 : decode cX3_mends 122 = .ok (.aload_n 0, 1) := by decide +kernel
theorem dX3_mends_123 : decode cX3_mends 123 = .ok (.getfield 37, 3) := by decide +kernel
theorem dX3_mends_126 : decode cX3_mends 126 = .ok (.iload 10, 2) := by decide +kernel
theorem dX3_mends_128 : decode cX3_mends 128 = .ok (.iaload, 1) := by decide +kernel
theorem dX3_mends_129 : decode cX3_mends 129 = .ok (.iconst 1, 1) := by decide +kernel
theorem dX3_mends_130 : decode cX3_mends 130 = .ok (.if_icmp .ne 10, 3) := by decide +kernel
theorem dX3_mends_133 : decode cX3_mends 133 = .ok (.iload 8, 2) := by decide +kernel
theorem dX3_mends_135 : decode cX3_mends 135 = .ok (.iconst 1, 1) := by decide +kernel
theorem dX3_mends_136 : decode cX3_mends 136 = .ok (.iadd, 1) := by decide +kernel
theorem dX3_mends_137 : decode cX3_mends 137 = .ok (.goto 4, 3) := by decide +kernel
theorem dX3_mends_140 : decode cX3_mends 140 = .ok (.iconst 0, 1) := by decide +kernel
theorem dX3_mends_141 : decode cX3_mends 141 = .ok (.istore 8, 2) := by decide +kernel
theorem dX3_mends_143 : decode cX3_mends 143 = .ok (.iload 8, 2) := by decide +kernel
theorem dX3_mends_145 : decode cX3_mends 145 = .ok (.iconst 3, 1) := by decide +kernel
theorem dX3_mends_146 : decode cX3_mends 146 = .ok (.irem, 1) := by decide +kernel
theorem dX3_mends_147 : decode cX3_mends 147 = .ok (.iconst 1, 1) := by decide +kernel
theorem dX3_mends_148 : decode cX3_mends 148 = .ok (.if_icmp .ne 6, 3) := by decide +kernel
theorem dX3_mends_151 : decode cX3_mends 151 = .ok (.iinc 4 1, 3) := by decide +kernel
theorem dX3_mends_154 : decode cX3_mends 154 = .ok (.iinc 9 1, 3) := by decide +kernel
theorem dX3_mends_157 : decode cX3_mends 157 = .ok (.goto (-67), 3) := by decide +kernel
theorem dX3_mends_160 : decode cX3_mends 160 = .ok (.iinc 7 1, 3) := by decide +kernel
theorem dX3_mends_163 : decode cX3_mends 163 = .ok (.goto (-86), 3) := by decide +kernel
theorem dX3_mends_166 : decode cX3_mends 166 = .ok (.iload 4, 2) := by decide +kernel
theorem dX3_mends_168 : decode cX3_mends 168 = .ok (.ireturn, 1) := by decide +kernel
set_option maxRecDepth 20000 in
theorem ggX3_gap_X3_isCell : GoodIn wsX3_gap wsX3_isCell := goodIn_r _ [6, 7, 8, 5, 9] (by decide +kernel) (by decide +kernel)
set_option maxRecDepth 20000 in
theorem gX3_gap_X3_isCell : GoodIn wsX3_gap (va_wsS RX3 66 yX3_isCell wsX3_isCell) := goodIn_app (goodIn_of _ (by decide +kernel)) ggX3_gap_X3_isCell
set_option maxRecDepth 20000 in
theorem ggX3_gap_X3_no : GoodIn wsX3_gap wsX3_no := goodIn_r _ [13, 1, 27, 28, 29, 30, 31, 32, 33, 34, 35, 36, 37, 38, 39, 40] (by decide +kernel) (by decide +kernel)
set_option maxRecDepth 20000 in
theorem gX3_gap_X3_no : GoodIn wsX3_gap (wsV RX3 70 RX3 yX3_no wsX3_no) := goodIn_app (goodIn_of _ (by decide +kernel)) ggX3_gap_X3_no
set_option maxRecDepth 20000 in
theorem ggX3_gap_X3_clear : GoodIn wsX3_gap wsX3_clear := goodIn_r _ [17, 18, 27, 28, 29, 30, 31, 32, 33, 34, 35, 36, 37, 38, 39, 40] (by decide +kernel) (by decide +kernel)
set_option maxRecDepth 20000 in
theorem gX3_gap_X3_clear : GoodIn wsX3_gap (wsV RX3 113 RX3 yX3_clear wsX3_clear) := goodIn_app (goodIn_of _ (by decide +kernel)) ggX3_gap_X3_clear
set_option maxRecDepth 20000 in
theorem ggX3_gap_X3_fill : GoodIn wsX3_gap wsX3_fill := goodIn_r _ [22, 18, 23, 2, 24, 25, 5, 26, 3, 4, 6, 7, 8, 9, 27, 28, 29, 30, 31, 32, 33, 34, 35, 36, 37, 38, 39, 40] (by decide +kernel) (by decide +kernel)
set_option maxRecDepth 20000 in
theorem gX3_gap_X3_fill : GoodIn wsX3_gap (wsV RX3 116 RX3 yX3_fill wsX3_fill) := goodIn_app (goodIn_of _ (by decide +kernel)) ggX3_gap_X3_fill
theorem dX3_gap_0 : decode cX3_gap 0 = .ok (.aload_n 0, 1) := by decide +kernel
theorem dX3_gap_1 : decode cX3_gap 1 = .ok (.iconst 0, 1) := by decide +kernel
theorem dX3_gap_2 : decode cX3_gap 2 = .ok (.putfield 55, 3) := by decide +kernel
theorem dX3_gap_5 : decode cX3_gap 5 = .ok (.iload_n 1, 1) := by decide +kernel
theorem dX3_gap_6 : decode cX3_gap 6 = .ok (.iload_n 2, 1) := by decide +kernel
theorem dX3_gap_7 : decode cX3_gap 7 = .ok (.invokestatic 66, 3) := by decide +kernel
theorem dX3_gap_10 : decode cX3_gap 10 = .ok (.ifCond .ne 9, 3) := by decide +kernel
theorem dX3_gap_13 : decode cX3_gap 13 = .ok (.aload_n 0, 1) := by decide +kernel
theorem dX3_gap_14 : decode cX3_gap 14 = .ok (.iconst 1, 1) := by decide +kernel
theorem dX3_gap_15 : decode cX3_gap 15 = .ok (.invokevirtual 70, 3) := by decide +kernel
theorem dX3_gap_18 : decode cX3_gap 18 = .ok (.ireturn, 1) := by decide +kernel
theorem dX3_gap_19 : decode cX3_gap 19 = .ok (.aload_n 0, 1) := by decide +kernel
theorem dX3_gap_20 : decode cX3_gap 20 = .ok (.getfield 28, 3) := by decide +kernel
theorem dX3_gap_23 : decode cX3_gap 23 = .ok (.bipush 10, 2) := by decide +kernel
theorem dX3_gap_25 : decode cX3_gap 25 = .ok (.iload_n 2, 1) := by decide +kernel
theorem dX3_gap_26 : decode cX3_gap 26 = .ok (.imul, 1) := by decide +kernel
theorem dX3_gap_27 : decode cX3_gap 27 = .ok (.iload_n 1, 1) := by decide +kernel
theorem dX3_gap_28 : decode cX3_gap 28 = .ok (.iadd, 1) := by decide +kernel
theorem dX3_gap_29 : decode cX3_gap 29 = .ok (.iaload, 1) := by decide +kernel
theorem dX3_gap_30 : decode cX3_gap 30 = .ok (.iconst (-1), 1) := by decide +kernel
theorem dX3_gap_31 : decode cX3_gap 31 = .ok (.if_icmp .eq 5, 3) := by decide +kernel
theorem dX3_gap_34 : decode cX3_gap 34 = .ok (.iconst 0, 1) := by decide +kernel
theorem dX3_gap_35 : decode cX3_gap 35 = .ok (.ireturn, 1) := by decide +kernel
theorem dX3_gap_36 : decode cX3_gap 36 = .ok (.aload_n 0, 1) := by decide +kernel
theorem dX3_gap_37 : decode cX3_gap 37 = .ok (.invokevirtual 113, 3) := by decide +kernel
theorem dX3_gap_40 : decode cX3_gap 40 = .ok (.aload_n 0, 1) := by decide +kernel
theorem dX3_gap_41 : decode cX3_gap 41 = .ok (.bipush 10, 2) := by decide +kernel
theorem dX3_gap_43 : decode cX3_gap 43 = .ok (.iload_n 2, 1) := by decide +kernel
theorem dX3_gap_44 : decode cX3_gap 44 = .ok (.imul, 1) := by decide +kernel
theorem dX3_gap_45 : decode cX3_gap 45 = .ok (.iload_n 1, 1) := by decide +kernel
theorem dX3_gap_46 : decode cX3_gap 46 = .ok (.iadd, 1) := by decide +kernel
theorem dX3_gap_47 : decode cX3_gap 47 = .ok (.invokevirtual 116, 3) := by decide +kernel
theorem dX3_gap_50 : decode cX3_gap 50 = .ok (.ireturn, 1) := by decide +kernel
set_option maxRecDepth 20000 in
theorem ggX3_pass_X3_isIn : GoodIn wsX3_pass wsX3_isIn := goodIn_r _ [6] (by decide +kernel) (by decide +kernel)
set_option maxRecDepth 20000 in
theorem gX3_pass_X3_isIn : GoodIn wsX3_pass (va_wsS RX3 59 yX3_isIn wsX3_isIn) := goodIn_app (goodIn_of _ (by decide +kernel)) ggX3_pass_X3_isIn
set_option maxRecDepth 20000 in
theorem ggX3_pass_X3_no : GoodIn wsX3_pass wsX3_no := goodIn_r _ [10, 1, 32, 33, 34, 35, 36, 37, 38, 39, 40, 41, 42, 43, 44, 45] (by decide +kernel) (by decide +kernel)
set_option maxRecDepth 20000 in
theorem gX3_pass_X3_no : GoodIn wsX3_pass (wsV RX3 70 RX3 yX3_no wsX3_no) := goodIn_app (goodIn_of _ (by decide +kernel)) ggX3_pass_X3_no
set_option maxRecDepth 20000 in
theorem ggX3_pass_X2_pass : GoodIn wsX3_pass wsX2_pass := goodIn_r _ [15, 16, 17, 18, 19, 20, 21, 22, 46, 47, 48, 32, 33, 34, 35, 36, 37, 38, 39, 40, 41, 42, 43, 44, 45] (by decide +kernel) (by decide +kernel)
set_option maxRecDepth 20000 in
theorem gX3_pass_X2_pass : GoodIn wsX3_pass (wsV RX3 149 RX2 yX2_pass wsX2_pass) := goodIn_app (goodIn_of _ (by decide +kernel)) ggX3_pass_X2_pass
set_option maxRecDepth 20000 in
theorem ggX3_pass_X3_looseOnes : GoodIn wsX3_pass wsX3_looseOnes := goodIn_r _ [26, 27, 2, 28, 29, 30, 14, 31, 16, 18, 32, 33, 34, 35, 36, 37, 38, 39, 40, 41, 42, 43, 44, 45, 46, 47, 48] (by decide +kernel) (by decide +kernel)
set_option maxRecDepth 20000 in
theorem gX3_pass_X3_looseOnes : GoodIn wsX3_pass (wsV RX3 122 RX3 yX3_looseOnes wsX3_looseOnes) := goodIn_app (goodIn_of _ (by decide +kernel)) ggX3_pass_X3_looseOnes
theorem dX3_pass_0 : decode cX3_pass 0 = .ok (.aload_n 0, 1) := by decide +kernel
theorem dX3_pass_1 : decode cX3_pass 1 = .ok (.iconst 0, 1) := by decide +kernel
theorem dX3_pass_2 : decode cX3_pass 2 = .ok (.putfield 55, 3) := by decide +kernel
theorem dX3_pass_5 : decode cX3_pass 5 = .ok (.iload_n 1, 1) := by decide +kernel
theorem dX3_pass_6 : decode cX3_pass 6 = .ok (.iconst 1, 1) := by decide +kernel
theorem dX3_pass_7 : decode cX3_pass 7 = .ok (.bipush 100, 2) := by decide +kernel
theorem dX3_pass_9 : decode cX3_pass 9 = .ok (.invokestatic 59, 3) := by decide +kernel
theorem dX3_pass_12 : decode cX3_pass 12 = .ok (.ifCond .ne 9, 3) := by decide +kernel
theorem dX3_pass_15 : decode cX3_pass 15 = .ok (.aload_n 0, 1) := by decide +kernel
theorem dX3_pass_16 : decode cX3_pass 16 = .ok (.iconst 1, 1) := by decide +kernel
theorem dX3_pass_17 : decode cX3_pass 17 = .ok (.invokevirtual 70, 3) := by decide +kernel
theorem dX3_pass_20 : decode cX3_pass 20 = .ok (.ireturn, 1) := by decide +kernel
theorem dX3_pass_21 : decode cX3_pass 21 = .ok (.iconst 0, 1) := by decide +kernel
theorem dX3_pass_22 : decode cX3_pass 22 = .ok (.istore_n 2, 1) := by decide +kernel
theorem dX3_pass_23 : decode cX3_pass 23 = .ok (.iload_n 2, 1) := by decide +kernel
theorem dX3_pass_24 : decode cX3_pass 24 = .ok (.iload_n 1, 1) := by decide +kernel
theorem dX3_pass_25 : decode cX3_pass 25 = .ok (.if_icmp .ge 16, 3) := by decide +kernel
theorem dX3_pass_28 : decode cX3_pass 28 = .ok (.aload_n 0, 1) := by decide +kernel
theorem dX3_pass_29 : decode cX3_pass 29 = .ok (.getfield 45, 3) := by decide +kernel
theorem dX3_pass_32 : decode cX3_pass 32 = .ok (.invokevirtual 149, 3) := by decide +kernel
theorem dX3_pass_35 : decode cX3_pass 35 = .ok (.iinc 2 1, 3) := by decide +kernel
theorem dX3_pass_38 : decode cX3_pass 38 = .ok (.goto (-15), 3) := by decide +kernel
theorem dX3_pass_41 : decode cX3_pass 41 = .ok (.aload_n 0, 1) := by decide +kernel
theorem dX3_pass_42 : decode cX3_pass 42 = .ok (.invokevirtual 122, 3) := by decide +kernel
theorem dX3_pass_45 : decode cX3_pass 45 = .ok (.ireturn, 1) := by decide +kernel
set_option maxRecDepth 20000 in
theorem ggX3_loose_X3_isPiece : GoodIn wsX3_loose wsX3_isPiece := goodIn_r _ [8, 9, 10, 11, 7, 12, 41, 42, 43, 44, 45, 46, 47, 48, 49, 50, 51, 52, 53, 54] (by decide +kernel) (by decide +kernel)
set_option maxRecDepth 20000 in
theorem gX3_loose_X3_isPiece : GoodIn wsX3_loose (wsV RX3 86 RX3 yX3_isPiece wsX3_isPiece) := goodIn_app (goodIn_of _ (by decide +kernel)) ggX3_loose_X3_isPiece
set_option maxRecDepth 20000 in
theorem ggX3_loose_X3_no : GoodIn wsX3_loose wsX3_no := goodIn_r _ [16, 1, 41, 42, 43, 44, 45, 46, 47, 48, 49, 50, 51, 52, 53, 54] (by decide +kernel) (by decide +kernel)
set_option maxRecDepth 20000 in
theorem gX3_loose_X3_no : GoodIn wsX3_loose (wsV RX3 70 RX3 yX3_no wsX3_no) := goodIn_app (goodIn_of _ (by decide +kernel)) ggX3_loose_X3_no
set_option maxRecDepth 20000 in
theorem ggX3_loose_X2_become : GoodIn wsX3_loose wsX2_become := goodIn_r _ [21, 22, 23, 24, 25, 26, 27, 55, 56, 57] (by decide +kernel) (by decide +kernel)
set_option maxRecDepth 20000 in
theorem gX3_loose_X2_become : GoodIn wsX3_loose (wsV RX3 152 RX2 yX2_become wsX2_become) := goodIn_app (goodIn_of _ (by decide +kernel)) ggX3_loose_X2_become
set_option maxRecDepth 20000 in
theorem ggX3_loose_X2_isLoose : GoodIn wsX3_loose wsX2_isLoose := goodIn_r _ [31, 32, 23, 55, 56, 57, 41, 42, 43, 44, 45, 46, 47, 48, 49, 50, 51, 52, 53, 54] (by decide +kernel) (by decide +kernel)
set_option maxRecDepth 20000 in
theorem gX3_loose_X2_isLoose : GoodIn wsX3_loose (wsV RX3 89 RX2 yX2_isLoose wsX2_isLoose) := goodIn_app (goodIn_of _ (by decide +kernel)) ggX3_loose_X2_isLoose
set_option maxRecDepth 20000 in
theorem ggX3_loose_X2_pass : GoodIn wsX3_loose wsX2_pass := goodIn_r _ [36, 32, 22, 23, 37, 38, 39, 40, 55, 56, 57, 41, 42, 43, 44, 45, 46, 47, 48, 49, 50, 51, 52, 53, 54] (by decide +kernel) (by decide +kernel)
set_option maxRecDepth 20000 in
theorem gX3_loose_X2_pass : GoodIn wsX3_loose (wsV RX3 149 RX2 yX2_pass wsX2_pass) := goodIn_app (goodIn_of _ (by decide +kernel)) ggX3_loose_X2_pass
theorem dX3_loose_0 : decode cX3_loose 0 = .ok (.aload_n 0, 1) := by decide +kernel
theorem dX3_loose_1 : decode cX3_loose 1 = .ok (.iconst 0, 1) := by decide +kernel
theorem dX3_loose_2 : decode cX3_loose 2 = .ok (.putfield 55, 3) := by decide +kernel
theorem dX3_loose_5 : decode cX3_loose 5 = .ok (.aload_n 0, 1) := by decide +kernel
theorem dX3_loose_6 : decode cX3_loose 6 = .ok (.iload_n 1, 1) := by decide +kernel
theorem dX3_loose_7 : decode cX3_loose 7 = .ok (.invokevirtual 86, 3) := by decide +kernel
theorem dX3_loose_10 : decode cX3_loose 10 = .ok (.ifCond .ne 9, 3) := by decide +kernel
theorem dX3_loose_13 : decode cX3_loose 13 = .ok (.aload_n 0, 1) := by decide +kernel
theorem dX3_loose_14 : decode cX3_loose 14 = .ok (.iconst 1, 1) := by decide +kernel
theorem dX3_loose_15 : decode cX3_loose 15 = .ok (.invokevirtual 70, 3) := by decide +kernel
theorem dX3_loose_18 : decode cX3_loose 18 = .ok (.ireturn, 1) := by decide +kernel
theorem dX3_loose_19 : decode cX3_loose 19 = .ok (.aload_n 0, 1) := by decide +kernel
theorem dX3_loose_20 : decode cX3_loose 20 = .ok (.getfield 49, 3) := by decide +kernel
theorem dX3_loose_23 : decode cX3_loose 23 = .ok (.aload_n 0, 1) := by decide +kernel
theorem dX3_loose_24 : decode cX3_loose 24 = .ok (.getfield 45, 3) := by decide +kernel
theorem dX3_loose_27 : decode cX3_loose 27 = .ok (.invokevirtual 152, 3) := by decide +kernel
theorem dX3_loose_30 : decode cX3_loose 30 = .ok (.iconst 0, 1) := by decide +kernel
theorem dX3_loose_31 : decode cX3_loose 31 = .ok (.istore_n 2, 1) := by decide +kernel
theorem dX3_loose_32 : decode cX3_loose 32 = .ok (.iload_n 2, 1) := by decide +kernel
theorem dX3_loose_33 : decode cX3_loose 33 = .ok (.sipush 200, 3) := by decide +kernel
theorem dX3_loose_36 : decode cX3_loose 36 = .ok (.if_icmp .gt 29, 3) := by decide +kernel
theorem dX3_loose_39 : decode cX3_loose 39 = .ok (.aload_n 0, 1) := by decide +kernel
theorem dX3_loose_40 : decode cX3_loose 40 = .ok (.getfield 49, 3) := by decide +kernel
theorem dX3_loose_43 : decode cX3_loose 43 = .ok (.iload_n 1, 1) := by decide +kernel
theorem dX3_loose_44 : decode cX3_loose 44 = .ok (.invokevirtual 89, 3) := by decide +kernel
theorem dX3_loose_47 : decode cX3_loose 47 = .ok (.ifCond .ne 5, 3) := by decide +kernel
theorem dX3_loose_50 : decode cX3_loose 50 = .ok (.iload_n 2, 1) := by decide +kernel
theorem dX3_loose_51 : decode cX3_loose 51 = .ok (.ireturn, 1) := by decide +kernel
theorem dX3_loose_52 : decode cX3_loose 52 = .ok (.aload_n 0, 1) := by decide +kernel
theorem dX3_loose_53 : decode cX3_loose 53 = .ok (.getfield 49, 3) := by decide +kernel
theorem dX3_loose_56 : decode cX3_loose 56 = .ok (.invokevirtual 149, 3) := by decide +kernel
theorem dX3_loose_59 : decode cX3_loose 59 = .ok (.iinc 2 1, 3) := by decide +kernel
theorem dX3_loose_62 : decode cX3_loose 62 = .ok (.goto (-30), 3) := by decide +kernel
theorem dX3_loose_65 : decode cX3_loose 65 = .ok (.iconst (-1), 1) := by decide +kernel
theorem dX3_loose_66 : decode cX3_loose 66 = .ok (.ireturn, 1) := by decide +kernel
set_option maxRecDepth 20000 in
theorem ggX3_dry_X2_become : GoodIn wsX3_dry wsX2_become := goodIn_r _ [8, 9, 10, 11, 12, 13, 14, 42, 43, 44] (by decide +kernel) (by decide +kernel)
set_option maxRecDepth 20000 in
theorem gX3_dry_X2_become : GoodIn wsX3_dry (wsV RX3 152 RX2 yX2_become wsX2_become) := goodIn_app (goodIn_of _ (by decide +kernel)) ggX3_dry_X2_become
set_option maxRecDepth 20000 in
theorem ggX3_dry_X2_wetOnes : GoodIn wsX3_dry wsX2_wetOnes := goodIn_r _ [18, 10, 42, 43, 44] (by decide +kernel) (by decide +kernel)
set_option maxRecDepth 20000 in
theorem gX3_dry_X2_wetOnes : GoodIn wsX3_dry (wsV RX3 126 RX2 yX2_wetOnes wsX2_wetOnes) := goodIn_app (goodIn_of _ (by decide +kernel)) ggX3_dry_X2_wetOnes
set_option maxRecDepth 20000 in
theorem ggX3_dry_X2_pass : GoodIn wsX3_dry wsX2_pass := goodIn_r _ [22, 23, 9, 10, 24, 25, 26, 27, 42, 43, 44, 28, 29, 30, 31, 32, 33, 34, 35, 36, 37, 38, 39, 40, 41] (by decide +kernel) (by decide +kernel)
set_option maxRecDepth 20000 in
theorem gX3_dry_X2_pass : GoodIn wsX3_dry (wsV RX3 149 RX2 yX2_pass wsX2_pass) := goodIn_app (goodIn_of _ (by decide +kernel)) ggX3_dry_X2_pass
theorem dX3_dry_0 : decode cX3_dry 0 = .ok (.aload_n 0, 1) := by decide +kernel
theorem dX3_dry_1 : decode cX3_dry 1 = .ok (.iconst 0, 1) := by decide +kernel
theorem dX3_dry_2 : decode cX3_dry 2 = .ok (.putfield 55, 3) := by decide +kernel
theorem dX3_dry_5 : decode cX3_dry 5 = .ok (.aload_n 0, 1) := by decide +kernel
theorem dX3_dry_6 : decode cX3_dry 6 = .ok (.getfield 49, 3) := by decide +kernel
theorem dX3_dry_9 : decode cX3_dry 9 = .ok (.aload_n 0, 1) := by decide +kernel
theorem dX3_dry_10 : decode cX3_dry 10 = .ok (.getfield 45, 3) := by decide +kernel
theorem dX3_dry_13 : decode cX3_dry 13 = .ok (.invokevirtual 152, 3) := by decide +kernel
theorem dX3_dry_16 : decode cX3_dry 16 = .ok (.iconst 0, 1) := by decide +kernel
theorem dX3_dry_17 : decode cX3_dry 17 = .ok (.istore_n 1, 1) := by decide +kernel
theorem dX3_dry_18 : decode cX3_dry 18 = .ok (.iload_n 1, 1) := by decide +kernel
theorem dX3_dry_19 : decode cX3_dry 19 = .ok (.sipush 200, 3) := by decide +kernel
theorem dX3_dry_22 : decode cX3_dry 22 = .ok (.if_icmp .gt 28, 3) := by decide +kernel
theorem dX3_dry_25 : decode cX3_dry 25 = .ok (.aload_n 0, 1) := by decide +kernel
theorem dX3_dry_26 : decode cX3_dry 26 = .ok (.getfield 49, 3) := by decide +kernel
theorem dX3_dry_29 : decode cX3_dry 29 = .ok (.invokevirtual 126, 3) := by decide +kernel
theorem dX3_dry_32 : decode cX3_dry 32 = .ok (.ifCond .ne 5, 3) := by decide +kernel
theorem dX3_dry_35 : decode cX3_dry 35 = .ok (.iload_n 1, 1) := by decide +kernel
theorem dX3_dry_36 : decode cX3_dry 36 = .ok (.ireturn, 1) := by decide +kernel
theorem dX3_dry_37 : decode cX3_dry 37 = .ok (.aload_n 0, 1) := by decide +kernel
theorem dX3_dry_38 : decode cX3_dry 38 = .ok (.getfield 49, 3) := by decide +kernel
theorem dX3_dry_41 : decode cX3_dry 41 = .ok (.invokevirtual 149, 3) := by decide +kernel
theorem dX3_dry_44 : decode cX3_dry 44 = .ok (.iinc 1 1, 3) := by decide +kernel
theorem dX3_dry_47 : decode cX3_dry 47 = .ok (.goto (-29), 3) := by decide +kernel
theorem dX3_dry_50 : decode cX3_dry 50 = .ok (.iconst (-1), 1) := by decide +kernel
theorem dX3_dry_51 : decode cX3_dry 51 = .ok (.ireturn, 1) := by decide +kernel
set_option maxRecDepth 20000 in
theorem ggX3_share_X3_covered : GoodIn wsX3_share wsX3_covered := goodIn_r _ [7, 8, 9, 10, 11, 12, 13, 14, 15, 16, 17, 18, 19, 20, 21, 22] (by decide +kernel) (by decide +kernel)
set_option maxRecDepth 20000 in
theorem gX3_share_X3_covered : GoodIn wsX3_share (wsV RX3 129 RX3 yX3_covered wsX3_covered) := goodIn_app (goodIn_of _ (by decide +kernel)) ggX3_share_X3_covered
theorem dX3_share_0 : decode cX3_share 0 = .ok (.aload_n 0, 1) := by decide +kernel
theorem dX3_share_1 : decode cX3_share 1 = .ok (.iconst 0, 1) := by decide +kernel
theorem dX3_share_2 : decode cX3_share 2 = .ok (.putfield 55, 3) := by decide +kernel
theorem dX3_share_5 : decode cX3_share 5 = .ok (.aload_n 0, 1) := by decide +kernel
theorem dX3_share_6 : decode cX3_share 6 = .ok (.invokevirtual 129, 3) := by decide +kernel
theorem dX3_share_9 : decode cX3_share 9 = .ok (.i2d, 1) := by decide +kernel
theorem dX3_share_10 : decode cX3_share 10 = .ok (.ldc2_w 156, 3) := by decide +kernel
theorem dX3_share_13 : decode cX3_share 13 = .ok (.ddiv, 1) := by decide +kernel
theorem dX3_share_14 : decode cX3_share 14 = .ok (.dreturn, 1) := by decide +kernel
set_option maxRecDepth 20000 in
theorem ggX3_digest_X3_counted : GoodIn wsX3_digest wsX3_counted := goodIn_r _ [10, 11, 4, 12, 13, 14, 15, 9, 16, 17, 18, 19, 20, 21, 22, 23, 24, 25, 26, 27, 28, 29, 30, 31, 32, 33, 34, 35, 36, 37, 38, 39, 40, 41, 42, 43, 44, 45, 46, 47, 48, 49, 50, 51, 52, 53, 54, 55, 73, 74, 75, 76, 77, 78, 79, 80, 81, 82, 83, 84, 85, 86, 87, 88, 89] (by decide +kernel) (by decide +kernel)
set_option maxRecDepth 20000 in
theorem gX3_digest_X3_counted : GoodIn wsX3_digest (wsV RX3 135 RX3 yX3_counted wsX3_counted) := goodIn_app (goodIn_of _ (by decide +kernel)) ggX3_digest_X3_counted
set_option maxRecDepth 20000 in
theorem ggX3_digest_X3_cellTold : GoodIn wsX3_digest wsX3_cellTold := goodIn_r _ [59, 11, 32, 60, 61, 62, 9, 63, 64, 73, 74, 75, 76, 77, 78, 79, 80, 81, 82, 83, 84, 85, 86, 87, 88, 89] (by decide +kernel) (by decide +kernel)
set_option maxRecDepth 20000 in
theorem gX3_digest_X3_cellTold : GoodIn wsX3_digest (wsV RX3 103 RX3 yX3_cellTold wsX3_cellTold) := goodIn_app (goodIn_of _ (by decide +kernel)) ggX3_digest_X3_cellTold
set_option maxRecDepth 20000 in
theorem ggX3_digest_X3_pieceTold : GoodIn wsX3_digest wsX3_pieceTold := goodIn_r _ [68, 69, 70, 71, 64, 72, 11, 12, 17, 18, 19, 20, 21, 22, 23, 73, 74, 75, 76, 77, 78, 79, 80, 81, 82, 83, 84, 85, 86, 87, 88, 89] (by decide +kernel) (by decide +kernel)
set_option maxRecDepth 20000 in
theorem gX3_digest_X3_pieceTold : GoodIn wsX3_digest (wsV RX3 107 RX3 yX3_pieceTold wsX3_pieceTold) := goodIn_app (goodIn_of _ (by decide +kernel)) ggX3_digest_X3_pieceTold
theorem dX3_digest_0 : decode cX3_digest 0 = .ok (.aload_n 0, 1) := by decide +kernel
theorem dX3_digest_1 : decode cX3_digest 1 = .ok (.iconst 0, 1) := by decide +kernel
theorem dX3_digest_2 : decode cX3_digest 2 = .ok (.putfield 55, 3) := by decide +kernel
theorem dX3_digest_5 : decode cX3_digest 5 = .ok (.ldc2_w 158, 3) := by decide +kernel
theorem dX3_digest_8 : decode cX3_digest 8 = .ok (.lstore_n 1, 1) := by decide +kernel
theorem dX3_digest_9 : decode cX3_digest 9 = .ok (.iconst 0, 1) := by decide +kernel
theorem dX3_digest_10 : decode cX3_digest 10 = .ok (.istore_n 3, 1) := by decide +kernel
theorem dX3_digest_11 : decode cX3_digest 11 = .ok (.iload_n 3, 1) := by decide +kernel
theorem dX3_digest_12 : decode cX3_digest 12 = .ok (.bipush 7, 2) := by decide +kernel
theorem dX3_digest_14 : decode cX3_digest 14 = .ok (.if_icmp .gt 22, 3) := by decide +kernel
theorem dX3_digest_17 : decode cX3_digest 17 = .ok (.lload_n 1, 1) := by decide +kernel
theorem dX3_digest_18 : decode cX3_digest 18 = .ok (.ldc2_w 160, 3) := by decide +kernel
theorem dX3_digest_21 : decode cX3_digest 21 = .ok (.lmul, 1) := by decide +kernel
theorem dX3_digest_22 : decode cX3_digest 22 = .ok (.aload_n 0, 1) := by decide +kernel
theorem dX3_digest_23 : decode cX3_digest 23 = .ok (.iload_n 3, 1) := by decide +kernel
theorem dX3_digest_24 : decode cX3_digest 24 = .ok (.invokevirtual 135, 3) := by decide +kernel
theorem dX3_digest_27 : decode cX3_digest 27 = .ok (.i2l, 1) := by decide +kernel
theorem dX3_digest_28 : decode cX3_digest 28 = .ok (.ladd, 1) := by decide +kernel
theorem dX3_digest_29 : decode cX3_digest 29 = .ok (.lstore_n 1, 1) := by decide +kernel
theorem dX3_digest_30 : decode cX3_digest 30 = .ok (.iinc 3 1, 3) := by decide +kernel
theorem dX3_digest_33 : decode cX3_digest 33 = .ok (.goto (-22), 3) := by decide +kernel
theorem dX3_digest_36 : decode cX3_digest 36 = .ok (.iconst 0, 1) := by decide +kernel
theorem dX3_digest_37 : decode cX3_digest 37 = .ok (.istore_n 3, 1) := by decide +kernel
theorem dX3_digest_38 : decode cX3_digest 38 = .ok (.iload_n 3, 1) := by decide +kernel
theorem dX3_digest_39 : decode cX3_digest 39 = .ok (.bipush 80, 2) := by decide +kernel
theorem dX3_digest_41 : decode cX3_digest 41 = .ok (.if_icmp .ge 39, 3) := by decide +kernel
theorem dX3_digest_44 : decode cX3_digest 44 = .ok (.iconst 0, 1) := by decide +kernel
theorem dX3_digest_45 : decode cX3_digest 45 = .ok (.istore 4, 2) := by decide +kernel
theorem dX3_digest_47 : decode cX3_digest 47 = .ok (.iload 4, 2) := by decide +kernel
theorem dX3_digest_49 : decode cX3_digest 49 = .ok (.iconst 2, 1) := by decide +kernel
theorem dX3_digest_50 : decode cX3_digest 50 = .ok (.if_icmp .gt 24, 3) := by decide +kernel
theorem dX3_digest_53 : decode cX3_digest 53 = .ok (.lload_n 1, 1) := by decide +kernel
theorem dX3_digest_54 : decode cX3_digest 54 = .ok (.ldc2_w 160, 3) := by decide +kernel
theorem dX3_digest_57 : decode cX3_digest 57 = .ok (.lmul, 1) := by decide +kernel
theorem dX3_digest_58 : decode cX3_digest 58 = .ok (.aload_n 0, 1) := by decide +kernel
theorem dX3_digest_59 : decode cX3_digest 59 = .ok (.iload_n 3, 1) := by decide +kernel
theorem dX3_digest_60 : decode cX3_digest 60 = .ok (.iload 4, 2) := by decide +kernel
theorem dX3_digest_62 : decode cX3_digest 62 = .ok (.invokevirtual 103, 3) := by decide +kernel
theorem dX3_digest_65 : decode cX3_digest 65 = .ok (.i2l, 1) := by decide +kernel
theorem dX3_digest_66 : decode cX3_digest 66 = .ok (.ladd, 1) := by decide +kernel
theorem dX3_digest_67 : decode cX3_digest 67 = .ok (.lstore_n 1, 1) := by decide +kernel
theorem dX3_digest_68 : decode cX3_digest 68 = .ok (.iinc 4 1, 3) := by decide +kernel
theorem dX3_digest_71 : decode cX3_digest 71 = .ok (.goto (-24), 3) := by decide +kernel
theorem dX3_digest_74 : decode cX3_digest 74 = .ok (.iinc 3 1, 3) := by decide +kernel
theorem dX3_digest_77 : decode cX3_digest 77 = .ok (.goto (-39), 3) := by decide +kernel
theorem dX3_digest_80 : decode cX3_digest 80 = .ok (.iconst 0, 1) := by decide +kernel
theorem dX3_digest_81 : decode cX3_digest 81 = .ok (.istore_n 3, 1) := by decide +kernel
theorem dX3_digest_82 : decode cX3_digest 82 = .ok (.iload_n 3, 1) := by decide +kernel
theorem dX3_digest_83 : decode cX3_digest 83 = .ok (.aload_n 0, 1) := by decide +kernel
theorem dX3_digest_84 : decode cX3_digest 84 = .ok (.getfield 63, 3) := by decide +kernel
theorem dX3_digest_87 : decode cX3_digest 87 = .ok (.if_icmp .ge 40, 3) := by decide +kernel
theorem dX3_digest_90 : decode cX3_digest 90 = .ok (.iconst 0, 1) := by decide +kernel
theorem dX3_digest_91 : decode cX3_digest 91 = .ok (.istore 4, 2) := by decide +kernel
theorem dX3_digest_93 : decode cX3_digest 93 = .ok (.iload 4, 2) := by decide +kernel
theorem dX3_digest_95 : decode cX3_digest 95 = .ok (.bipush 7, 2) := by decide +kernel
theorem dX3_digest_97 : decode cX3_digest 97 = .ok (.if_icmp .gt 24, 3) := by decide +kernel
theorem dX3_digest_100 : decode cX3_digest 100 = .ok (.lload_n 1, 1) := by decide +kernel
theorem dX3_digest_101 : decode cX3_digest 101 = .ok (.ldc2_w 160, 3) := by decide +kernel
theorem dX3_digest_104 : decode cX3_digest 104 = .ok (.lmul, 1) := by decide +kernel
theorem dX3_digest_105 : decode cX3_digest 105 = .ok (.aload_n 0, 1) := by decide +kernel
theorem dX3_digest_106 : decode cX3_digest 106 = .ok (.iload_n 3, 1) := by decide +kernel
theorem dX3_digest_107 : decode cX3_digest 107 = .ok (.iload 4, 2) := by decide +kernel
theorem dX3_digest_109 : decode cX3_digest 109 = .ok (.invokevirtual 107, 3) := by decide +kernel
theorem dX3_digest_112 : decode cX3_digest 112 = .ok (.i2l, 1) := by decide +kernel
theorem dX3_digest_113 : decode cX3_digest 113 = .ok (.ladd, 1) := by decide +kernel
theorem dX3_digest_114 : decode cX3_digest 114 = .ok (.lstore_n 1, 1) := by decide +kernel
theorem dX3_digest_115 : decode cX3_digest 115 = .ok (.iinc 4 1, 3) := by decide +kernel
theorem dX3_digest_118 : decode cX3_digest 118 = .ok (.goto (-25), 3) := by decide +kernel
theorem dX3_digest_121 : decode cX3_digest 121 = .ok (.iinc 3 1, 3) := by decide +kernel
theorem dX3_digest_124 : decode cX3_digest 124 = .ok (.goto (-42), 3) := by decide +kernel
theorem dX3_digest_127 : decode cX3_digest 127 = .ok (.iconst 0, 1) := by decide +kernel
theorem dX3_digest_128 : decode cX3_digest 128 = .ok (.istore_n 3, 1) := by decide +kernel
theorem dX3_digest_129 : decode cX3_digest 129 = .ok (.iload_n 3, 1) := by decide +kernel
theorem dX3_digest_130 : decode cX3_digest 130 = .ok (.bipush 8, 2) := by decide +kernel
theorem dX3_digest_132 : decode cX3_digest 132 = .ok (.if_icmp .ge 23, 3) := by decide +kernel
theorem dX3_digest_135 : decode cX3_digest 135 = .ok (.lload_n 1, 1) := by decide +kernel
theorem dX3_digest_136 : decode cX3_digest 136 = .ok (.ldc2_w 160, 3) := by decide +kernel
theorem dX3_digest_139 : decode cX3_digest 139 = .ok (.lmul, 1) := by decide +kernel
theorem dX3_digest_140 : decode cX3_digest 140 = .ok (.aload_n 0, 1) := by decide +kernel
theorem dX3_digest_141 : decode cX3_digest 141 = .ok (.getfield 31, 3) := by decide +kernel
theorem dX3_digest_144 : decode cX3_digest 144 = .ok (.iload_n 3, 1) := by decide +kernel
theorem dX3_digest_145 : decode cX3_digest 145 = .ok (.iaload, 1) := by decide +kernel
theorem dX3_digest_146 : decode cX3_digest 146 = .ok (.i2l, 1) := by decide +kernel
theorem dX3_digest_147 : decode cX3_digest 147 = .ok (.ladd, 1) := by decide +kernel
theorem dX3_digest_148 : decode cX3_digest 148 = .ok (.lstore_n 1, 1) := by decide +kernel
theorem dX3_digest_149 : decode cX3_digest 149 = .ok (.iinc 3 1, 3) := by decide +kernel
theorem dX3_digest_152 : decode cX3_digest 152 = .ok (.goto (-23), 3) := by decide +kernel
theorem dX3_digest_155 : decode cX3_digest 155 = .ok (.lload_n 1, 1) := by decide +kernel
theorem dX3_digest_156 : decode cX3_digest 156 = .ok (.lreturn, 1) := by decide +kernel
theorem dJ9_floorMod_7cf53_0 : decode cJ9_floorMod_7cf53 0 = .ok (.iload_n 0, 1) := by decide +kernel
theorem dJ9_floorMod_7cf53_1 : decode cJ9_floorMod_7cf53 1 = .ok (.iload_n 1, 1) := by decide +kernel
theorem dJ9_floorMod_7cf53_2 : decode cJ9_floorMod_7cf53 2 = .ok (.irem, 1) := by decide +kernel
theorem dJ9_floorMod_7cf53_3 : decode cJ9_floorMod_7cf53 3 = .ok (.istore_n 2, 1) := by decide +kernel
theorem dJ9_floorMod_7cf53_4 : decode cJ9_floorMod_7cf53 4 = .ok (.iload_n 0, 1) := by decide +kernel
theorem dJ9_floorMod_7cf53_5 : decode cJ9_floorMod_7cf53 5 = .ok (.iload_n 1, 1) := by decide +kernel
theorem dJ9_floorMod_7cf53_6 : decode cJ9_floorMod_7cf53 6 = .ok (.ixor, 1) := by decide +kernel
theorem dJ9_floorMod_7cf53_7 : decode cJ9_floorMod_7cf53 7 = .ok (.ifCond .ge 11, 3) := by decide +kernel
theorem dJ9_floorMod_7cf53_10 : decode cJ9_floorMod_7cf53 10 = .ok (.iload_n 2, 1) := by decide +kernel
theorem dJ9_floorMod_7cf53_11 : decode cJ9_floorMod_7cf53 11 = .ok (.ifCond .eq 7, 3) := by decide +kernel
theorem dJ9_floorMod_7cf53_14 : decode cJ9_floorMod_7cf53 14 = .ok (.iload_n 2, 1) := by decide +kernel
theorem dJ9_floorMod_7cf53_15 : decode cJ9_floorMod_7cf53 15 = .ok (.iload_n 1, 1) := by decide +kernel
theorem dJ9_floorMod_7cf53_16 : decode cJ9_floorMod_7cf53 16 = .ok (.iadd, 1) := by decide +kernel
theorem dJ9_floorMod_7cf53_17 : decode cJ9_floorMod_7cf53 17 = .ok (.ireturn, 1) := by decide +kernel
theorem dJ9_floorMod_7cf53_18 : decode cJ9_floorMod_7cf53 18 = .ok (.iload_n 2, 1) := by decide +kernel
theorem dJ9_floorMod_7cf53_19 : decode cJ9_floorMod_7cf53 19 = .ok (.ireturn, 1) := by decide +kernel
theorem dJ9_max_7cf53_0 : decode cJ9_max_7cf53 0 = .ok (.iload_n 0, 1) := by decide +kernel
theorem dJ9_max_7cf53_1 : decode cJ9_max_7cf53 1 = .ok (.iload_n 1, 1) := by decide +kernel
theorem dJ9_max_7cf53_2 : decode cJ9_max_7cf53 2 = .ok (.if_icmp .lt 7, 3) := by decide +kernel
theorem dJ9_max_7cf53_5 : decode cJ9_max_7cf53 5 = .ok (.iload_n 0, 1) := by decide +kernel
theorem dJ9_max_7cf53_6 : decode cJ9_max_7cf53 6 = .ok (.goto 4, 3) := by decide +kernel
theorem dJ9_max_7cf53_9 : decode cJ9_max_7cf53 9 = .ok (.iload_n 1, 1) := by decide +kernel
theorem dJ9_max_7cf53_10 : decode cJ9_max_7cf53 10 = .ok (.ireturn, 1) := by decide +kernel
set_option maxRecDepth 20000 in
theorem ggL_spread_X1_spread : GoodIn wsL_spread wsX1_spread := goodIn_ca (goodIn_ca (goodIn_r _ [7, 8, 9, 10, 11, 12, 13, 6, 14, 15, 16, 17, 18, 19, 20, 21, 22, 23, 24, 25, 26, 27, 28, 29, 30, 31, 32, 33, 34, 35, 36, 37, 38, 39, 40] (by decide +kernel) (by decide +kernel)) (goodIn_sub (fun _ h => List.mem_cons_of_mem _ (List.mem_append_left _ (List.mem_append_right _ h))) (by decide +kernel))) (goodIn_sub (fun _ h => List.mem_cons_of_mem _ (List.mem_append_right _ h)) (by decide +kernel))
set_option maxRecDepth 20000 in
theorem gL_spread_X1_spread : GoodIn wsL_spread (wsV RL 7 RX1 yX1_spread wsX1_spread) := goodIn_app (goodIn_of _ (by decide +kernel)) ggL_spread_X1_spread
theorem dL_spread_0 : decode cL_spread 0 = .ok (.aload 5, 2) := by decide +kernel
theorem dL_spread_2 : decode cL_spread 2 = .ok (.iconst 0, 1) := by decide +kernel
theorem dL_spread_3 : decode cL_spread 3 = .ok (.aload_n 0, 1) := by decide +kernel
theorem dL_spread_4 : decode cL_spread 4 = .ok (.iload_n 1, 1) := by decide +kernel
theorem dL_spread_5 : decode cL_spread 5 = .ok (.iload_n 2, 1) := by decide +kernel
theorem dL_spread_6 : decode cL_spread 6 = .ok (.iload_n 3, 1) := by decide +kernel
theorem dL_spread_7 : decode cL_spread 7 = .ok (.iload 4, 2) := by decide +kernel
theorem dL_spread_9 : decode cL_spread 9 = .ok (.invokevirtual 7, 3) := by decide +kernel
theorem dL_spread_12 : decode cL_spread 12 = .ok (.i2l, 1) := by decide +kernel
theorem dL_spread_13 : decode cL_spread 13 = .ok (.lastore, 1) := by decide +kernel
theorem dL_spread_14 : decode cL_spread 14 = .ok (.goto 11, 3) := by decide +kernel
theorem dL_spread_17 : decode cL_spread 17 = .ok (.astore 6, 2) := by decide +kernel
theorem dL_spread_19 : decode cL_spread 19 = .ok (.iconst 1, 1) := by decide +kernel
theorem dL_spread_20 : decode cL_spread 20 = .ok (.ireturn, 1) := by decide +kernel
theorem dL_spread_21 : decode cL_spread 21 = .ok (.astore 6, 2) := by decide +kernel
theorem dL_spread_23 : decode cL_spread 23 = .ok (.iconst 2, 1) := by decide +kernel
theorem dL_spread_24 : decode cL_spread 24 = .ok (.ireturn, 1) := by decide +kernel
theorem dL_spread_25 : decode cL_spread 25 = .ok (.iconst 0, 1) := by decide +kernel
theorem dL_spread_26 : decode cL_spread 26 = .ok (.ireturn, 1) := by decide +kernel
set_option maxRecDepth 20000 in
theorem ggL_setSun_X1_setSun : GoodIn wsL_setSun wsX1_setSun := goodIn_ca (goodIn_ca (goodIn_r _ [7, 8, 9, 10, 11, 12, 13, 14, 6, 15, 16, 17, 18, 19, 20, 21, 22, 23, 24, 25, 26, 27, 28, 29, 30] (by decide +kernel) (by decide +kernel)) (goodIn_sub (fun _ h => List.mem_cons_of_mem _ (List.mem_append_left _ (List.mem_append_right _ h))) (by decide +kernel))) (goodIn_sub (fun _ h => List.mem_cons_of_mem _ (List.mem_append_right _ h)) (by decide +kernel))
set_option maxRecDepth 20000 in
theorem gL_setSun_X1_setSun : GoodIn wsL_setSun (wsV RL 17 RX1 yX1_setSun wsX1_setSun) := goodIn_app (goodIn_of _ (by decide +kernel)) ggL_setSun_X1_setSun
theorem dL_setSun_0 : decode cL_setSun 0 = .ok (.aload_n 3, 1) := by decide +kernel
theorem dL_setSun_1 : decode cL_setSun 1 = .ok (.iconst 0, 1) := by decide +kernel
theorem dL_setSun_2 : decode cL_setSun 2 = .ok (.aload_n 0, 1) := by decide +kernel
theorem dL_setSun_3 : decode cL_setSun 3 = .ok (.iload_n 1, 1) := by decide +kernel
theorem dL_setSun_4 : decode cL_setSun 4 = .ok (.iload_n 2, 1) := by decide +kernel
theorem dL_setSun_5 : decode cL_setSun 5 = .ok (.invokevirtual 17, 3) := by decide +kernel
theorem dL_setSun_8 : decode cL_setSun 8 = .ok (.i2l, 1) := by decide +kernel
theorem dL_setSun_9 : decode cL_setSun 9 = .ok (.lastore, 1) := by decide +kernel
theorem dL_setSun_10 : decode cL_setSun 10 = .ok (.goto 11, 3) := by decide +kernel
theorem dL_setSun_13 : decode cL_setSun 13 = .ok (.astore 4, 2) := by decide +kernel
theorem dL_setSun_15 : decode cL_setSun 15 = .ok (.iconst 1, 1) := by decide +kernel
theorem dL_setSun_16 : decode cL_setSun 16 = .ok (.ireturn, 1) := by decide +kernel
theorem dL_setSun_17 : decode cL_setSun 17 = .ok (.astore 4, 2) := by decide +kernel
theorem dL_setSun_19 : decode cL_setSun 19 = .ok (.iconst 2, 1) := by decide +kernel
theorem dL_setSun_20 : decode cL_setSun 20 = .ok (.ireturn, 1) := by decide +kernel
theorem dL_setSun_21 : decode cL_setSun 21 = .ok (.iconst 0, 1) := by decide +kernel
theorem dL_setSun_22 : decode cL_setSun 22 = .ok (.ireturn, 1) := by decide +kernel
set_option maxRecDepth 20000 in
theorem ggL_press_X1_press : GoodIn wsL_press wsX1_press := goodIn_ca (goodIn_ca (goodIn_ca (goodIn_r _ [8, 9, 10, 11, 12, 13, 14, 15, 16, 17, 18, 19, 7, 20, 21, 22, 23, 24, 25, 26, 27, 28, 29, 30, 31, 32, 33, 34, 35, 36, 37, 38, 39, 40, 41, 42, 43, 44, 45, 46, 47, 48, 49, 50, 51, 52, 53, 54, 55, 56, 57, 58, 59, 60, 61, 62, 63, 64, 65, 66, 67, 68, 69, 70, 71, 72, 73, 74, 75, 76, 77, 78, 79, 80, 81, 82, 83, 84, 85, 86, 87, 88] (by decide +kernel) (by decide +kernel)) (goodIn_sub (fun _ h => List.mem_cons_of_mem _ (List.mem_append_left _ (List.mem_append_left _ (List.mem_append_right _ h)))) (by decide +kernel))) (goodIn_sub (fun _ h => List.mem_cons_of_mem _ (List.mem_append_left _ (List.mem_append_right _ h))) (by decide +kernel))) (goodIn_sub (fun _ h => List.mem_cons_of_mem _ (List.mem_append_right _ h)) (by decide +kernel))
set_option maxRecDepth 20000 in
theorem gL_press_X1_press : GoodIn wsL_press (wsV RL 21 RX1 yX1_press wsX1_press) := goodIn_app (goodIn_of _ (by decide +kernel)) ggL_press_X1_press
theorem dL_press_0 : decode cL_press 0 = .ok (.aload 7, 2) := by decide +kernel
theorem dL_press_2 : decode cL_press 2 = .ok (.iconst 0, 1) := by decide +kernel
theorem dL_press_3 : decode cL_press 3 = .ok (.aload_n 0, 1) := by decide +kernel
theorem dL_press_4 : decode cL_press 4 = .ok (.iload_n 1, 1) := by decide +kernel
theorem dL_press_5 : decode cL_press 5 = .ok (.iload_n 2, 1) := by decide +kernel
theorem dL_press_6 : decode cL_press 6 = .ok (.iload_n 3, 1) := by decide +kernel
theorem dL_press_7 : decode cL_press 7 = .ok (.iload 4, 2) := by decide +kernel
theorem dL_press_9 : decode cL_press 9 = .ok (.iload 5, 2) := by decide +kernel
theorem dL_press_11 : decode cL_press 11 = .ok (.iload 6, 2) := by decide +kernel
theorem dL_press_13 : decode cL_press 13 = .ok (.invokevirtual 21, 3) := by decide +kernel
theorem dL_press_16 : decode cL_press 16 = .ok (.i2l, 1) := by decide +kernel
theorem dL_press_17 : decode cL_press 17 = .ok (.lastore, 1) := by decide +kernel
theorem dL_press_18 : decode cL_press 18 = .ok (.goto 15, 3) := by decide +kernel
theorem dL_press_21 : decode cL_press 21 = .ok (.astore 8, 2) := by decide +kernel
theorem dL_press_23 : decode cL_press 23 = .ok (.iconst 1, 1) := by decide +kernel
theorem dL_press_24 : decode cL_press 24 = .ok (.ireturn, 1) := by decide +kernel
theorem dL_press_25 : decode cL_press 25 = .ok (.astore 8, 2) := by decide +kernel
theorem dL_press_27 : decode cL_press 27 = .ok (.iconst 2, 1) := by decide +kernel
theorem dL_press_28 : decode cL_press 28 = .ok (.ireturn, 1) := by decide +kernel
theorem dL_press_29 : decode cL_press 29 = .ok (.astore 8, 2) := by decide +kernel
theorem dL_press_31 : decode cL_press 31 = .ok (.iconst 3, 1) := by decide +kernel
theorem dL_press_32 : decode cL_press 32 = .ok (.ireturn, 1) := by decide +kernel
theorem dL_press_33 : decode cL_press 33 = .ok (.iconst 0, 1) := by decide +kernel
theorem dL_press_34 : decode cL_press 34 = .ok (.ireturn, 1) := by decide +kernel
set_option maxRecDepth 20000 in
theorem ggL_flip_X1_flip : GoodIn wsL_flip wsX1_flip := goodIn_ca (goodIn_ca (goodIn_r _ [7, 8, 9, 10, 11, 12, 13, 14, 15, 16, 17, 6, 18, 19, 20, 21, 22, 23, 24, 25, 26, 27, 28, 29, 30, 31, 32, 33, 34, 35, 36, 37, 38, 39, 40, 41, 42, 43, 44, 45, 46, 47, 48, 49, 50, 51, 52, 53, 54, 55, 56, 57, 58, 59, 60, 61, 62, 63, 64, 65, 66, 67] (by decide +kernel) (by decide +kernel)) (goodIn_sub (fun _ h => List.mem_cons_of_mem _ (List.mem_append_left _ (List.mem_append_right _ h))) (by decide +kernel))) (goodIn_sub (fun _ h => List.mem_cons_of_mem _ (List.mem_append_right _ h)) (by decide +kernel))
set_option maxRecDepth 20000 in
theorem gL_flip_X1_flip : GoodIn wsL_flip (wsV RL 27 RX1 yX1_flip wsX1_flip) := goodIn_app (goodIn_of _ (by decide +kernel)) ggL_flip_X1_flip
theorem dL_flip_0 : decode cL_flip 0 = .ok (.aload_n 2, 1) := by decide +kernel
theorem dL_flip_1 : decode cL_flip 1 = .ok (.iconst 0, 1) := by decide +kernel
theorem dL_flip_2 : decode cL_flip 2 = .ok (.aload_n 0, 1) := by decide +kernel
theorem dL_flip_3 : decode cL_flip 3 = .ok (.iload_n 1, 1) := by decide +kernel
theorem dL_flip_4 : decode cL_flip 4 = .ok (.invokevirtual 27, 3) := by decide +kernel
theorem dL_flip_7 : decode cL_flip 7 = .ok (.i2l, 1) := by decide +kernel
theorem dL_flip_8 : decode cL_flip 8 = .ok (.lastore, 1) := by decide +kernel
theorem dL_flip_9 : decode cL_flip 9 = .ok (.goto 9, 3) := by decide +kernel
theorem dL_flip_12 : decode cL_flip 12 = .ok (.astore_n 3, 1) := by decide +kernel
theorem dL_flip_13 : decode cL_flip 13 = .ok (.iconst 1, 1) := by decide +kernel
theorem dL_flip_14 : decode cL_flip 14 = .ok (.ireturn, 1) := by decide +kernel
theorem dL_flip_15 : decode cL_flip 15 = .ok (.astore_n 3, 1) := by decide +kernel
theorem dL_flip_16 : decode cL_flip 16 = .ok (.iconst 2, 1) := by decide +kernel
theorem dL_flip_17 : decode cL_flip 17 = .ok (.ireturn, 1) := by decide +kernel
theorem dL_flip_18 : decode cL_flip 18 = .ok (.iconst 0, 1) := by decide +kernel
theorem dL_flip_19 : decode cL_flip 19 = .ok (.ireturn, 1) := by decide +kernel
set_option maxRecDepth 20000 in
theorem ggL_turn_X1_turn : GoodIn wsL_turn wsX1_turn := goodIn_ca (goodIn_ca (goodIn_r _ [7, 8, 9, 10, 11, 12, 13, 14, 15, 16, 17, 18, 19, 6, 20, 21, 22, 23, 24, 25, 26, 27, 28, 29, 30, 31, 32, 33, 34, 35, 36, 37, 38, 39, 40, 41, 42, 43, 44, 45, 46, 47, 48, 49, 50, 51, 52, 53, 54, 55, 56, 57, 58, 59, 60, 61, 62, 63, 64, 65, 66, 67, 68, 69, 70, 71, 72, 73, 74, 75, 76, 77, 78, 79] (by decide +kernel) (by decide +kernel)) (goodIn_sub (fun _ h => List.mem_cons_of_mem _ (List.mem_append_left _ (List.mem_append_right _ h))) (by decide +kernel))) (goodIn_sub (fun _ h => List.mem_cons_of_mem _ (List.mem_append_right _ h)) (by decide +kernel))
set_option maxRecDepth 20000 in
theorem gL_turn_X1_turn : GoodIn wsL_turn (wsV RL 31 RX1 yX1_turn wsX1_turn) := goodIn_app (goodIn_of _ (by decide +kernel)) ggL_turn_X1_turn
theorem dL_turn_0 : decode cL_turn 0 = .ok (.aload_n 2, 1) := by decide +kernel
theorem dL_turn_1 : decode cL_turn 1 = .ok (.iconst 0, 1) := by decide +kernel
theorem dL_turn_2 : decode cL_turn 2 = .ok (.aload_n 0, 1) := by decide +kernel
theorem dL_turn_3 : decode cL_turn 3 = .ok (.iload_n 1, 1) := by decide +kernel
theorem dL_turn_4 : decode cL_turn 4 = .ok (.invokevirtual 31, 3) := by decide +kernel
theorem dL_turn_7 : decode cL_turn 7 = .ok (.i2l, 1) := by decide +kernel
theorem dL_turn_8 : decode cL_turn 8 = .ok (.lastore, 1) := by decide +kernel
theorem dL_turn_9 : decode cL_turn 9 = .ok (.goto 9, 3) := by decide +kernel
theorem dL_turn_12 : decode cL_turn 12 = .ok (.astore_n 3, 1) := by decide +kernel
theorem dL_turn_13 : decode cL_turn 13 = .ok (.iconst 1, 1) := by decide +kernel
theorem dL_turn_14 : decode cL_turn 14 = .ok (.ireturn, 1) := by decide +kernel
theorem dL_turn_15 : decode cL_turn 15 = .ok (.astore_n 3, 1) := by decide +kernel
theorem dL_turn_16 : decode cL_turn 16 = .ok (.iconst 2, 1) := by decide +kernel
theorem dL_turn_17 : decode cL_turn 17 = .ok (.ireturn, 1) := by decide +kernel
theorem dL_turn_18 : decode cL_turn 18 = .ok (.iconst 0, 1) := by decide +kernel
theorem dL_turn_19 : decode cL_turn 19 = .ok (.ireturn, 1) := by decide +kernel
set_option maxRecDepth 20000 in
theorem ggL_take_X1_take : GoodIn wsL_take wsX1_take := goodIn_ca (goodIn_ca (goodIn_r _ [7, 8, 9, 10, 11, 12, 13, 14, 15, 16, 6, 17, 18, 19, 20, 21, 22, 23, 24, 25, 26, 27, 28, 29, 30, 31, 32, 33, 34, 35, 36, 37, 38, 39, 40, 41, 42, 43, 44, 45, 46, 47, 48, 49, 50, 51, 52, 53, 54, 55, 56, 57, 58, 59, 60, 61, 62, 63, 64, 65, 66, 67, 68] (by decide +kernel) (by decide +kernel)) (goodIn_sub (fun _ h => List.mem_cons_of_mem _ (List.mem_append_left _ (List.mem_append_right _ h))) (by decide +kernel))) (goodIn_sub (fun _ h => List.mem_cons_of_mem _ (List.mem_append_right _ h)) (by decide +kernel))
set_option maxRecDepth 20000 in
theorem gL_take_X1_take : GoodIn wsL_take (wsV RL 34 RX1 yX1_take wsX1_take) := goodIn_app (goodIn_of _ (by decide +kernel)) ggL_take_X1_take
theorem dL_take_0 : decode cL_take 0 = .ok (.aload_n 2, 1) := by decide +kernel
theorem dL_take_1 : decode cL_take 1 = .ok (.iconst 0, 1) := by decide +kernel
theorem dL_take_2 : decode cL_take 2 = .ok (.aload_n 0, 1) := by decide +kernel
theorem dL_take_3 : decode cL_take 3 = .ok (.iload_n 1, 1) := by decide +kernel
theorem dL_take_4 : decode cL_take 4 = .ok (.invokevirtual 34, 3) := by decide +kernel
theorem dL_take_7 : decode cL_take 7 = .ok (.ifCond .eq 7, 3) := by decide +kernel
theorem dL_take_10 : decode cL_take 10 = .ok (.lconst 1, 1) := by decide +kernel
theorem dL_take_11 : decode cL_take 11 = .ok (.goto 4, 3) := by decide +kernel
theorem dL_take_14 : decode cL_take 14 = .ok (.lconst 0, 1) := by decide +kernel
theorem dL_take_15 : decode cL_take 15 = .ok (.lastore, 1) := by decide +kernel
theorem dL_take_16 : decode cL_take 16 = .ok (.goto 9, 3) := by decide +kernel
theorem dL_take_19 : decode cL_take 19 = .ok (.astore_n 3, 1) := by decide +kernel
theorem dL_take_20 : decode cL_take 20 = .ok (.iconst 1, 1) := by decide +kernel
theorem dL_take_21 : decode cL_take 21 = .ok (.ireturn, 1) := by decide +kernel
theorem dL_take_22 : decode cL_take 22 = .ok (.astore_n 3, 1) := by decide +kernel
theorem dL_take_23 : decode cL_take 23 = .ok (.iconst 2, 1) := by decide +kernel
theorem dL_take_24 : decode cL_take 24 = .ok (.ireturn, 1) := by decide +kernel
theorem dL_take_25 : decode cL_take 25 = .ok (.iconst 0, 1) := by decide +kernel
theorem dL_take_26 : decode cL_take 26 = .ok (.ireturn, 1) := by decide +kernel
set_option maxRecDepth 20000 in
theorem ggL_cell_X1_cell : GoodIn wsL_cell wsX1_cell := goodIn_ca (goodIn_r _ [6, 7, 8, 9, 10, 5, 11, 12, 13, 14, 15, 16, 17, 18, 19, 20, 21, 22, 23, 24, 25, 26, 27, 28, 29, 30, 31, 32, 33, 34, 35, 36, 37, 38, 39, 40, 41, 42, 43, 44, 45, 46, 47, 48, 49, 50, 51, 52, 53, 54, 55, 56, 57, 58, 59, 60, 61, 62, 63, 64] (by decide +kernel) (by decide +kernel)) (goodIn_sub (fun _ h => List.mem_cons_of_mem _ (List.mem_append_right _ h)) (by decide +kernel))
set_option maxRecDepth 20000 in
theorem gL_cell_X1_cell : GoodIn wsL_cell (wsV RL 38 RX1 yX1_cell wsX1_cell) := goodIn_app (goodIn_of _ (by decide +kernel)) ggL_cell_X1_cell
theorem dL_cell_0 : decode cL_cell 0 = .ok (.aload 4, 2) := by decide +kernel
theorem dL_cell_2 : decode cL_cell 2 = .ok (.iconst 0, 1) := by decide +kernel
theorem dL_cell_3 : decode cL_cell 3 = .ok (.aload_n 0, 1) := by decide +kernel
theorem dL_cell_4 : decode cL_cell 4 = .ok (.iload_n 1, 1) := by decide +kernel
theorem dL_cell_5 : decode cL_cell 5 = .ok (.iload_n 2, 1) := by decide +kernel
theorem dL_cell_6 : decode cL_cell 6 = .ok (.iload_n 3, 1) := by decide +kernel
theorem dL_cell_7 : decode cL_cell 7 = .ok (.invokevirtual 38, 3) := by decide +kernel
theorem dL_cell_10 : decode cL_cell 10 = .ok (.i2l, 1) := by decide +kernel
theorem dL_cell_11 : decode cL_cell 11 = .ok (.lastore, 1) := by decide +kernel
theorem dL_cell_12 : decode cL_cell 12 = .ok (.goto 7, 3) := by decide +kernel
theorem dL_cell_15 : decode cL_cell 15 = .ok (.astore 5, 2) := by decide +kernel
theorem dL_cell_17 : decode cL_cell 17 = .ok (.iconst 1, 1) := by decide +kernel
theorem dL_cell_18 : decode cL_cell 18 = .ok (.ireturn, 1) := by decide +kernel
theorem dL_cell_19 : decode cL_cell 19 = .ok (.iconst 0, 1) := by decide +kernel
theorem dL_cell_20 : decode cL_cell 20 = .ok (.ireturn, 1) := by decide +kernel
set_option maxRecDepth 20000 in
theorem ggL_piece_X1_piece : GoodIn wsL_piece wsX1_piece := goodIn_ca (goodIn_r _ [6, 7, 8, 9, 10, 11, 5, 12, 13, 14, 15, 16, 17, 18, 19, 20, 21, 22, 23, 24, 25, 26, 27, 28, 29, 30, 31, 32, 33, 34, 35, 36, 37, 38, 39, 40, 41, 42, 43, 44, 45, 46, 47, 48, 49, 50, 51, 52, 53, 54, 55, 56, 57, 58, 59, 60, 61, 62, 63, 64, 65, 66, 67, 68, 69, 70, 71] (by decide +kernel) (by decide +kernel)) (goodIn_sub (fun _ h => List.mem_cons_of_mem _ (List.mem_append_right _ h)) (by decide +kernel))
set_option maxRecDepth 20000 in
theorem gL_piece_X1_piece : GoodIn wsL_piece (wsV RL 42 RX1 yX1_piece wsX1_piece) := goodIn_app (goodIn_of _ (by decide +kernel)) ggL_piece_X1_piece
theorem dL_piece_0 : decode cL_piece 0 = .ok (.aload_n 3, 1) := by decide +kernel
theorem dL_piece_1 : decode cL_piece 1 = .ok (.iconst 0, 1) := by decide +kernel
theorem dL_piece_2 : decode cL_piece 2 = .ok (.aload_n 0, 1) := by decide +kernel
theorem dL_piece_3 : decode cL_piece 3 = .ok (.iload_n 1, 1) := by decide +kernel
theorem dL_piece_4 : decode cL_piece 4 = .ok (.iload_n 2, 1) := by decide +kernel
theorem dL_piece_5 : decode cL_piece 5 = .ok (.invokevirtual 42, 3) := by decide +kernel
theorem dL_piece_8 : decode cL_piece 8 = .ok (.i2l, 1) := by decide +kernel
theorem dL_piece_9 : decode cL_piece 9 = .ok (.lastore, 1) := by decide +kernel
theorem dL_piece_10 : decode cL_piece 10 = .ok (.goto 7, 3) := by decide +kernel
theorem dL_piece_13 : decode cL_piece 13 = .ok (.astore 4, 2) := by decide +kernel
theorem dL_piece_15 : decode cL_piece 15 = .ok (.iconst 1, 1) := by decide +kernel
theorem dL_piece_16 : decode cL_piece 16 = .ok (.ireturn, 1) := by decide +kernel
theorem dL_piece_17 : decode cL_piece 17 = .ok (.iconst 0, 1) := by decide +kernel
theorem dL_piece_18 : decode cL_piece 18 = .ok (.ireturn, 1) := by decide +kernel
set_option maxRecDepth 20000 in
theorem ggL_count_X1_count : GoodIn wsL_count wsX1_count := goodIn_ca (goodIn_r _ [6, 7, 8, 9, 10, 5, 11, 12, 13, 14, 15, 16, 17, 18, 19, 20, 21, 22, 23, 24, 25, 26, 27, 28, 29, 30, 31, 32, 33, 34, 35, 36, 37, 38, 39, 40, 41, 42, 43, 44, 45, 46, 47, 48, 49, 50, 51, 52, 53, 54, 55, 56, 57, 58, 59, 60, 61, 62, 63, 64, 65, 66, 67, 68, 69, 70, 71, 72, 73, 74, 75, 76, 77, 78, 79, 80, 81, 82, 83, 84, 85, 86, 87, 88, 89, 90, 91, 92, 93, 94, 95] (by decide +kernel) (by decide +kernel)) (goodIn_sub (fun _ h => List.mem_cons_of_mem _ (List.mem_append_right _ h)) (by decide +kernel))
set_option maxRecDepth 20000 in
theorem gL_count_X1_count : GoodIn wsL_count (wsV RL 45 RX1 yX1_count wsX1_count) := goodIn_app (goodIn_of _ (by decide +kernel)) ggL_count_X1_count
theorem dL_count_0 : decode cL_count 0 = .ok (.aload_n 2, 1) := by decide +kernel
theorem dL_count_1 : decode cL_count 1 = .ok (.iconst 0, 1) := by decide +kernel
theorem dL_count_2 : decode cL_count 2 = .ok (.aload_n 0, 1) := by decide +kernel
theorem dL_count_3 : decode cL_count 3 = .ok (.iload_n 1, 1) := by decide +kernel
theorem dL_count_4 : decode cL_count 4 = .ok (.invokevirtual 45, 3) := by decide +kernel
theorem dL_count_7 : decode cL_count 7 = .ok (.i2l, 1) := by decide +kernel
theorem dL_count_8 : decode cL_count 8 = .ok (.lastore, 1) := by decide +kernel
theorem dL_count_9 : decode cL_count 9 = .ok (.goto 6, 3) := by decide +kernel
theorem dL_count_12 : decode cL_count 12 = .ok (.astore_n 3, 1) := by decide +kernel
theorem dL_count_13 : decode cL_count 13 = .ok (.iconst 1, 1) := by decide +kernel
theorem dL_count_14 : decode cL_count 14 = .ok (.ireturn, 1) := by decide +kernel
theorem dL_count_15 : decode cL_count 15 = .ok (.iconst 0, 1) := by decide +kernel
theorem dL_count_16 : decode cL_count 16 = .ok (.ireturn, 1) := by decide +kernel
set_option maxRecDepth 20000 in
theorem ggL_off_X1_off : GoodIn wsL_off wsX1_off := goodIn_ca (goodIn_r _ [6, 7, 8, 5, 9, 10, 11, 12, 13, 14, 15, 16, 17, 18, 19, 20, 21, 22, 23, 24, 25, 26, 27, 28, 29, 30, 31, 32, 33, 34, 35, 36, 37, 38, 39, 40, 41, 42, 43, 44, 45, 46, 47, 48, 49, 50, 51, 52, 53, 54, 55, 56, 57, 58, 59, 60, 61, 62, 63, 64, 65, 66, 67] (by decide +kernel) (by decide +kernel)) (goodIn_sub (fun _ h => List.mem_cons_of_mem _ (List.mem_append_right _ h)) (by decide +kernel))
set_option maxRecDepth 20000 in
theorem gL_off_X1_off : GoodIn wsL_off (wsV RL 48 RX1 yX1_off wsX1_off) := goodIn_app (goodIn_of _ (by decide +kernel)) ggL_off_X1_off
theorem dL_off_0 : decode cL_off 0 = .ok (.aload 4, 2) := by decide +kernel
theorem dL_off_2 : decode cL_off 2 = .ok (.iconst 0, 1) := by decide +kernel
theorem dL_off_3 : decode cL_off 3 = .ok (.aload_n 0, 1) := by decide +kernel
theorem dL_off_4 : decode cL_off 4 = .ok (.iload_n 1, 1) := by decide +kernel
theorem dL_off_5 : decode cL_off 5 = .ok (.iload_n 2, 1) := by decide +kernel
theorem dL_off_6 : decode cL_off 6 = .ok (.iload_n 3, 1) := by decide +kernel
theorem dL_off_7 : decode cL_off 7 = .ok (.invokevirtual 48, 3) := by decide +kernel
theorem dL_off_10 : decode cL_off 10 = .ok (.i2l, 1) := by decide +kernel
theorem dL_off_11 : decode cL_off 11 = .ok (.lastore, 1) := by decide +kernel
theorem dL_off_12 : decode cL_off 12 = .ok (.goto 7, 3) := by decide +kernel
theorem dL_off_15 : decode cL_off 15 = .ok (.astore 5, 2) := by decide +kernel
theorem dL_off_17 : decode cL_off 17 = .ok (.iconst 1, 1) := by decide +kernel
theorem dL_off_18 : decode cL_off 18 = .ok (.ireturn, 1) := by decide +kernel
theorem dL_off_19 : decode cL_off 19 = .ok (.iconst 0, 1) := by decide +kernel
theorem dL_off_20 : decode cL_off 20 = .ok (.ireturn, 1) := by decide +kernel
set_option maxRecDepth 20000 in
theorem ggL_advise_X1_advise : GoodIn wsL_advise wsX1_advise := goodIn_ca (goodIn_r _ [6, 7, 8, 9, 10, 5, 11, 12, 13, 14, 15, 16, 17, 18, 19, 20, 21, 22, 23, 24, 25, 26, 27, 28, 29, 30, 31, 32, 33, 34, 35, 36, 37, 38, 39, 40, 41, 42, 43, 44, 45, 46, 47, 48, 49, 50, 51, 52, 53, 54, 55, 56, 57, 58, 59, 60, 61, 62, 63, 64, 65, 66, 67, 68, 69, 70, 71, 72, 73, 74, 75, 76, 77, 78, 79, 80, 81, 82, 83, 84, 85] (by decide +kernel) (by decide +kernel)) (goodIn_sub (fun _ h => List.mem_cons_of_mem _ (List.mem_append_right _ h)) (by decide +kernel))
set_option maxRecDepth 20000 in
theorem gL_advise_X1_advise : GoodIn wsL_advise (wsV RL 51 RX1 yX1_advise wsX1_advise) := goodIn_app (goodIn_of _ (by decide +kernel)) ggL_advise_X1_advise
theorem dL_advise_0 : decode cL_advise 0 = .ok (.aload 4, 2) := by decide +kernel
theorem dL_advise_2 : decode cL_advise 2 = .ok (.iconst 0, 1) := by decide +kernel
theorem dL_advise_3 : decode cL_advise 3 = .ok (.aload_n 0, 1) := by decide +kernel
theorem dL_advise_4 : decode cL_advise 4 = .ok (.iload_n 1, 1) := by decide +kernel
theorem dL_advise_5 : decode cL_advise 5 = .ok (.iload_n 2, 1) := by decide +kernel
theorem dL_advise_6 : decode cL_advise 6 = .ok (.iload_n 3, 1) := by decide +kernel
theorem dL_advise_7 : decode cL_advise 7 = .ok (.invokevirtual 51, 3) := by decide +kernel
theorem dL_advise_10 : decode cL_advise 10 = .ok (.i2l, 1) := by decide +kernel
theorem dL_advise_11 : decode cL_advise 11 = .ok (.lastore, 1) := by decide +kernel
theorem dL_advise_12 : decode cL_advise 12 = .ok (.goto 7, 3) := by decide +kernel
theorem dL_advise_15 : decode cL_advise 15 = .ok (.astore 5, 2) := by decide +kernel
theorem dL_advise_17 : decode cL_advise 17 = .ok (.iconst 1, 1) := by decide +kernel
theorem dL_advise_18 : decode cL_advise 18 = .ok (.ireturn, 1) := by decide +kernel
theorem dL_advise_19 : decode cL_advise 19 = .ok (.iconst 0, 1) := by decide +kernel
theorem dL_advise_20 : decode cL_advise 20 = .ok (.ireturn, 1) := by decide +kernel
set_option maxRecDepth 20000 in
theorem ggL_mends_X1_mends : GoodIn wsL_mends wsX1_mends := goodIn_ca (goodIn_r _ [6, 7, 8, 5, 9, 10, 11, 12, 13, 14, 15, 16, 17, 18, 19, 20, 21, 22, 23, 24, 25, 26, 27, 28, 29, 30, 31, 32, 33, 34, 35, 36, 37, 38, 39, 40, 41, 42, 43, 44, 45, 46, 47, 48, 49, 50, 51, 52, 53, 54] (by decide +kernel) (by decide +kernel)) (goodIn_sub (fun _ h => List.mem_cons_of_mem _ (List.mem_append_right _ h)) (by decide +kernel))
set_option maxRecDepth 20000 in
theorem gL_mends_X1_mends : GoodIn wsL_mends (wsV RL 54 RX1 yX1_mends wsX1_mends) := goodIn_app (goodIn_of _ (by decide +kernel)) ggL_mends_X1_mends
theorem dL_mends_0 : decode cL_mends 0 = .ok (.aload 4, 2) := by decide +kernel
theorem dL_mends_2 : decode cL_mends 2 = .ok (.iconst 0, 1) := by decide +kernel
theorem dL_mends_3 : decode cL_mends 3 = .ok (.aload_n 0, 1) := by decide +kernel
theorem dL_mends_4 : decode cL_mends 4 = .ok (.iload_n 1, 1) := by decide +kernel
theorem dL_mends_5 : decode cL_mends 5 = .ok (.iload_n 2, 1) := by decide +kernel
theorem dL_mends_6 : decode cL_mends 6 = .ok (.iload_n 3, 1) := by decide +kernel
theorem dL_mends_7 : decode cL_mends 7 = .ok (.invokevirtual 54, 3) := by decide +kernel
theorem dL_mends_10 : decode cL_mends 10 = .ok (.i2l, 1) := by decide +kernel
theorem dL_mends_11 : decode cL_mends 11 = .ok (.lastore, 1) := by decide +kernel
theorem dL_mends_12 : decode cL_mends 12 = .ok (.goto 7, 3) := by decide +kernel
theorem dL_mends_15 : decode cL_mends 15 = .ok (.astore 5, 2) := by decide +kernel
theorem dL_mends_17 : decode cL_mends 17 = .ok (.iconst 1, 1) := by decide +kernel
theorem dL_mends_18 : decode cL_mends 18 = .ok (.ireturn, 1) := by decide +kernel
theorem dL_mends_19 : decode cL_mends 19 = .ok (.iconst 0, 1) := by decide +kernel
theorem dL_mends_20 : decode cL_mends 20 = .ok (.ireturn, 1) := by decide +kernel
set_option maxRecDepth 20000 in
theorem ggL_gap_X1_gap : GoodIn wsL_gap wsX1_gap := goodIn_ca (goodIn_r _ [6, 7, 8, 5, 9, 10, 11, 12, 13, 14, 15, 16, 17, 18, 19, 20, 21, 22, 23, 24, 25, 26, 27, 28, 29, 30, 31, 32, 33, 34, 35, 36, 37, 38, 39, 40, 41, 42, 43, 44, 45, 46, 47, 48, 49, 50] (by decide +kernel) (by decide +kernel)) (goodIn_sub (fun _ h => List.mem_cons_of_mem _ (List.mem_append_right _ h)) (by decide +kernel))
set_option maxRecDepth 20000 in
theorem gL_gap_X1_gap : GoodIn wsL_gap (wsV RL 58 RX1 yX1_gap wsX1_gap) := goodIn_app (goodIn_of _ (by decide +kernel)) ggL_gap_X1_gap
theorem dL_gap_0 : decode cL_gap 0 = .ok (.aload_n 3, 1) := by decide +kernel
theorem dL_gap_1 : decode cL_gap 1 = .ok (.iconst 0, 1) := by decide +kernel
theorem dL_gap_2 : decode cL_gap 2 = .ok (.aload_n 0, 1) := by decide +kernel
theorem dL_gap_3 : decode cL_gap 3 = .ok (.iload_n 1, 1) := by decide +kernel
theorem dL_gap_4 : decode cL_gap 4 = .ok (.iload_n 2, 1) := by decide +kernel
theorem dL_gap_5 : decode cL_gap 5 = .ok (.invokevirtual 58, 3) := by decide +kernel
theorem dL_gap_8 : decode cL_gap 8 = .ok (.i2l, 1) := by decide +kernel
theorem dL_gap_9 : decode cL_gap 9 = .ok (.lastore, 1) := by decide +kernel
theorem dL_gap_10 : decode cL_gap 10 = .ok (.goto 7, 3) := by decide +kernel
theorem dL_gap_13 : decode cL_gap 13 = .ok (.astore 4, 2) := by decide +kernel
theorem dL_gap_15 : decode cL_gap 15 = .ok (.iconst 1, 1) := by decide +kernel
theorem dL_gap_16 : decode cL_gap 16 = .ok (.ireturn, 1) := by decide +kernel
theorem dL_gap_17 : decode cL_gap 17 = .ok (.iconst 0, 1) := by decide +kernel
theorem dL_gap_18 : decode cL_gap 18 = .ok (.ireturn, 1) := by decide +kernel
set_option maxRecDepth 20000 in
theorem ggL_pass_X1_pass : GoodIn wsL_pass wsX1_pass := goodIn_ca (goodIn_r _ [6, 7, 8, 9, 10, 11, 12, 5, 13, 14, 15, 16, 17, 18, 19, 20, 21, 22, 23, 24, 25, 26, 27, 28, 29, 30, 31, 32, 33, 34, 35, 36, 37, 38, 39, 40, 41, 42, 43, 44, 45, 46, 47, 48, 49, 50, 51, 52, 53, 54, 55, 56, 57, 58, 59, 60, 61, 62, 63, 64, 65, 66, 67, 68, 69, 70, 71, 72, 73, 74, 75] (by decide +kernel) (by decide +kernel)) (goodIn_sub (fun _ h => List.mem_cons_of_mem _ (List.mem_append_right _ h)) (by decide +kernel))
set_option maxRecDepth 20000 in
theorem gL_pass_X1_pass : GoodIn wsL_pass (wsV RL 61 RX1 yX1_pass wsX1_pass) := goodIn_app (goodIn_of _ (by decide +kernel)) ggL_pass_X1_pass
theorem dL_pass_0 : decode cL_pass 0 = .ok (.aload_n 2, 1) := by decide +kernel
theorem dL_pass_1 : decode cL_pass 1 = .ok (.iconst 0, 1) := by decide +kernel
theorem dL_pass_2 : decode cL_pass 2 = .ok (.aload_n 0, 1) := by decide +kernel
theorem dL_pass_3 : decode cL_pass 3 = .ok (.iload_n 1, 1) := by decide +kernel
theorem dL_pass_4 : decode cL_pass 4 = .ok (.invokevirtual 61, 3) := by decide +kernel
theorem dL_pass_7 : decode cL_pass 7 = .ok (.i2l, 1) := by decide +kernel
theorem dL_pass_8 : decode cL_pass 8 = .ok (.lastore, 1) := by decide +kernel
theorem dL_pass_9 : decode cL_pass 9 = .ok (.goto 6, 3) := by decide +kernel
theorem dL_pass_12 : decode cL_pass 12 = .ok (.astore_n 3, 1) := by decide +kernel
theorem dL_pass_13 : decode cL_pass 13 = .ok (.iconst 1, 1) := by decide +kernel
theorem dL_pass_14 : decode cL_pass 14 = .ok (.ireturn, 1) := by decide +kernel
theorem dL_pass_15 : decode cL_pass 15 = .ok (.iconst 0, 1) := by decide +kernel
theorem dL_pass_16 : decode cL_pass 16 = .ok (.ireturn, 1) := by decide +kernel
set_option maxRecDepth 20000 in
theorem ggL_loose_X1_loose : GoodIn wsL_loose wsX1_loose := goodIn_ca (goodIn_r _ [6, 7, 8, 9, 10, 11, 12, 13, 14, 15, 16, 17, 18, 5, 19, 20, 21, 22, 23, 24, 25, 26, 27, 28, 29, 30, 31, 32, 33, 34, 35, 36, 37, 38, 39, 40, 41, 42, 43, 44, 45, 46, 47, 48, 49, 50, 51, 52, 53, 54, 55, 56, 57, 58, 59, 60, 61, 62, 63, 64, 65, 66, 67, 68, 69, 70, 71, 72, 73, 74, 75, 76] (by decide +kernel) (by decide +kernel)) (goodIn_sub (fun _ h => List.mem_cons_of_mem _ (List.mem_append_right _ h)) (by decide +kernel))
set_option maxRecDepth 20000 in
theorem gL_loose_X1_loose : GoodIn wsL_loose (wsV RL 64 RX1 yX1_loose wsX1_loose) := goodIn_app (goodIn_of _ (by decide +kernel)) ggL_loose_X1_loose
theorem dL_loose_0 : decode cL_loose 0 = .ok (.aload_n 2, 1) := by decide +kernel
theorem dL_loose_1 : decode cL_loose 1 = .ok (.iconst 0, 1) := by decide +kernel
theorem dL_loose_2 : decode cL_loose 2 = .ok (.aload_n 0, 1) := by decide +kernel
theorem dL_loose_3 : decode cL_loose 3 = .ok (.iload_n 1, 1) := by decide +kernel
theorem dL_loose_4 : decode cL_loose 4 = .ok (.invokevirtual 64, 3) := by decide +kernel
theorem dL_loose_7 : decode cL_loose 7 = .ok (.i2l, 1) := by decide +kernel
theorem dL_loose_8 : decode cL_loose 8 = .ok (.lastore, 1) := by decide +kernel
theorem dL_loose_9 : decode cL_loose 9 = .ok (.goto 6, 3) := by decide +kernel
theorem dL_loose_12 : decode cL_loose 12 = .ok (.astore_n 3, 1) := by decide +kernel
theorem dL_loose_13 : decode cL_loose 13 = .ok (.iconst 1, 1) := by decide +kernel
theorem dL_loose_14 : decode cL_loose 14 = .ok (.ireturn, 1) := by decide +kernel
theorem dL_loose_15 : decode cL_loose 15 = .ok (.iconst 0, 1) := by decide +kernel
theorem dL_loose_16 : decode cL_loose 16 = .ok (.ireturn, 1) := by decide +kernel
set_option maxRecDepth 20000 in
theorem ggL_law_X1_init : GoodIn wsL_law wsX1_init := goodIn_r _ [9, 10, 11, 12, 13, 14, 15, 16, 17, 18, 19, 20, 21, 514, 515, 516, 517, 518, 519, 520, 521, 522] (by decide +kernel) (by decide +kernel)
set_option maxRecDepth 20000 in
theorem gL_law_X1_init : GoodIn wsL_law (wsX1_init) := ggL_law_X1_init
set_option maxRecDepth 20000 in
theorem ggL_law_X3_init : GoodIn wsL_law wsX3_init := goodIn_r _ [24, 25, 11, 12, 13, 26, 27, 28, 29, 30, 31, 32, 33, 34, 35, 36, 37, 38, 39, 40, 41, 42, 43, 44, 45, 523, 524, 525, 526, 527, 528, 529, 530, 531, 532, 533, 534, 535, 536, 537, 538, 539] (by decide +kernel) (by decide +kernel)
set_option maxRecDepth 20000 in
theorem gL_law_X3_init : GoodIn wsL_law (wsX3_init) := ggL_law_X3_init
set_option maxRecDepth 20000 in
theorem ggL_law_L_spread : GoodIn wsL_law wsL_spread := goodIn_ca (goodIn_ca (goodIn_r _ [49, 50, 51, 52, 53, 54, 2, 55, 56, 57, 15, 14, 58, 59, 60, 61, 62, 63, 64, 65, 66, 67, 68, 69, 70, 71, 72, 73, 74, 75, 76, 77, 514, 515, 516, 517, 518, 519, 520, 521, 522] (by decide +kernel) (by decide +kernel)) (goodIn_sub (fun _ h => List.mem_append_left _ (List.mem_append_left _ (List.mem_append_right _ h))) (by decide +kernel))) (goodIn_sub (fun _ h => List.mem_append_left _ (List.mem_append_right _ h)) (by decide +kernel))
set_option maxRecDepth 20000 in
theorem gL_law_L_spread : GoodIn wsL_law (va_wsS RL 71 yL_spread wsL_spread) := goodIn_app (goodIn_of _ (by decide +kernel)) ggL_law_L_spread
set_option maxRecDepth 20000 in
theorem ggL_law_X3_spread : GoodIn wsL_law wsX3_spread := goodIn_r _ [81, 82, 32, 39, 83, 84, 5, 85, 86, 87, 88, 89, 90, 91, 92, 523, 524, 525, 526, 527, 528, 529, 530, 531, 532, 533, 534, 535, 536, 537, 538, 539] (by decide +kernel) (by decide +kernel)
set_option maxRecDepth 20000 in
theorem gL_law_X3_spread : GoodIn wsL_law (wsV RL 76 RX3 yX3_spread wsX3_spread) := goodIn_app (goodIn_of _ (by decide +kernel)) ggL_law_X3_spread
set_option maxRecDepth 20000 in
theorem ggL_law_X3_thrown : GoodIn wsL_law wsX3_thrown := goodIn_r _ [96, 82, 523, 524, 525, 526, 527, 528, 529, 530, 531, 532, 533, 534, 535, 536] (by decide +kernel) (by decide +kernel)
set_option maxRecDepth 20000 in
theorem gL_law_X3_thrown : GoodIn wsL_law (wsV RL 77 RX3 yX3_thrown wsX3_thrown) := goodIn_app (goodIn_of _ (by decide +kernel)) ggL_law_X3_thrown
set_option maxRecDepth 20000 in
theorem ggL_law_L_setSun : GoodIn wsL_law wsL_setSun := goodIn_ca (goodIn_ca (goodIn_r _ [99, 50, 51, 100, 101, 102, 2, 103, 61, 62, 56, 57, 16, 66, 67, 68, 72, 73, 74, 75, 76, 77, 514, 515, 516, 517, 518, 519, 520, 521, 522] (by decide +kernel) (by decide +kernel)) (goodIn_sub (fun _ h => List.mem_append_left _ (List.mem_append_right _ h)) (by decide +kernel))) (goodIn_sub (fun _ h => List.mem_append_left _ (List.mem_append_left _ (List.mem_append_right _ h))) (by decide +kernel))
set_option maxRecDepth 20000 in
theorem gL_law_L_setSun : GoodIn wsL_law (va_wsS RL 81 yL_setSun wsL_setSun) := goodIn_app (goodIn_of _ (by decide +kernel)) ggL_law_L_setSun
set_option maxRecDepth 20000 in
theorem ggL_law_X3_setSun : GoodIn wsL_law wsX3_setSun := goodIn_r _ [107, 82, 33, 86, 87, 5, 88, 89, 90, 91, 92, 523, 524, 525, 526, 527, 528, 529, 530, 531, 532, 533, 534, 535, 536] (by decide +kernel) (by decide +kernel)
set_option maxRecDepth 20000 in
theorem gL_law_X3_setSun : GoodIn wsL_law (wsV RL 84 RX3 yX3_setSun wsX3_setSun) := goodIn_app (goodIn_of _ (by decide +kernel)) ggL_law_X3_setSun
set_option maxRecDepth 20000 in
theorem ggL_law_L_press : GoodIn wsL_law wsL_press := goodIn_ca (goodIn_ca (goodIn_ca (goodIn_r _ [110, 50, 51, 111, 112, 113, 114, 2, 115, 56, 57, 116, 117, 118, 18, 17, 119, 120, 58, 59, 60, 61, 62, 63, 64, 65, 66, 67, 68, 121, 122, 123, 124, 125, 126, 127, 69, 70, 71, 128, 129, 130, 131, 15, 14, 72, 73, 74, 132, 133, 134, 135, 11, 12, 136, 137, 138, 139, 140, 141, 142, 143, 144, 145, 146, 147, 148, 149, 150, 75, 76, 77, 514, 515, 516, 517, 518, 519, 520, 521, 522, 540, 541, 542, 543, 544, 545, 546, 547] (by decide +kernel) (by decide +kernel)) (goodIn_sub (fun _ h => List.mem_append_left _ (List.mem_append_left _ (List.mem_append_right _ h))) (by decide +kernel))) (goodIn_sub (fun _ h => List.mem_append_right _ h) (by decide +kernel))) (goodIn_sub (fun _ h => List.mem_append_left _ (List.mem_append_right _ h)) (by decide +kernel))
set_option maxRecDepth 20000 in
theorem gL_law_L_press : GoodIn wsL_law (va_wsS RL 85 yL_press wsL_press) := goodIn_app (goodIn_of _ (by decide +kernel)) ggL_law_L_press
set_option maxRecDepth 20000 in
theorem ggL_law_X3_press : GoodIn wsL_law wsX3_press := goodIn_r _ [154, 82, 155, 26, 27, 28, 29, 30, 83, 84, 5, 85, 86, 87, 88, 89, 90, 91, 92, 156, 157, 158, 159, 160, 161, 162, 39, 32, 163, 164, 165, 166, 523, 524, 525, 526, 527, 528, 529, 530, 531, 532, 533, 534, 535, 536, 537, 538, 539] (by decide +kernel) (by decide +kernel)
set_option maxRecDepth 20000 in
theorem gL_law_X3_press : GoodIn wsL_law (wsV RL 88 RX3 yX3_press wsX3_press) := goodIn_app (goodIn_of _ (by decide +kernel)) ggL_law_X3_press
set_option maxRecDepth 20000 in
theorem ggL_law_L_flip : GoodIn wsL_law wsL_flip := goodIn_ca (goodIn_ca (goodIn_r _ [169, 50, 111, 170, 171, 172, 2, 173, 61, 62, 116, 117, 14, 174, 146, 175, 176, 177, 178, 118, 18, 66, 67, 68, 179, 180, 181, 182, 147, 148, 149, 120, 150, 139, 136, 137, 70, 71, 72, 73, 74, 75, 76, 77, 183, 184, 185, 186, 187, 141, 140, 514, 515, 516, 517, 518, 519, 520, 521, 522, 540, 541, 542, 543, 544, 545, 546, 547] (by decide +kernel) (by decide +kernel)) (goodIn_sub (fun _ h => List.mem_append_left _ (List.mem_append_right _ h)) (by decide +kernel))) (goodIn_sub (fun _ h => List.mem_append_right _ h) (by decide +kernel))
set_option maxRecDepth 20000 in
theorem gL_law_L_flip : GoodIn wsL_law (va_wsS RL 89 yL_flip wsL_flip) := goodIn_app (goodIn_of _ (by decide +kernel)) ggL_law_L_flip
set_option maxRecDepth 20000 in
theorem ggL_law_X3_flip : GoodIn wsL_law wsX3_flip := goodIn_r _ [191, 82, 39, 29, 192, 193, 194, 5, 195, 155, 86, 87, 88, 89, 90, 91, 92, 196, 197, 198, 38, 199, 43, 45, 200, 201, 202, 203, 30, 204, 205, 206, 207, 28, 27, 26, 523, 524, 525, 526, 527, 528, 529, 530, 531, 532, 533, 534, 535, 536, 537, 538, 539] (by decide +kernel) (by decide +kernel)
set_option maxRecDepth 20000 in
theorem gL_law_X3_flip : GoodIn wsL_law (wsV RL 92 RX3 yX3_flip wsX3_flip) := goodIn_app (goodIn_of _ (by decide +kernel)) ggL_law_X3_flip
set_option maxRecDepth 20000 in
theorem ggL_law_L_turn : GoodIn wsL_law wsL_turn := goodIn_ca (goodIn_ca (goodIn_r _ [210, 50, 111, 211, 212, 213, 2, 214, 61, 62, 116, 117, 14, 215, 216, 146, 217, 175, 176, 177, 178, 118, 18, 66, 67, 68, 179, 180, 181, 182, 147, 148, 149, 120, 150, 139, 136, 137, 70, 71, 72, 73, 74, 124, 125, 126, 127, 63, 64, 65, 69, 128, 129, 130, 131, 15, 142, 143, 144, 145, 75, 76, 77, 514, 515, 516, 517, 518, 519, 520, 521, 522, 540, 541, 542, 543, 544, 545, 546, 547] (by decide +kernel) (by decide +kernel)) (goodIn_sub (fun _ h => List.mem_append_left _ (List.mem_append_right _ h)) (by decide +kernel))) (goodIn_sub (fun _ h => List.mem_append_right _ h) (by decide +kernel))
set_option maxRecDepth 20000 in
theorem gL_law_L_turn : GoodIn wsL_law (va_wsS RL 93 yL_turn wsL_turn) := goodIn_app (goodIn_of _ (by decide +kernel)) ggL_law_L_turn
set_option maxRecDepth 20000 in
theorem ggL_law_X3_turn : GoodIn wsL_law wsX3_turn := goodIn_r _ [221, 82, 39, 26, 27, 28, 192, 193, 194, 5, 195, 155, 86, 87, 88, 89, 90, 91, 92, 196, 197, 198, 38, 199, 43, 45, 159, 160, 161, 162, 32, 163, 164, 165, 166, 523, 524, 525, 526, 527, 528, 529, 530, 531, 532, 533, 534, 535, 536, 537, 538, 539] (by decide +kernel) (by decide +kernel)
set_option maxRecDepth 20000 in
theorem gL_law_X3_turn : GoodIn wsL_law (wsV RL 95 RX3 yX3_turn wsX3_turn) := goodIn_app (goodIn_of _ (by decide +kernel)) ggL_law_X3_turn
set_option maxRecDepth 20000 in
theorem ggL_law_L_take : GoodIn wsL_law wsL_take := goodIn_ca (goodIn_ca (goodIn_r _ [224, 50, 111, 225, 226, 227, 2, 228, 61, 62, 116, 117, 182, 14, 175, 176, 177, 178, 118, 18, 66, 67, 68, 179, 180, 181, 146, 147, 148, 149, 120, 150, 139, 136, 137, 70, 71, 72, 73, 74, 142, 143, 144, 145, 15, 75, 76, 77, 229, 230, 231, 232, 540, 541, 542, 543, 544, 545, 546, 547, 514, 515, 516, 517, 518, 519, 520, 521, 522] (by decide +kernel) (by decide +kernel)) (goodIn_sub (fun _ h => List.mem_append_left _ (List.mem_append_right _ h)) (by decide +kernel))) (goodIn_sub (fun _ h => List.mem_append_right _ h) (by decide +kernel))
set_option maxRecDepth 20000 in
theorem gL_law_L_take : GoodIn wsL_law (va_wsS RL 96 yL_take wsL_take) := goodIn_app (goodIn_of _ (by decide +kernel)) ggL_law_L_take
set_option maxRecDepth 20000 in
theorem ggL_law_X3_take : GoodIn wsL_law wsX3_take := goodIn_r _ [236, 82, 31, 39, 192, 193, 194, 5, 195, 155, 86, 87, 88, 89, 90, 91, 92, 196, 197, 198, 38, 199, 43, 45, 204, 205, 206, 207, 28, 27, 26, 163, 164, 165, 166, 32, 523, 524, 525, 526, 527, 528, 529, 530, 531, 532, 533, 534, 535, 536, 537, 538, 539] (by decide +kernel) (by decide +kernel)
set_option maxRecDepth 20000 in
theorem gL_law_X3_take : GoodIn wsL_law (wsV RL 98 RX3 yX3_take wsX3_take) := goodIn_app (goodIn_of _ (by decide +kernel)) ggL_law_X3_take
set_option maxRecDepth 20000 in
theorem ggL_law_L_cell : GoodIn wsL_law wsL_cell := goodIn_ca (goodIn_r _ [239, 50, 240, 241, 242, 2, 243, 61, 62, 58, 59, 60, 63, 64, 65, 66, 67, 68, 69, 70, 71, 244, 245, 246, 247, 14, 15, 72, 73, 74, 248, 249, 250, 251, 175, 176, 177, 178, 118, 18, 183, 184, 185, 120, 186, 187, 141, 140, 514, 515, 516, 517, 518, 519, 520, 521, 522, 540, 541, 542, 543, 544, 545, 546, 547] (by decide +kernel) (by decide +kernel)) (goodIn_sub (fun _ h => List.mem_append_left _ (List.mem_append_right _ h)) (by decide +kernel))
set_option maxRecDepth 20000 in
theorem gL_law_L_cell : GoodIn wsL_law (va_wsS RL 99 yL_cell wsL_cell) := goodIn_app (goodIn_of _ (by decide +kernel)) ggL_law_L_cell
set_option maxRecDepth 20000 in
theorem ggL_law_X3_cell : GoodIn wsL_law wsX3_cell := goodIn_r _ [255, 82, 83, 84, 5, 85, 86, 87, 88, 256, 257, 258, 259, 39, 32, 260, 261, 262, 263, 29, 89, 90, 91, 92, 523, 524, 525, 526, 527, 528, 529, 530, 531, 532, 533, 534, 535, 536, 537, 538, 539] (by decide +kernel) (by decide +kernel)
set_option maxRecDepth 20000 in
theorem gL_law_X3_cell : GoodIn wsL_law (wsV RL 102 RX3 yX3_cell wsX3_cell) := goodIn_app (goodIn_of _ (by decide +kernel)) ggL_law_X3_cell
set_option maxRecDepth 20000 in
theorem ggL_law_L_piece : GoodIn wsL_law wsL_piece := goodIn_ca (goodIn_r _ [266, 50, 267, 268, 269, 2, 270, 61, 62, 175, 176, 177, 178, 118, 18, 66, 67, 68, 271, 272, 273, 274, 215, 216, 146, 217, 14, 182, 183, 184, 185, 120, 186, 187, 141, 140, 275, 276, 277, 278, 179, 180, 181, 147, 148, 149, 150, 139, 136, 137, 70, 71, 72, 73, 74, 514, 515, 516, 517, 518, 519, 520, 521, 522, 540, 541, 542, 543, 544, 545, 546, 547] (by decide +kernel) (by decide +kernel)) (goodIn_sub (fun _ h => List.mem_append_left _ (List.mem_append_right _ h)) (by decide +kernel))
set_option maxRecDepth 20000 in
theorem gL_law_L_piece : GoodIn wsL_law (va_wsS RL 103 yL_piece wsL_piece) := goodIn_app (goodIn_of _ (by decide +kernel)) ggL_law_L_piece
set_option maxRecDepth 20000 in
theorem ggL_law_X3_piece : GoodIn wsL_law wsX3_piece := goodIn_r _ [282, 82, 192, 193, 194, 5, 195, 155, 86, 87, 88, 283, 284, 285, 286, 26, 27, 28, 29, 30, 39, 31, 196, 197, 198, 38, 199, 43, 45, 89, 90, 91, 92, 523, 524, 525, 526, 527, 528, 529, 530, 531, 532, 533, 534, 535, 536, 537, 538, 539] (by decide +kernel) (by decide +kernel)
set_option maxRecDepth 20000 in
theorem gL_law_X3_piece : GoodIn wsL_law (wsV RL 105 RX3 yX3_piece wsX3_piece) := goodIn_app (goodIn_of _ (by decide +kernel)) ggL_law_X3_piece
set_option maxRecDepth 20000 in
theorem ggL_law_L_count : GoodIn wsL_law wsL_count := goodIn_ca (goodIn_r _ [289, 50, 290, 291, 292, 2, 293, 61, 62, 66, 67, 68, 294, 295, 296, 297, 298, 118, 14, 15, 299, 300, 301, 302, 182, 175, 176, 177, 178, 18, 303, 304, 305, 306, 179, 180, 181, 146, 147, 148, 149, 120, 150, 139, 136, 137, 70, 71, 72, 73, 74, 307, 308, 309, 310, 311, 312, 313, 314, 315, 316, 317, 20, 318, 319, 320, 321, 21, 322, 323, 324, 325, 69, 63, 64, 65, 75, 76, 77, 514, 515, 516, 517, 518, 519, 520, 521, 522, 540, 541, 542, 543, 544, 545, 546, 547] (by decide +kernel) (by decide +kernel)) (goodIn_sub (fun _ h => List.mem_append_left _ (List.mem_append_right _ h)) (by decide +kernel))
set_option maxRecDepth 20000 in
theorem gL_law_L_count : GoodIn wsL_law (va_wsS RL 106 yL_count wsL_count) := goodIn_app (goodIn_of _ (by decide +kernel)) ggL_law_L_count
set_option maxRecDepth 20000 in
theorem ggL_law_X3_count : GoodIn wsL_law wsX3_count := goodIn_r _ [329, 82, 86, 87, 5, 88, 330, 331, 332, 333, 39, 155, 31, 334, 335, 336, 337, 196, 197, 198, 38, 199, 43, 45, 338, 339, 340, 341, 342, 343, 344, 345, 32, 346, 347, 348, 349, 35, 350, 351, 352, 353, 354, 355, 356, 357, 34, 358, 359, 360, 83, 84, 85, 89, 90, 91, 92, 523, 524, 525, 526, 527, 528, 529, 530, 531, 532, 533, 534, 535, 536, 537, 538, 539] (by decide +kernel) (by decide +kernel)
set_option maxRecDepth 20000 in
theorem gL_law_X3_count : GoodIn wsL_law (wsV RL 108 RX3 yX3_count wsX3_count) := goodIn_app (goodIn_of _ (by decide +kernel)) ggL_law_X3_count
set_option maxRecDepth 20000 in
theorem ggL_law_L_off : GoodIn wsL_law wsL_off := goodIn_ca (goodIn_r _ [363, 51, 364, 365, 366, 2, 367, 368, 369, 370, 56, 57, 66, 67, 68, 121, 122, 123, 371, 372, 373, 374, 375, 376, 377, 378, 69, 70, 71, 248, 249, 250, 251, 15, 72, 73, 74, 175, 176, 177, 178, 118, 18, 183, 184, 185, 120, 186, 187, 141, 140, 514, 515, 516, 517, 518, 519, 520, 521, 522, 540, 541, 542, 543, 544, 545, 546, 547] (by decide +kernel) (by decide +kernel)) (goodIn_sub (fun _ h => List.mem_append_left _ (List.mem_append_left _ (List.mem_append_right _ h))) (by decide +kernel))
set_option maxRecDepth 20000 in
theorem gL_law_L_off : GoodIn wsL_law (va_wsS RL 109 yL_off wsL_off) := goodIn_app (goodIn_of _ (by decide +kernel)) ggL_law_L_off
set_option maxRecDepth 20000 in
theorem ggL_law_X3_off : GoodIn wsL_law wsX3_off := goodIn_r _ [382, 82, 383, 384, 5, 385, 86, 87, 88, 156, 157, 158, 386, 387, 388, 389, 390, 391, 392, 393, 260, 261, 262, 263, 32, 29, 89, 90, 91, 92, 523, 524, 525, 526, 527, 528, 529, 530, 531, 532, 533, 534, 535, 536] (by decide +kernel) (by decide +kernel)
set_option maxRecDepth 20000 in
theorem gL_law_X3_off : GoodIn wsL_law (wsV RL 111 RX3 yX3_off wsX3_off) := goodIn_app (goodIn_of _ (by decide +kernel)) ggL_law_X3_off
set_option maxRecDepth 20000 in
theorem ggL_law_L_advise : GoodIn wsL_law wsL_advise := goodIn_ca (goodIn_r _ [396, 51, 397, 398, 399, 2, 400, 118, 14, 368, 369, 370, 56, 57, 66, 67, 68, 121, 122, 123, 371, 372, 373, 374, 375, 376, 377, 378, 69, 70, 71, 248, 249, 250, 251, 15, 72, 73, 74, 175, 176, 177, 178, 18, 183, 184, 185, 120, 186, 187, 141, 140, 179, 180, 181, 182, 146, 147, 148, 149, 150, 139, 136, 137, 401, 402, 403, 404, 174, 514, 515, 516, 517, 518, 519, 520, 521, 522, 540, 541, 542, 543, 544, 545, 546, 547] (by decide +kernel) (by decide +kernel)) (goodIn_sub (fun _ h => List.mem_append_left _ (List.mem_append_left _ (List.mem_append_right _ h))) (by decide +kernel))
set_option maxRecDepth 20000 in
theorem gL_law_L_advise : GoodIn wsL_law (va_wsS RL 112 yL_advise wsL_advise) := goodIn_app (goodIn_of _ (by decide +kernel)) ggL_law_L_advise
set_option maxRecDepth 20000 in
theorem ggL_law_X3_advise : GoodIn wsL_law wsX3_advise := goodIn_r _ [408, 82, 155, 39, 383, 384, 5, 385, 86, 87, 88, 156, 157, 158, 89, 90, 91, 92, 386, 387, 388, 389, 390, 391, 392, 393, 260, 261, 262, 263, 32, 29, 196, 197, 198, 38, 199, 43, 45, 200, 201, 202, 203, 30, 523, 524, 525, 526, 527, 528, 529, 530, 531, 532, 533, 534, 535, 536, 537, 538, 539] (by decide +kernel) (by decide +kernel)
set_option maxRecDepth 20000 in
theorem gL_law_X3_advise : GoodIn wsL_law (wsV RL 114 RX3 yX3_advise wsX3_advise) := goodIn_app (goodIn_of _ (by decide +kernel)) ggL_law_X3_advise
set_option maxRecDepth 20000 in
theorem ggL_law_L_mends : GoodIn wsL_law wsL_mends := goodIn_ca (goodIn_r _ [411, 50, 412, 413, 414, 2, 415, 58, 59, 60, 61, 62, 63, 64, 65, 66, 67, 68, 314, 315, 316, 317, 20, 318, 319, 320, 321, 21, 322, 323, 324, 325, 15, 69, 70, 71, 72, 73, 74, 75, 76, 77, 416, 417, 418, 419, 514, 515, 516, 517, 518, 519, 520, 521, 522] (by decide +kernel) (by decide +kernel)) (goodIn_sub (fun _ h => List.mem_append_left _ (List.mem_append_right _ h)) (by decide +kernel))
set_option maxRecDepth 20000 in
theorem gL_law_L_mends : GoodIn wsL_law (va_wsS RL 115 yL_mends wsL_mends) := goodIn_app (goodIn_of _ (by decide +kernel)) ggL_law_L_mends
set_option maxRecDepth 20000 in
theorem ggL_law_X3_mends : GoodIn wsL_law wsX3_mends := goodIn_r _ [423, 82, 32, 35, 83, 84, 5, 85, 86, 87, 88, 89, 90, 91, 92, 350, 351, 352, 353, 354, 355, 356, 357, 34, 358, 359, 360, 523, 524, 525, 526, 527, 528, 529, 530, 531, 532, 533, 534, 535, 536] (by decide +kernel) (by decide +kernel)
set_option maxRecDepth 20000 in
theorem gL_law_X3_mends : GoodIn wsL_law (wsV RL 118 RX3 yX3_mends wsX3_mends) := goodIn_app (goodIn_of _ (by decide +kernel)) ggL_law_X3_mends
set_option maxRecDepth 20000 in
theorem ggL_law_L_gap : GoodIn wsL_law wsL_gap := goodIn_ca (goodIn_r _ [426, 50, 427, 428, 429, 2, 430, 58, 59, 60, 61, 62, 63, 64, 65, 66, 67, 68, 314, 315, 316, 317, 20, 318, 319, 320, 321, 21, 322, 323, 324, 325, 15, 69, 70, 71, 72, 73, 74, 75, 76, 77, 514, 515, 516, 517, 518, 519, 520, 521, 522] (by decide +kernel) (by decide +kernel)) (goodIn_sub (fun _ h => List.mem_append_left _ (List.mem_append_right _ h)) (by decide +kernel))
set_option maxRecDepth 20000 in
theorem gL_law_L_gap : GoodIn wsL_law (va_wsS RL 119 yL_gap wsL_gap) := goodIn_app (goodIn_of _ (by decide +kernel)) ggL_law_L_gap
set_option maxRecDepth 20000 in
theorem ggL_law_X3_gap : GoodIn wsL_law wsX3_gap := goodIn_r _ [434, 82, 32, 83, 84, 5, 85, 86, 87, 88, 89, 90, 91, 92, 350, 351, 352, 353, 35, 354, 355, 356, 357, 34, 358, 359, 360, 523, 524, 525, 526, 527, 528, 529, 530, 531, 532, 533, 534, 535, 536] (by decide +kernel) (by decide +kernel)
set_option maxRecDepth 20000 in
theorem gL_law_X3_gap : GoodIn wsL_law (wsV RL 121 RX3 yX3_gap wsX3_gap) := goodIn_app (goodIn_of _ (by decide +kernel)) ggL_law_X3_gap
set_option maxRecDepth 20000 in
theorem ggL_law_L_pass : GoodIn wsL_law wsL_pass := goodIn_ca (goodIn_r _ [437, 51, 438, 439, 440, 2, 441, 56, 57, 14, 298, 66, 67, 68, 442, 443, 444, 445, 16, 15, 446, 447, 448, 449, 450, 451, 452, 453, 72, 73, 74, 75, 76, 77, 303, 304, 305, 306, 118, 175, 176, 177, 178, 18, 179, 180, 181, 182, 146, 147, 148, 149, 120, 150, 139, 136, 137, 70, 71, 514, 515, 516, 517, 518, 519, 520, 521, 522, 540, 541, 542, 543, 544, 545, 546, 547] (by decide +kernel) (by decide +kernel)) (goodIn_sub (fun _ h => List.mem_append_left _ (List.mem_append_left _ (List.mem_append_right _ h))) (by decide +kernel))
set_option maxRecDepth 20000 in
theorem gL_law_L_pass : GoodIn wsL_law (va_wsS RL 122 yL_pass wsL_pass) := goodIn_app (goodIn_of _ (by decide +kernel)) ggL_law_L_pass
set_option maxRecDepth 20000 in
theorem ggL_law_X3_pass : GoodIn wsL_law wsX3_pass := goodIn_r _ [457, 82, 39, 86, 87, 5, 88, 89, 90, 91, 92, 458, 459, 460, 38, 461, 43, 462, 45, 463, 447, 448, 449, 334, 335, 336, 337, 155, 196, 197, 198, 199, 523, 524, 525, 526, 527, 528, 529, 530, 531, 532, 533, 534, 535, 536, 537, 538, 539] (by decide +kernel) (by decide +kernel)
set_option maxRecDepth 20000 in
theorem gL_law_X3_pass : GoodIn wsL_law (wsV RL 124 RX3 yX3_pass wsX3_pass) := goodIn_app (goodIn_of _ (by decide +kernel)) ggL_law_X3_pass
set_option maxRecDepth 20000 in
theorem ggL_law_L_loose : GoodIn wsL_law wsL_loose := goodIn_ca (goodIn_r _ [466, 50, 467, 468, 469, 2, 470, 61, 62, 14, 19, 471, 472, 473, 474, 298, 175, 176, 177, 178, 118, 18, 66, 67, 68, 179, 180, 181, 182, 146, 147, 148, 149, 120, 150, 139, 136, 137, 70, 71, 72, 73, 74, 442, 443, 444, 445, 16, 15, 446, 447, 448, 449, 450, 451, 452, 453, 75, 76, 77, 514, 515, 516, 517, 518, 519, 520, 521, 522, 540, 541, 542, 543, 544, 545, 546, 547] (by decide +kernel) (by decide +kernel)) (goodIn_sub (fun _ h => List.mem_append_left _ (List.mem_append_right _ h)) (by decide +kernel))
set_option maxRecDepth 20000 in
theorem gL_law_L_loose : GoodIn wsL_law (va_wsS RL 125 yL_loose wsL_loose) := goodIn_app (goodIn_of _ (by decide +kernel)) ggL_law_L_loose
set_option maxRecDepth 20000 in
theorem ggL_law_X3_loose : GoodIn wsL_law wsX3_loose := goodIn_r _ [478, 82, 40, 39, 192, 193, 194, 5, 195, 155, 86, 87, 88, 89, 90, 91, 92, 479, 480, 481, 38, 482, 462, 45, 483, 472, 473, 474, 196, 197, 198, 199, 43, 458, 459, 460, 461, 463, 447, 448, 449, 523, 524, 525, 526, 527, 528, 529, 530, 531, 532, 533, 534, 535, 536, 537, 538, 539] (by decide +kernel) (by decide +kernel)
set_option maxRecDepth 20000 in
theorem gL_law_X3_loose : GoodIn wsL_law (wsV RL 127 RX3 yX3_loose wsX3_loose) := goodIn_app (goodIn_of _ (by decide +kernel)) ggL_law_X3_loose
set_option maxRecDepth 20000 in
theorem ggL_law_X1_dry : GoodIn wsL_law wsX1_dry := goodIn_r _ [487, 14, 19, 471, 472, 473, 474, 298, 307, 308, 2, 309, 442, 443, 444, 445, 16, 15, 446, 447, 448, 449, 450, 451, 452, 453, 72, 73, 74, 66, 67, 68, 75, 76, 77, 514, 515, 516, 517, 518, 519, 520, 521, 522] (by decide +kernel) (by decide +kernel)
set_option maxRecDepth 20000 in
theorem gL_law_X1_dry : GoodIn wsL_law (wsV RL 128 RX1 yX1_dry wsX1_dry) := goodIn_app (goodIn_of _ (by decide +kernel)) ggL_law_X1_dry
set_option maxRecDepth 20000 in
theorem ggL_law_X3_dry : GoodIn wsL_law wsX3_dry := goodIn_r _ [491, 82, 40, 39, 479, 480, 481, 38, 482, 462, 45, 483, 472, 473, 474, 338, 339, 340, 341, 458, 459, 460, 461, 43, 463, 447, 448, 449, 523, 524, 525, 526, 527, 528, 529, 530, 531, 532, 533, 534, 535, 536, 537, 538, 539] (by decide +kernel) (by decide +kernel)
set_option maxRecDepth 20000 in
theorem gL_law_X3_dry : GoodIn wsL_law (wsV RL 131 RX3 yX3_dry wsX3_dry) := goodIn_app (goodIn_of _ (by decide +kernel)) ggL_law_X3_dry
set_option maxRecDepth 20000 in
theorem ggL_law_X1_share : GoodIn wsL_law wsX1_share := goodIn_r _ [495, 15, 496, 307, 308, 2, 309, 514, 515, 516, 517, 518, 519, 520, 521, 522] (by decide +kernel) (by decide +kernel)
set_option maxRecDepth 20000 in
theorem gL_law_X1_share : GoodIn wsL_law (wsV RL 132 RX1 yX1_share wsX1_share) := goodIn_app (goodIn_of _ (by decide +kernel)) ggL_law_X1_share
set_option maxRecDepth 20000 in
theorem ggL_law_X3_share : GoodIn wsL_law wsX3_share := goodIn_r _ [500, 82, 501, 342, 343, 344, 5, 345, 32, 523, 524, 525, 526, 527, 528, 529, 530, 531, 532, 533, 534, 535, 536] (by decide +kernel) (by decide +kernel)
set_option maxRecDepth 20000 in
theorem gL_law_X3_share : GoodIn wsL_law (wsV RL 136 RX3 yX3_share wsX3_share) := goodIn_app (goodIn_of _ (by decide +kernel)) ggL_law_X3_share
set_option maxRecDepth 20000 in
theorem ggL_law_X1_digest : GoodIn wsL_law wsX1_digest := goodIn_r _ [505, 506, 507, 118, 16, 294, 295, 296, 2, 297, 298, 14, 15, 299, 300, 301, 302, 182, 175, 176, 177, 178, 18, 66, 67, 68, 303, 304, 305, 306, 179, 180, 181, 146, 147, 148, 149, 120, 150, 139, 136, 137, 70, 71, 72, 73, 74, 307, 308, 309, 310, 311, 312, 313, 314, 315, 316, 317, 20, 318, 319, 320, 321, 21, 322, 323, 324, 325, 69, 63, 64, 65, 75, 76, 77, 244, 245, 246, 247, 248, 249, 250, 251, 183, 184, 185, 186, 187, 141, 140, 271, 272, 273, 274, 215, 216, 217, 275, 276, 277, 278, 514, 515, 516, 517, 518, 519, 520, 521, 522, 540, 541, 542, 543, 544, 545, 546, 547] (by decide +kernel) (by decide +kernel)
set_option maxRecDepth 20000 in
theorem gL_law_X1_digest : GoodIn wsL_law (wsV RL 137 RX1 yX1_digest wsX1_digest) := goodIn_app (goodIn_of _ (by decide +kernel)) ggL_law_X1_digest
set_option maxRecDepth 20000 in
theorem ggL_law_X3_digest : GoodIn wsL_law wsX3_digest := goodIn_r _ [511, 82, 512, 513, 155, 33, 330, 331, 332, 5, 333, 39, 31, 334, 335, 336, 337, 196, 197, 198, 38, 199, 43, 45, 338, 339, 340, 341, 342, 343, 344, 345, 32, 346, 347, 348, 349, 35, 350, 351, 352, 353, 354, 355, 356, 357, 34, 358, 359, 360, 83, 84, 85, 86, 87, 88, 256, 257, 258, 259, 260, 261, 262, 263, 29, 283, 284, 285, 286, 26, 27, 28, 30, 523, 524, 525, 526, 527, 528, 529, 530, 531, 532, 533, 534, 535, 536, 537, 538, 539] (by decide +kernel) (by decide +kernel)
set_option maxRecDepth 20000 in
theorem gL_law_X3_digest : GoodIn wsL_law (wsV RL 141 RX3 yX3_digest wsX3_digest) := goodIn_app (goodIn_of _ (by decide +kernel)) ggL_law_X3_digest
