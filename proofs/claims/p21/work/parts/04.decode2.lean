theorem dX1_markGap_101 : decode cX1_markGap 101 = .ok (.invokevirtual 233, 3) := by decide +kernel
theorem dX1_markGap_104 : decode cX1_markGap 104 = .ok (.istore_n 3, 1) := by decide +kernel
theorem dX1_markGap_105 : decode cX1_markGap 105 = .ok (.iinc 4 1, 3) := by decide +kernel
theorem dX1_markGap_108 : decode cX1_markGap 108 = .ok (.goto (-97), 3) := by decide +kernel
theorem dX1_markGap_111 : decode cX1_markGap 111 = .ok (.iload_n 3, 1) := by decide +kernel
theorem dX1_markGap_112 : decode cX1_markGap 112 = .ok (.ireturn, 1) := by decide +kernel
set_option maxRecDepth 20000 in
theorem ggX1_reach_X1_cellOf : GoodIn wsX1_reach wsX1_cellOf := goodIn_r _ [7] (by decide +kernel) (by decide +kernel)
set_option maxRecDepth 20000 in
theorem gX1_reach_X1_cellOf : GoodIn wsX1_reach (va_wsS RX1 49 yX1_cellOf wsX1_cellOf) := goodIn_app (goodIn_of _ (by decide +kernel)) ggX1_reach_X1_cellOf
set_option maxRecDepth 20000 in
theorem ggX1_reach_X1_isOnWall : GoodIn wsX1_reach wsX1_isOnWall := goodIn_r _ [10, 11, 12, 6, 13] (by decide +kernel) (by decide +kernel)
set_option maxRecDepth 20000 in
theorem gX1_reach_X1_isOnWall : GoodIn wsX1_reach (va_wsS RX1 206 yX1_isOnWall wsX1_isOnWall) := goodIn_app (goodIn_of _ (by decide +kernel)) ggX1_reach_X1_isOnWall
set_option maxRecDepth 20000 in
theorem ggX1_reach_X1_at : GoodIn wsX1_reach wsX1_at := goodIn_r _ [16, 11, 12, 6, 13] (by decide +kernel) (by decide +kernel)
set_option maxRecDepth 20000 in
theorem gX1_reach_X1_at : GoodIn wsX1_reach (va_wsS RX1 53 yX1_at wsX1_at) := goodIn_app (goodIn_of _ (by decide +kernel)) ggX1_reach_X1_at
set_option maxRecDepth 20000 in
theorem ggX1_reach_X1_put : GoodIn wsX1_reach wsX1_put := goodIn_r _ [19, 11, 12, 6, 13] (by decide +kernel) (by decide +kernel)
set_option maxRecDepth 20000 in
theorem gX1_reach_X1_put : GoodIn wsX1_reach (va_wsS RX1 57 yX1_put wsX1_put) := goodIn_app (goodIn_of _ (by decide +kernel)) ggX1_reach_X1_put
theorem dX1_reach_0 : decode cX1_reach 0 = .ok (.iload_n 1, 1) := by decide +kernel
theorem dX1_reach_1 : decode cX1_reach 1 = .ok (.iload_n 2, 1) := by decide +kernel
theorem dX1_reach_2 : decode cX1_reach 2 = .ok (.invokestatic 49, 3) := by decide +kernel
theorem dX1_reach_5 : decode cX1_reach 5 = .ok (.istore 4, 2) := by decide +kernel
theorem dX1_reach_7 : decode cX1_reach 7 = .ok (.iload_n 1, 1) := by decide +kernel
theorem dX1_reach_8 : decode cX1_reach 8 = .ok (.iload_n 2, 1) := by decide +kernel
theorem dX1_reach_9 : decode cX1_reach 9 = .ok (.invokestatic 206, 3) := by decide +kernel
theorem dX1_reach_12 : decode cX1_reach 12 = .ok (.ifCond .eq 28, 3) := by decide +kernel
theorem dX1_reach_15 : decode cX1_reach 15 = .ok (.aload_n 0, 1) := by decide +kernel
theorem dX1_reach_16 : decode cX1_reach 16 = .ok (.getfield 13, 3) := by decide +kernel
theorem dX1_reach_19 : decode cX1_reach 19 = .ok (.iload 4, 2) := by decide +kernel
theorem dX1_reach_21 : decode cX1_reach 21 = .ok (.invokestatic 53, 3) := by decide +kernel
theorem dX1_reach_24 : decode cX1_reach 24 = .ok (.iconst (-1), 1) := by decide +kernel
theorem dX1_reach_25 : decode cX1_reach 25 = .ok (.if_icmp .ne 15, 3) := by decide +kernel
theorem dX1_reach_28 : decode cX1_reach 28 = .ok (.aload_n 0, 1) := by decide +kernel
theorem dX1_reach_29 : decode cX1_reach 29 = .ok (.getfield 28, 3) := by decide +kernel
theorem dX1_reach_32 : decode cX1_reach 32 = .ok (.iload 4, 2) := by decide +kernel
theorem dX1_reach_34 : decode cX1_reach 34 = .ok (.invokestatic 53, 3) := by decide +kernel
theorem dX1_reach_37 : decode cX1_reach 37 = .ok (.ifCond .eq 5, 3) := by decide +kernel
theorem dX1_reach_40 : decode cX1_reach 40 = .ok (.iload_n 3, 1) := by decide +kernel
theorem dX1_reach_41 : decode cX1_reach 41 = .ok (.ireturn, 1) := by decide +kernel
theorem dX1_reach_42 : decode cX1_reach 42 = .ok (.aload_n 0, 1) := by decide +kernel
theorem dX1_reach_43 : decode cX1_reach 43 = .ok (.getfield 28, 3) := by decide +kernel
theorem dX1_reach_46 : decode cX1_reach 46 = .ok (.iload 4, 2) := by decide +kernel
theorem dX1_reach_48 : decode cX1_reach 48 = .ok (.iconst 1, 1) := by decide +kernel
theorem dX1_reach_49 : decode cX1_reach 49 = .ok (.invokestatic 57, 3) := by decide +kernel
theorem dX1_reach_52 : decode cX1_reach 52 = .ok (.aload_n 0, 1) := by decide +kernel
theorem dX1_reach_53 : decode cX1_reach 53 = .ok (.getfield 31, 3) := by decide +kernel
theorem dX1_reach_56 : decode cX1_reach 56 = .ok (.iload_n 3, 1) := by decide +kernel
theorem dX1_reach_57 : decode cX1_reach 57 = .ok (.iload 4, 2) := by decide +kernel
theorem dX1_reach_59 : decode cX1_reach 59 = .ok (.invokestatic 57, 3) := by decide +kernel
theorem dX1_reach_62 : decode cX1_reach 62 = .ok (.iload_n 3, 1) := by decide +kernel
theorem dX1_reach_63 : decode cX1_reach 63 = .ok (.iconst 1, 1) := by decide +kernel
theorem dX1_reach_64 : decode cX1_reach 64 = .ok (.iadd, 1) := by decide +kernel
theorem dX1_reach_65 : decode cX1_reach 65 = .ok (.ireturn, 1) := by decide +kernel
set_option maxRecDepth 20000 in
theorem ggX1_piecesForMarks_X1_cellOf : GoodIn wsX1_piecesForMarks wsX1_cellOf := goodIn_r _ [5] (by decide +kernel) (by decide +kernel)
set_option maxRecDepth 20000 in
theorem gX1_piecesForMarks_X1_cellOf : GoodIn wsX1_piecesForMarks (va_wsS RX1 49 yX1_cellOf wsX1_cellOf) := goodIn_app (goodIn_of _ (by decide +kernel)) ggX1_piecesForMarks_X1_cellOf
set_option maxRecDepth 20000 in
theorem ggX1_piecesForMarks_X1_at : GoodIn wsX1_piecesForMarks wsX1_at := goodIn_r _ [8, 9, 10, 4, 11] (by decide +kernel) (by decide +kernel)
set_option maxRecDepth 20000 in
theorem gX1_piecesForMarks_X1_at : GoodIn wsX1_piecesForMarks (va_wsS RX1 53 yX1_at wsX1_at) := goodIn_app (goodIn_of _ (by decide +kernel)) ggX1_piecesForMarks_X1_at
theorem dX1_piecesForMarks_0 : decode cX1_piecesForMarks 0 = .ok (.iload_n 1, 1) := by decide +kernel
theorem dX1_piecesForMarks_1 : decode cX1_piecesForMarks 1 = .ok (.ifCond .eq 8, 3) := by decide +kernel
theorem dX1_piecesForMarks_4 : decode cX1_piecesForMarks 4 = .ok (.bipush 8, 2) := by decide +kernel
theorem dX1_piecesForMarks_6 : decode cX1_piecesForMarks 6 = .ok (.goto 5, 3) := by decide +kernel
theorem dX1_piecesForMarks_9 : decode cX1_piecesForMarks 9 = .ok (.bipush 10, 2) := by decide +kernel
theorem dX1_piecesForMarks_11 : decode cX1_piecesForMarks 11 = .ok (.istore_n 2, 1) := by decide +kernel
theorem dX1_piecesForMarks_12 : decode cX1_piecesForMarks 12 = .ok (.iload_n 1, 1) := by decide +kernel
theorem dX1_piecesForMarks_13 : decode cX1_piecesForMarks 13 = .ok (.ifCond .eq 8, 3) := by decide +kernel
theorem dX1_piecesForMarks_16 : decode cX1_piecesForMarks 16 = .ok (.bipush 10, 2) := by decide +kernel
theorem dX1_piecesForMarks_18 : decode cX1_piecesForMarks 18 = .ok (.goto 5, 3) := by decide +kernel
theorem dX1_piecesForMarks_21 : decode cX1_piecesForMarks 21 = .ok (.bipush 8, 2) := by decide +kernel
theorem dX1_piecesForMarks_23 : decode cX1_piecesForMarks 23 = .ok (.istore_n 3, 1) := by decide +kernel
theorem dX1_piecesForMarks_24 : decode cX1_piecesForMarks 24 = .ok (.iconst 0, 1) := by decide +kernel
theorem dX1_piecesForMarks_25 : decode cX1_piecesForMarks 25 = .ok (.istore 4, 2) := by decide +kernel
theorem dX1_piecesForMarks_27 : decode cX1_piecesForMarks 27 = .ok (.iconst 0, 1) := by decide +kernel
theorem dX1_piecesForMarks_28 : decode cX1_piecesForMarks 28 = .ok (.istore 5, 2) := by decide +kernel
theorem dX1_piecesForMarks_30 : decode cX1_piecesForMarks 30 = .ok (.iload 5, 2) := by decide +kernel
theorem dX1_piecesForMarks_32 : decode cX1_piecesForMarks 32 = .ok (.iload_n 2, 1) := by decide +kernel
theorem dX1_piecesForMarks_33 : decode cX1_piecesForMarks 33 = .ok (.if_icmp .ge 84, 3) := by decide +kernel
theorem dX1_piecesForMarks_36 : decode cX1_piecesForMarks 36 = .ok (.iconst 0, 1) := by decide +kernel
theorem dX1_piecesForMarks_37 : decode cX1_piecesForMarks 37 = .ok (.istore 6, 2) := by decide +kernel
theorem dX1_piecesForMarks_39 : decode cX1_piecesForMarks 39 = .ok (.iconst 0, 1) := by decide +kernel
theorem dX1_piecesForMarks_40 : decode cX1_piecesForMarks 40 = .ok (.istore 7, 2) := by decide +kernel
theorem dX1_piecesForMarks_42 : decode cX1_piecesForMarks 42 = .ok (.iload 7, 2) := by decide +kernel
theorem dX1_piecesForMarks_44 : decode cX1_piecesForMarks 44 = .ok (.iload_n 3, 1) := by decide +kernel
theorem dX1_piecesForMarks_45 : decode cX1_piecesForMarks 45 = .ok (.if_icmp .ge 66, 3) := by decide +kernel
theorem dX1_piecesForMarks_48 : decode cX1_piecesForMarks 48 = .ok (.aload_n 0, 1) := by decide +kernel
theorem dX1_piecesForMarks_49 : decode cX1_piecesForMarks 49 = .ok (.getfield 28, 3) := by decide +kernel
theorem dX1_piecesForMarks_52 : decode cX1_piecesForMarks 52 = .ok (.iload_n 1, 1) := by decide +kernel
theorem dX1_piecesForMarks_53 : decode cX1_piecesForMarks 53 = .ok (.ifCond .eq 13, 3) := by decide +kernel
theorem dX1_piecesForMarks_56 : decode cX1_piecesForMarks 56 = .ok (.iload 7, 2) := by decide +kernel
theorem dX1_piecesForMarks_58 : decode cX1_piecesForMarks 58 = .ok (.iload 5, 2) := by decide +kernel
theorem dX1_piecesForMarks_60 : decode cX1_piecesForMarks 60 = .ok (.invokestatic 49, 3) := by decide +kernel
theorem dX1_piecesForMarks_63 : decode cX1_piecesForMarks 63 = .ok (.goto 10, 3) := by decide +kernel
theorem dX1_piecesForMarks_66 : decode cX1_piecesForMarks 66 = .ok (.iload 5, 2) := by decide +kernel
theorem dX1_piecesForMarks_68 : decode cX1_piecesForMarks 68 = .ok (.iload 7, 2) := by decide +kernel
theorem dX1_piecesForMarks_70 : decode cX1_piecesForMarks 70 = .ok (.invokestatic 49, 3) := by decide +kernel
theorem dX1_piecesForMarks_73 : decode cX1_piecesForMarks 73 = .ok (.invokestatic 53, 3) := by decide +kernel
theorem dX1_piecesForMarks_76 : decode cX1_piecesForMarks 76 = .ok (.ifCond .ne 9, 3) := by decide +kernel
theorem dX1_piecesForMarks_79 : decode cX1_piecesForMarks 79 = .ok (.iconst 0, 1) := by decide +kernel
theorem dX1_piecesForMarks_80 : decode cX1_piecesForMarks 80 = .ok (.istore 6, 2) := by decide +kernel
theorem dX1_piecesForMarks_82 : decode cX1_piecesForMarks 82 = .ok (.goto 23, 3) := by decide +kernel
theorem dX1_piecesForMarks_85 : decode cX1_piecesForMarks 85 = .ok (.iload 4, 2) := by decide +kernel
theorem dX1_piecesForMarks_87 : decode cX1_piecesForMarks 87 = .ok (.iload 6, 2) := by decide +kernel
theorem dX1_piecesForMarks_89 : decode cX1_piecesForMarks 89 = .ok (.iconst 3, 1) := by decide +kernel
theorem dX1_piecesForMarks_90 : decode cX1_piecesForMarks 90 = .ok (.irem, 1) := by decide +kernel
theorem dX1_piecesForMarks_91 : decode cX1_piecesForMarks 91 = .ok (.ifCond .ne 7, 3) := by decide +kernel
theorem dX1_piecesForMarks_94 : decode cX1_piecesForMarks 94 = .ok (.iconst 1, 1) := by decide +kernel
theorem dX1_piecesForMarks_95 : decode cX1_piecesForMarks 95 = .ok (.goto 4, 3) := by decide +kernel
theorem dX1_piecesForMarks_98 : decode cX1_piecesForMarks 98 = .ok (.iconst 0, 1) := by decide +kernel
theorem dX1_piecesForMarks_99 : decode cX1_piecesForMarks 99 = .ok (.iadd, 1) := by decide +kernel
theorem dX1_piecesForMarks_100 : decode cX1_piecesForMarks 100 = .ok (.istore 4, 2) := by decide +kernel
theorem dX1_piecesForMarks_102 : decode cX1_piecesForMarks 102 = .ok (.iinc 6 1, 3) := by decide +kernel
theorem dX1_piecesForMarks_105 : decode cX1_piecesForMarks 105 = .ok (.iinc 7 1, 3) := by decide +kernel
theorem dX1_piecesForMarks_108 : decode cX1_piecesForMarks 108 = .ok (.goto (-66), 3) := by decide +kernel
theorem dX1_piecesForMarks_111 : decode cX1_piecesForMarks 111 = .ok (.iinc 5 1, 3) := by decide +kernel
theorem dX1_piecesForMarks_114 : decode cX1_piecesForMarks 114 = .ok (.goto (-84), 3) := by decide +kernel
theorem dX1_piecesForMarks_117 : decode cX1_piecesForMarks 117 = .ok (.iload 4, 2) := by decide +kernel
theorem dX1_piecesForMarks_119 : decode cX1_piecesForMarks 119 = .ok (.ireturn, 1) := by decide +kernel
set_option maxRecDepth 20000 in
theorem ggX1_dryOneHour_J9_floorMod_7cf53 : GoodIn wsX1_dryOneHour wsJ9_floorMod_7cf53 := goodIn_r _ [10] (by decide +kernel) (by decide +kernel)
set_option maxRecDepth 20000 in
theorem gX1_dryOneHour_J9_floorMod_7cf53 : GoodIn wsX1_dryOneHour (va_wsS RX1 236 yJ9_floorMod_7cf53 wsJ9_floorMod_7cf53) := goodIn_app (goodIn_of _ (by decide +kernel)) ggX1_dryOneHour_J9_floorMod_7cf53
set_option maxRecDepth 20000 in
theorem ggX1_dryOneHour_X1_at : GoodIn wsX1_dryOneHour wsX1_at := goodIn_r _ [14, 15, 16, 13, 17] (by decide +kernel) (by decide +kernel)
set_option maxRecDepth 20000 in
theorem gX1_dryOneHour_X1_at : GoodIn wsX1_dryOneHour (va_wsS RX1 53 yX1_at wsX1_at) := goodIn_app (goodIn_of _ (by decide +kernel)) ggX1_dryOneHour_X1_at
set_option maxRecDepth 20000 in
theorem ggX1_dryOneHour_X1_put : GoodIn wsX1_dryOneHour wsX1_put := goodIn_r _ [20, 15, 16, 13, 17] (by decide +kernel) (by decide +kernel)
set_option maxRecDepth 20000 in
theorem gX1_dryOneHour_X1_put : GoodIn wsX1_dryOneHour (va_wsS RX1 57 yX1_put wsX1_put) := goodIn_app (goodIn_of _ (by decide +kernel)) ggX1_dryOneHour_X1_put
theorem dX1_dryOneHour_0 : decode cX1_dryOneHour 0 = .ok (.aload_n 0, 1) := by decide +kernel
theorem dX1_dryOneHour_1 : decode cX1_dryOneHour 1 = .ok (.getfield 16, 3) := by decide +kernel
theorem dX1_dryOneHour_4 : decode cX1_dryOneHour 4 = .ok (.iload_n 2, 1) := by decide +kernel
theorem dX1_dryOneHour_5 : decode cX1_dryOneHour 5 = .ok (.bipush 8, 2) := by decide +kernel
theorem dX1_dryOneHour_7 : decode cX1_dryOneHour 7 = .ok (.invokestatic 236, 3) := by decide +kernel
theorem dX1_dryOneHour_10 : decode cX1_dryOneHour 10 = .ok (.invokestatic 53, 3) := by decide +kernel
theorem dX1_dryOneHour_13 : decode cX1_dryOneHour 13 = .ok (.istore_n 3, 1) := by decide +kernel
theorem dX1_dryOneHour_14 : decode cX1_dryOneHour 14 = .ok (.iload_n 2, 1) := by decide +kernel
theorem dX1_dryOneHour_15 : decode cX1_dryOneHour 15 = .ok (.iconst 2, 1) := by decide +kernel
theorem dX1_dryOneHour_16 : decode cX1_dryOneHour 16 = .ok (.irem, 1) := by decide +kernel
theorem dX1_dryOneHour_17 : decode cX1_dryOneHour 17 = .ok (.ifCond .ne 7, 3) := by decide +kernel
theorem dX1_dryOneHour_20 : decode cX1_dryOneHour 20 = .ok (.iconst 1, 1) := by decide +kernel
theorem dX1_dryOneHour_21 : decode cX1_dryOneHour 21 = .ok (.goto 4, 3) := by decide +kernel
theorem dX1_dryOneHour_24 : decode cX1_dryOneHour 24 = .ok (.iconst 0, 1) := by decide +kernel
theorem dX1_dryOneHour_25 : decode cX1_dryOneHour 25 = .ok (.istore 4, 2) := by decide +kernel
theorem dX1_dryOneHour_27 : decode cX1_dryOneHour 27 = .ok (.iconst 0, 1) := by decide +kernel
theorem dX1_dryOneHour_28 : decode cX1_dryOneHour 28 = .ok (.istore 5, 2) := by decide +kernel
theorem dX1_dryOneHour_30 : decode cX1_dryOneHour 30 = .ok (.iload 5, 2) := by decide +kernel
theorem dX1_dryOneHour_32 : decode cX1_dryOneHour 32 = .ok (.bipush 80, 2) := by decide +kernel
theorem dX1_dryOneHour_34 : decode cX1_dryOneHour 34 = .ok (.if_icmp .ge 67, 3) := by decide +kernel
theorem dX1_dryOneHour_37 : decode cX1_dryOneHour 37 = .ok (.aload_n 0, 1) := by decide +kernel
theorem dX1_dryOneHour_38 : decode cX1_dryOneHour 38 = .ok (.getfield 13, 3) := by decide +kernel
theorem dX1_dryOneHour_41 : decode cX1_dryOneHour 41 = .ok (.iload 5, 2) := by decide +kernel
theorem dX1_dryOneHour_43 : decode cX1_dryOneHour 43 = .ok (.invokestatic 53, 3) := by decide +kernel
theorem dX1_dryOneHour_46 : decode cX1_dryOneHour 46 = .ok (.iconst (-1), 1) := by decide +kernel
theorem dX1_dryOneHour_47 : decode cX1_dryOneHour 47 = .ok (.if_icmp .ne 7, 3) := by decide +kernel
theorem dX1_dryOneHour_50 : decode cX1_dryOneHour 50 = .ok (.iconst 1, 1) := by decide +kernel
theorem dX1_dryOneHour_51 : decode cX1_dryOneHour 51 = .ok (.goto 4, 3) := by decide +kernel
theorem dX1_dryOneHour_54 : decode cX1_dryOneHour 54 = .ok (.iconst 0, 1) := by decide +kernel
theorem dX1_dryOneHour_55 : decode cX1_dryOneHour 55 = .ok (.istore 6, 2) := by decide +kernel
theorem dX1_dryOneHour_57 : decode cX1_dryOneHour 57 = .ok (.aload_n 1, 1) := by decide +kernel
theorem dX1_dryOneHour_58 : decode cX1_dryOneHour 58 = .ok (.iload 5, 2) := by decide +kernel
theorem dX1_dryOneHour_60 : decode cX1_dryOneHour 60 = .ok (.invokestatic 53, 3) := by decide +kernel
theorem dX1_dryOneHour_63 : decode cX1_dryOneHour 63 = .ok (.iconst 1, 1) := by decide +kernel
theorem dX1_dryOneHour_64 : decode cX1_dryOneHour 64 = .ok (.if_icmp .lt 31, 3) := by decide +kernel
theorem dX1_dryOneHour_67 : decode cX1_dryOneHour 67 = .ok (.iload 6, 2) := by decide +kernel
theorem dX1_dryOneHour_69 : decode cX1_dryOneHour 69 = .ok (.ifCond .ne 8, 3) := by decide +kernel
theorem dX1_dryOneHour_72 : decode cX1_dryOneHour 72 = .ok (.iload 4, 2) := by decide +kernel
theorem dX1_dryOneHour_74 : decode cX1_dryOneHour 74 = .ok (.ifCond .eq 21, 3) := by decide +kernel
theorem dX1_dryOneHour_77 : decode cX1_dryOneHour 77 = .ok (.aload_n 1, 1) := by decide +kernel
theorem dX1_dryOneHour_78 : decode cX1_dryOneHour 78 = .ok (.iload 5, 2) := by decide +kernel
theorem dX1_dryOneHour_80 : decode cX1_dryOneHour 80 = .ok (.iconst 0, 1) := by decide +kernel
theorem dX1_dryOneHour_81 : decode cX1_dryOneHour 81 = .ok (.aload_n 1, 1) := by decide +kernel
theorem dX1_dryOneHour_82 : decode cX1_dryOneHour 82 = .ok (.iload 5, 2) := by decide +kernel
theorem dX1_dryOneHour_84 : decode cX1_dryOneHour 84 = .ok (.invokestatic 53, 3) := by decide +kernel
theorem dX1_dryOneHour_87 : decode cX1_dryOneHour 87 = .ok (.iload_n 3, 1) := by decide +kernel
theorem dX1_dryOneHour_88 : decode cX1_dryOneHour 88 = .ok (.isub, 1) := by decide +kernel
theorem dX1_dryOneHour_89 : decode cX1_dryOneHour 89 = .ok (.invokestatic 241, 3) := by decide +kernel
theorem dX1_dryOneHour_92 : decode cX1_dryOneHour 92 = .ok (.invokestatic 57, 3) := by decide +kernel
theorem dX1_dryOneHour_95 : decode cX1_dryOneHour 95 = .ok (.iinc 5 1, 3) := by decide +kernel
theorem dX1_dryOneHour_98 : decode cX1_dryOneHour 98 = .ok (.goto (-68), 3) := by decide +kernel
theorem dX1_dryOneHour_101 : decode cX1_dryOneHour 101 = .ok (.return_, 1) := by decide +kernel
theorem dJ9_floorMod_7cf53_0 : decode cJ9_floorMod_7cf53 0 = .ok (.iload_n 0, 1) := by decide +kernel
theorem dJ9_floorMod_7cf53_1 : decode cJ9_floorMod_7cf53 1 = .ok (.iload_n 1, 1) := by decide +kernel
theorem dJ9_floorMod_7cf53_2 : decode cJ9_floorMod_7cf53 2 = .ok (.irem, 1) := by decide +kernel
theorem dJ9_floorMod_7cf53_3 : decode cJ9_floorMod_7cf53 3 = .ok (.istore_n 2, 1) := by decide +kernel
theorem dJ9_floorMod_7cf53_4 : decode cJ9_floorMod_7cf53 4 = .ok (.iload_n 0, 1) := by decide +kernel
theorem dJ9_floorMod_7cf53_5 : decode cJ9_floorMod_7cf53 5 = .ok (.iload_n 1, 1) := by decide +kernel
theorem dJ9_floorMod_7cf53_6 : decode cJ9_floorMod_7cf53 6 = .ok (.ixor, 1) := by decide +kernel
theorem dJ9_floorMod_7cf53_7 : decode cJ9_floorMod_7cf53 7 = .ok (.ifCond .ge 11, 3) := by decide +kernel
theorem dJ9_floorMod_7cf53_10 : decode cJ9_floorMod_7cf53 10 = .ok (.iload_n 2, 1) := by decide +kernel
theorem dJ9_floorMod_7cf53_11 : decode cJ9_floorMod_7cf53 11 = .ok (.ifCond .eq 7, 3) := by decide +kernel
theorem dJ9_floorMod_7cf53_14 : decode cJ9_floorMod_7cf53 14 = .ok (.iload_n 2, 1) := by decide +kernel
theorem dJ9_floorMod_7cf53_15 : decode cJ9_floorMod_7cf53 15 = .ok (.iload_n 1, 1) := by decide +kernel
theorem dJ9_floorMod_7cf53_16 : decode cJ9_floorMod_7cf53 16 = .ok (.iadd, 1) := by decide +kernel
theorem dJ9_floorMod_7cf53_17 : decode cJ9_floorMod_7cf53 17 = .ok (.ireturn, 1) := by decide +kernel
theorem dJ9_floorMod_7cf53_18 : decode cJ9_floorMod_7cf53 18 = .ok (.iload_n 2, 1) := by decide +kernel
theorem dJ9_floorMod_7cf53_19 : decode cJ9_floorMod_7cf53 19 = .ok (.ireturn, 1) := by decide +kernel
theorem dJ9_max_7cf53_0 : decode cJ9_max_7cf53 0 = .ok (.iload_n 0, 1) := by decide +kernel
theorem dJ9_max_7cf53_1 : decode cJ9_max_7cf53 1 = .ok (.iload_n 1, 1) := by decide +kernel
theorem dJ9_max_7cf53_2 : decode cJ9_max_7cf53 2 = .ok (.if_icmp .lt 7, 3) := by decide +kernel
theorem dJ9_max_7cf53_5 : decode cJ9_max_7cf53 5 = .ok (.iload_n 0, 1) := by decide +kernel
theorem dJ9_max_7cf53_6 : decode cJ9_max_7cf53 6 = .ok (.goto 4, 3) := by decide +kernel
theorem dJ9_max_7cf53_9 : decode cJ9_max_7cf53 9 = .ok (.iload_n 1, 1) := by decide +kernel
theorem dJ9_max_7cf53_10 : decode cJ9_max_7cf53 10 = .ok (.ireturn, 1) := by decide +kernel
theorem dL_below_0 : decode cL_below 0 = .ok (.iload_n 0, 1) := by decide +kernel
theorem dL_below_1 : decode cL_below 1 = .ok (.ldc 7, 2) := by decide +kernel
theorem dL_below_3 : decode cL_below 3 = .ok (.iand, 1) := by decide +kernel
theorem dL_below_4 : decode cL_below 4 = .ok (.iload_n 1, 1) := by decide +kernel
theorem dL_below_5 : decode cL_below 5 = .ok (.irem, 1) := by decide +kernel
theorem dL_below_6 : decode cL_below 6 = .ok (.ireturn, 1) := by decide +kernel
theorem dL_cell_0 : decode cL_cell 0 = .ok (.iload_n 1, 1) := by decide +kernel
theorem dL_cell_1 : decode cL_cell 1 = .ok (.aload_n 0, 1) := by decide +kernel
theorem dL_cell_2 : decode cL_cell 2 = .ok (.arraylength, 1) := by decide +kernel
theorem dL_cell_3 : decode cL_cell 3 = .ok (.if_icmp .ge 9, 3) := by decide +kernel
theorem dL_cell_6 : decode cL_cell 6 = .ok (.aload_n 0, 1) := by decide +kernel
theorem dL_cell_7 : decode cL_cell 7 = .ok (.iload_n 1, 1) := by decide +kernel
theorem dL_cell_8 : decode cL_cell 8 = .ok (.iaload, 1) := by decide +kernel
theorem dL_cell_9 : decode cL_cell 9 = .ok (.goto 9, 3) := by decide +kernel
theorem dL_cell_12 : decode cL_cell 12 = .ok (.ldc 8, 2) := by decide +kernel
theorem dL_cell_14 : decode cL_cell 14 = .ok (.iload_n 1, 1) := by decide +kernel
theorem dL_cell_15 : decode cL_cell 15 = .ok (.iconst 3, 1) := by decide +kernel
theorem dL_cell_16 : decode cL_cell 16 = .ok (.iadd, 1) := by decide +kernel
theorem dL_cell_17 : decode cL_cell 17 = .ok (.imul, 1) := by decide +kernel
theorem dL_cell_18 : decode cL_cell 18 = .ok (.ireturn, 1) := by decide +kernel
set_option maxRecDepth 20000 in
theorem ggL_wall_X1_init : GoodIn wsL_wall wsX1_init := goodIn_r _ [6, 7, 8, 9, 10, 11, 12, 13, 14, 15, 16, 17, 18, 189, 190, 191, 192, 193, 194, 195, 196, 197] (by decide +kernel) (by decide +kernel)
set_option maxRecDepth 20000 in
theorem gL_wall_X1_init : GoodIn wsL_wall (wsX1_init) := ggL_wall_X1_init
set_option maxRecDepth 20000 in
theorem ggL_wall_L_cell : GoodIn wsL_wall wsL_cell := goodIn_r _ [22, 23] (by decide +kernel) (by decide +kernel)
set_option maxRecDepth 20000 in
theorem gL_wall_L_cell : GoodIn wsL_wall (va_wsS RL 12 yL_cell wsL_cell) := goodIn_app (goodIn_of _ (by decide +kernel)) ggL_wall_L_cell
set_option maxRecDepth 20000 in
theorem ggL_wall_L_below : GoodIn wsL_wall wsL_below := goodIn_r _ [26, 27] (by decide +kernel) (by decide +kernel)
set_option maxRecDepth 20000 in
theorem gL_wall_L_below : GoodIn wsL_wall (va_wsS RL 18 yL_below wsL_below) := goodIn_app (goodIn_of _ (by decide +kernel)) ggL_wall_L_below
set_option maxRecDepth 20000 in
theorem ggL_wall_X1_setSun : GoodIn wsL_wall wsX1_setSun := goodIn_ca (goodIn_ca (goodIn_r _ [31, 32, 33, 34, 35, 13, 36, 37, 3, 38, 39, 40, 41, 42, 43, 44, 189, 190, 191, 192, 193, 194, 195, 196, 197] (by decide +kernel) (by decide +kernel)) (goodIn_sub (fun _ h => List.mem_cons_of_mem _ (List.mem_append_left _ (List.mem_append_left _ (List.mem_append_right _ h)))) (by decide +kernel))) (goodIn_sub (fun _ h => List.mem_cons_of_mem _ (List.mem_append_left _ (List.mem_append_right _ h))) (by decide +kernel))
set_option maxRecDepth 20000 in
theorem gL_wall_X1_setSun : GoodIn wsL_wall (wsV RL 22 RX1 yX1_setSun wsX1_setSun) := goodIn_app (goodIn_of _ (by decide +kernel)) ggL_wall_X1_setSun
set_option maxRecDepth 20000 in
theorem ggL_wall_X1_spread : GoodIn wsL_wall wsX1_spread := goodIn_ca (goodIn_ca (goodIn_r _ [48, 34, 35, 12, 11, 49, 50, 3, 51, 32, 33, 52, 53, 54, 36, 37, 38, 55, 56, 57, 39, 40, 41, 42, 43, 44, 189, 190, 191, 192, 193, 194, 195, 196, 197] (by decide +kernel) (by decide +kernel)) (goodIn_sub (fun _ h => List.mem_cons_of_mem _ (List.mem_append_left _ (List.mem_append_right _ h))) (by decide +kernel))) (goodIn_sub (fun _ h => List.mem_cons_of_mem _ (List.mem_append_left _ (List.mem_append_left _ (List.mem_append_right _ h)))) (by decide +kernel))
set_option maxRecDepth 20000 in
theorem gL_wall_X1_spread : GoodIn wsL_wall (wsV RL 25 RX1 yX1_spread wsX1_spread) := goodIn_app (goodIn_of _ (by decide +kernel)) ggL_wall_X1_spread
set_option maxRecDepth 20000 in
theorem ggL_wall_X1_pass : GoodIn wsL_wall wsX1_pass := goodIn_ca (goodIn_r _ [61, 34, 35, 11, 62, 36, 37, 3, 38, 63, 64, 65, 66, 13, 12, 67, 68, 69, 70, 71, 72, 73, 74, 39, 40, 41, 42, 43, 44, 75, 76, 77, 78, 79, 80, 81, 82, 83, 15, 84, 85, 86, 87, 88, 89, 90, 91, 92, 93, 94, 95, 96, 56, 57, 189, 190, 191, 192, 193, 194, 195, 196, 197, 198, 199, 200, 201, 202, 203, 204, 205] (by decide +kernel) (by decide +kernel)) (goodIn_sub (fun _ h => List.mem_cons_of_mem _ (List.mem_append_left _ (List.mem_append_right _ h))) (by decide +kernel))
set_option maxRecDepth 20000 in
theorem gL_wall_X1_pass : GoodIn wsL_wall (wsV RL 29 RX1 yX1_pass wsX1_pass) := goodIn_app (goodIn_of _ (by decide +kernel)) ggL_wall_X1_pass
set_option maxRecDepth 20000 in
theorem ggL_wall_X1_count : GoodIn wsL_wall wsX1_count := goodIn_ca (goodIn_r _ [100, 32, 33, 36, 37, 3, 38, 101, 102, 103, 104, 62, 79, 11, 12, 105, 106, 107, 108, 87, 80, 81, 82, 83, 15, 75, 76, 77, 78, 84, 85, 86, 88, 89, 90, 91, 92, 93, 94, 95, 96, 56, 57, 39, 40, 41, 109, 110, 111, 112, 113, 114, 115, 116, 117, 118, 119, 17, 120, 121, 122, 123, 18, 124, 125, 126, 127, 55, 52, 53, 54, 42, 43, 44, 189, 190, 191, 192, 193, 194, 195, 196, 197, 198, 199, 200, 201, 202, 203, 204, 205] (by decide +kernel) (by decide +kernel)) (goodIn_sub (fun _ h => List.mem_cons_of_mem _ (List.mem_append_left _ (List.mem_append_left _ (List.mem_append_right _ h)))) (by decide +kernel))
set_option maxRecDepth 20000 in
theorem gL_wall_X1_count : GoodIn wsL_wall (wsV RL 33 RX1 yX1_count wsX1_count) := goodIn_app (goodIn_of _ (by decide +kernel)) ggL_wall_X1_count
set_option maxRecDepth 20000 in
theorem ggL_wall_L_act : GoodIn wsL_wall wsL_act := goodIn_ca (goodIn_ca (goodIn_r _ [130, 131, 132, 133, 134, 3, 135, 32, 33, 136, 137, 11, 138, 88, 80, 81, 82, 83, 79, 15, 36, 37, 38, 84, 85, 86, 87, 89, 90, 91, 92, 93, 94, 95, 96, 56, 57, 39, 40, 41, 42, 43, 44, 139, 140, 141, 142, 143, 144, 145, 146, 147, 148, 149, 150, 151, 152, 153, 154, 155, 156, 52, 53, 54, 55, 157, 158, 159, 160, 12, 161, 162, 163, 164, 165, 166, 167, 168, 169, 170, 171, 172, 189, 190, 191, 192, 193, 194, 195, 196, 197, 198, 199, 200, 201, 202, 203, 204, 205] (by decide +kernel) (by decide +kernel)) (goodIn_sub (fun _ h => List.mem_cons_of_mem _ (List.mem_append_left _ (List.mem_append_left _ (List.mem_append_right _ h)))) (by decide +kernel))) (goodIn_sub (fun _ h => List.mem_cons_of_mem _ (List.mem_append_right _ h)) (by decide +kernel))
set_option maxRecDepth 20000 in
theorem gL_wall_L_act : GoodIn wsL_wall (va_wsS RL 36 yL_act wsL_act) := goodIn_app (goodIn_of _ (by decide +kernel)) ggL_wall_L_act
set_option maxRecDepth 20000 in
theorem ggL_wall_L_press : GoodIn wsL_wall wsL_press := goodIn_ca (goodIn_ca (goodIn_ca (goodIn_r _ [175, 131, 176, 177, 178, 3, 179, 34, 35, 136, 137, 79, 15, 14, 180, 92, 49, 50, 51, 32, 33, 52, 53, 54, 36, 37, 38, 181, 182, 183, 153, 154, 155, 156, 55, 56, 57, 157, 158, 159, 160, 12, 11, 39, 40, 41, 184, 185, 186, 187, 8, 9, 95, 96, 188, 94, 145, 144, 161, 162, 163, 164, 88, 89, 90, 91, 93, 42, 43, 44, 189, 190, 191, 192, 193, 194, 195, 196, 197, 198, 199, 200, 201, 202, 203, 204, 205] (by decide +kernel) (by decide +kernel)) (goodIn_sub (fun _ h => List.mem_cons_of_mem _ (List.mem_append_left _ (List.mem_append_right _ h))) (by decide +kernel))) (goodIn_sub (fun _ h => List.mem_cons_of_mem _ (List.mem_append_right _ h)) (by decide +kernel))) (goodIn_sub (fun _ h => List.mem_cons_of_mem _ (List.mem_append_left _ (List.mem_append_left _ (List.mem_append_right _ h)))) (by decide +kernel))
set_option maxRecDepth 20000 in
theorem gL_wall_L_press : GoodIn wsL_wall (va_wsS RL 40 yL_press wsL_press) := goodIn_app (goodIn_of _ (by decide +kernel)) ggL_wall_L_press
theorem dL_wall_0 : decode cL_wall 0 = .ok (.new 9, 3) := by decide +kernel
theorem dL_wall_3 : decode cL_wall 3 = .ok (.dup, 1) := by decide +kernel
theorem dL_wall_4 : decode cL_wall 4 = .ok (.invokespecial 11, 3) := by decide +kernel
theorem dL_wall_7 : decode cL_wall 7 = .ok (.astore_n 1, 1) := by decide +kernel
theorem dL_wall_8 : decode cL_wall 8 = .ok (.iconst 0, 1) := by decide +kernel
theorem dL_wall_9 : decode cL_wall 9 = .ok (.istore_n 2, 1) := by decide +kernel
theorem dL_wall_10 : decode cL_wall 10 = .ok (.iload_n 2, 1) := by decide +kernel
theorem dL_wall_11 : decode cL_wall 11 = .ok (.bipush 8, 2) := by decide +kernel
theorem dL_wall_13 : decode cL_wall 13 = .ok (.if_icmp .ge 44, 3) := by decide +kernel
theorem dL_wall_16 : decode cL_wall 16 = .ok (.aload_n 1, 1) := by decide +kernel
theorem dL_wall_17 : decode cL_wall 17 = .ok (.iload_n 2, 1) := by decide +kernel
theorem dL_wall_18 : decode cL_wall 18 = .ok (.aload_n 0, 1) := by decide +kernel
theorem dL_wall_19 : decode cL_wall 19 = .ok (.iconst 0, 1) := by decide +kernel
theorem dL_wall_20 : decode cL_wall 20 = .ok (.invokestatic 12, 3) := by decide +kernel
theorem dL_wall_23 : decode cL_wall 23 = .ok (.iconst 2, 1) := by decide +kernel
theorem dL_wall_24 : decode cL_wall 24 = .ok (.iload_n 2, 1) := by decide +kernel
theorem dL_wall_25 : decode cL_wall 25 = .ok (.imul, 1) := by decide +kernel
theorem dL_wall_26 : decode cL_wall 26 = .ok (.ishr, 1) := by decide +kernel
theorem dL_wall_27 : decode cL_wall 27 = .ok (.aload_n 0, 1) := by decide +kernel
theorem dL_wall_28 : decode cL_wall 28 = .ok (.iconst 1, 1) := by decide +kernel
theorem dL_wall_29 : decode cL_wall 29 = .ok (.invokestatic 12, 3) := by decide +kernel
theorem dL_wall_32 : decode cL_wall 32 = .ok (.iconst 3, 1) := by decide +kernel
theorem dL_wall_33 : decode cL_wall 33 = .ok (.invokestatic 18, 3) := by decide +kernel
theorem dL_wall_36 : decode cL_wall 36 = .ok (.ifCond .ne 7, 3) := by decide +kernel
theorem dL_wall_39 : decode cL_wall 39 = .ok (.iconst 5, 1) := by decide +kernel
theorem dL_wall_40 : decode cL_wall 40 = .ok (.goto 4, 3) := by decide +kernel
theorem dL_wall_43 : decode cL_wall 43 = .ok (.iconst 2, 1) := by decide +kernel
theorem dL_wall_44 : decode cL_wall 44 = .ok (.invokestatic 18, 3) := by decide +kernel
theorem dL_wall_47 : decode cL_wall 47 = .ok (.invokevirtual 22, 3) := by decide +kernel
theorem dL_wall_50 : decode cL_wall 50 = .ok (.pop, 1) := by decide +kernel
theorem dL_wall_51 : decode cL_wall 51 = .ok (.iinc 2 1, 3) := by decide +kernel
theorem dL_wall_54 : decode cL_wall 54 = .ok (.goto (-44), 3) := by decide +kernel
theorem dL_wall_57 : decode cL_wall 57 = .ok (.aload_n 1, 1) := by decide +kernel
theorem dL_wall_58 : decode cL_wall 58 = .ok (.iconst 0, 1) := by decide +kernel
theorem dL_wall_59 : decode cL_wall 59 = .ok (.iconst 0, 1) := by decide +kernel
theorem dL_wall_60 : decode cL_wall 60 = .ok (.bipush 10, 2) := by decide +kernel
theorem dL_wall_62 : decode cL_wall 62 = .ok (.bipush 8, 2) := by decide +kernel
theorem dL_wall_64 : decode cL_wall 64 = .ok (.invokevirtual 25, 3) := by decide +kernel
theorem dL_wall_67 : decode cL_wall 67 = .ok (.pop, 1) := by decide +kernel
theorem dL_wall_68 : decode cL_wall 68 = .ok (.iconst 4, 1) := by decide +kernel
theorem dL_wall_69 : decode cL_wall 69 = .ok (.aload_n 0, 1) := by decide +kernel
theorem dL_wall_70 : decode cL_wall 70 = .ok (.iconst 2, 1) := by decide +kernel
theorem dL_wall_71 : decode cL_wall 71 = .ok (.invokestatic 12, 3) := by decide +kernel
theorem dL_wall_74 : decode cL_wall 74 = .ok (.bipush 60, 2) := by decide +kernel
theorem dL_wall_76 : decode cL_wall 76 = .ok (.invokestatic 18, 3) := by decide +kernel
theorem dL_wall_79 : decode cL_wall 79 = .ok (.iadd, 1) := by decide +kernel
theorem dL_wall_80 : decode cL_wall 80 = .ok (.istore_n 2, 1) := by decide +kernel
theorem dL_wall_81 : decode cL_wall 81 = .ok (.iconst 0, 1) := by decide +kernel
theorem dL_wall_82 : decode cL_wall 82 = .ok (.istore_n 3, 1) := by decide +kernel
theorem dL_wall_83 : decode cL_wall 83 = .ok (.iload_n 3, 1) := by decide +kernel
theorem dL_wall_84 : decode cL_wall 84 = .ok (.iload_n 2, 1) := by decide +kernel
theorem dL_wall_85 : decode cL_wall 85 = .ok (.if_icmp .ge 231, 3) := by decide +kernel
theorem dL_wall_88 : decode cL_wall 88 = .ok (.aload_n 0, 1) := by decide +kernel
theorem dL_wall_89 : decode cL_wall 89 = .ok (.iconst 3, 1) := by decide +kernel
theorem dL_wall_90 : decode cL_wall 90 = .ok (.iload_n 3, 1) := by decide +kernel
theorem dL_wall_91 : decode cL_wall 91 = .ok (.bipush 11, 2) := by decide +kernel
theorem dL_wall_93 : decode cL_wall 93 = .ok (.irem, 1) := by decide +kernel
theorem dL_wall_94 : decode cL_wall 94 = .ok (.iadd, 1) := by decide +kernel
theorem dL_wall_95 : decode cL_wall 95 = .ok (.invokestatic 12, 3) := by decide +kernel
theorem dL_wall_98 : decode cL_wall 98 = .ok (.iload_n 3, 1) := by decide +kernel
theorem dL_wall_99 : decode cL_wall 99 = .ok (.bipush 11, 2) := by decide +kernel
theorem dL_wall_101 : decode cL_wall 101 = .ok (.idiv, 1) := by decide +kernel
theorem dL_wall_102 : decode cL_wall 102 = .ok (.iconst 4, 1) := by decide +kernel
theorem dL_wall_103 : decode cL_wall 103 = .ok (.imul, 1) := by decide +kernel
theorem dL_wall_104 : decode cL_wall 104 = .ok (.ishr, 1) := by decide +kernel
theorem dL_wall_105 : decode cL_wall 105 = .ok (.bipush 37, 2) := by decide +kernel
theorem dL_wall_107 : decode cL_wall 107 = .ok (.iload_n 3, 1) := by decide +kernel
theorem dL_wall_108 : decode cL_wall 108 = .ok (.imul, 1) := by decide +kernel
theorem dL_wall_109 : decode cL_wall 109 = .ok (.iadd, 1) := by decide +kernel
theorem dL_wall_110 : decode cL_wall 110 = .ok (.istore 4, 2) := by decide +kernel
theorem dL_wall_112 : decode cL_wall 112 = .ok (.iload 4, 2) := by decide +kernel
theorem dL_wall_114 : decode cL_wall 114 = .ok (.bipush 9, 2) := by decide +kernel
theorem dL_wall_116 : decode cL_wall 116 = .ok (.ishr, 1) := by decide +kernel
theorem dL_wall_117 : decode cL_wall 117 = .ok (.bipush 12, 2) := by decide +kernel
theorem dL_wall_119 : decode cL_wall 119 = .ok (.invokestatic 18, 3) := by decide +kernel
theorem dL_wall_122 : decode cL_wall 122 = .ok (.tableswitch 121 0 4 #[34, 60, 87, 87, 87], 34) := by decide +kernel
theorem dL_wall_156 : decode cL_wall 156 = .ok (.aload_n 1, 1) := by decide +kernel
theorem dL_wall_157 : decode cL_wall 157 = .ok (.iload 4, 2) := by decide +kernel
theorem dL_wall_159 : decode cL_wall 159 = .ok (.bipush 8, 2) := by decide +kernel
theorem dL_wall_161 : decode cL_wall 161 = .ok (.invokestatic 18, 3) := by decide +kernel
theorem dL_wall_164 : decode cL_wall 164 = .ok (.iload 4, 2) := by decide +kernel
theorem dL_wall_166 : decode cL_wall 166 = .ok (.iconst 3, 1) := by decide +kernel
theorem dL_wall_167 : decode cL_wall 167 = .ok (.ishr, 1) := by decide +kernel
theorem dL_wall_168 : decode cL_wall 168 = .ok (.bipush 6, 2) := by decide +kernel
theorem dL_wall_170 : decode cL_wall 170 = .ok (.invokestatic 18, 3) := by decide +kernel
theorem dL_wall_173 : decode cL_wall 173 = .ok (.iconst 2, 1) := by decide +kernel
theorem dL_wall_174 : decode cL_wall 174 = .ok (.iconst 2, 1) := by decide +kernel
theorem dL_wall_175 : decode cL_wall 175 = .ok (.invokevirtual 25, 3) := by decide +kernel
theorem dL_wall_178 : decode cL_wall 178 = .ok (.pop, 1) := by decide +kernel
theorem dL_wall_179 : decode cL_wall 179 = .ok (.goto 131, 3) := by decide +kernel
theorem dL_wall_182 : decode cL_wall 182 = .ok (.iload 4, 2) := by decide +kernel
theorem dL_wall_184 : decode cL_wall 184 = .ok (.iconst 4, 1) := by decide +kernel
theorem dL_wall_185 : decode cL_wall 185 = .ok (.invokestatic 18, 3) := by decide +kernel
theorem dL_wall_188 : decode cL_wall 188 = .ok (.ifCond .ne 122, 3) := by decide +kernel
theorem dL_wall_191 : decode cL_wall 191 = .ok (.aload_n 1, 1) := by decide +kernel
theorem dL_wall_192 : decode cL_wall 192 = .ok (.iconst 1, 1) := by decide +kernel
theorem dL_wall_193 : decode cL_wall 193 = .ok (.iload 4, 2) := by decide +kernel
theorem dL_wall_195 : decode cL_wall 195 = .ok (.iconst 2, 1) := by decide +kernel
theorem dL_wall_196 : decode cL_wall 196 = .ok (.ishr, 1) := by decide +kernel
theorem dL_wall_197 : decode cL_wall 197 = .ok (.iconst 3, 1) := by decide +kernel
theorem dL_wall_198 : decode cL_wall 198 = .ok (.invokestatic 18, 3) := by decide +kernel
theorem dL_wall_201 : decode cL_wall 201 = .ok (.iadd, 1) := by decide +kernel
theorem dL_wall_202 : decode cL_wall 202 = .ok (.invokevirtual 29, 3) := by decide +kernel
theorem dL_wall_205 : decode cL_wall 205 = .ok (.pop, 1) := by decide +kernel
theorem dL_wall_206 : decode cL_wall 206 = .ok (.goto 104, 3) := by decide +kernel
theorem dL_wall_209 : decode cL_wall 209 = .ok (.aload_n 1, 1) := by decide +kernel
theorem dL_wall_210 : decode cL_wall 210 = .ok (.iconst 1, 1) := by decide +kernel
theorem dL_wall_211 : decode cL_wall 211 = .ok (.invokevirtual 33, 3) := by decide +kernel
theorem dL_wall_214 : decode cL_wall 214 = .ok (.ifCond .le 96, 3) := by decide +kernel
theorem dL_wall_217 : decode cL_wall 217 = .ok (.aload_n 1, 1) := by decide +kernel
theorem dL_wall_218 : decode cL_wall 218 = .ok (.iload 4, 2) := by decide +kernel
theorem dL_wall_220 : decode cL_wall 220 = .ok (.aload_n 1, 1) := by decide +kernel
theorem dL_wall_221 : decode cL_wall 221 = .ok (.iconst 1, 1) := by decide +kernel
theorem dL_wall_222 : decode cL_wall 222 = .ok (.invokevirtual 33, 3) := by decide +kernel
theorem dL_wall_225 : decode cL_wall 225 = .ok (.invokestatic 18, 3) := by decide +kernel
theorem dL_wall_228 : decode cL_wall 228 = .ok (.iload 4, 2) := by decide +kernel
theorem dL_wall_230 : decode cL_wall 230 = .ok (.iconst 4, 1) := by decide +kernel
theorem dL_wall_231 : decode cL_wall 231 = .ok (.ishr, 1) := by decide +kernel
theorem dL_wall_232 : decode cL_wall 232 = .ok (.iconst 4, 1) := by decide +kernel
theorem dL_wall_233 : decode cL_wall 233 = .ok (.invokestatic 18, 3) := by decide +kernel
theorem dL_wall_236 : decode cL_wall 236 = .ok (.invokestatic 36, 3) := by decide +kernel
theorem dL_wall_239 : decode cL_wall 239 = .ok (.pop, 1) := by decide +kernel
theorem dL_wall_240 : decode cL_wall 240 = .ok (.goto 70, 3) := by decide +kernel
theorem dL_wall_243 : decode cL_wall 243 = .ok (.aload_n 1, 1) := by decide +kernel
theorem dL_wall_244 : decode cL_wall 244 = .ok (.iload 4, 2) := by decide +kernel
theorem dL_wall_246 : decode cL_wall 246 = .ok (.bipush 10, 2) := by decide +kernel
theorem dL_wall_248 : decode cL_wall 248 = .ok (.invokestatic 18, 3) := by decide +kernel
theorem dL_wall_251 : decode cL_wall 251 = .ok (.iload 4, 2) := by decide +kernel
theorem dL_wall_253 : decode cL_wall 253 = .ok (.iconst 3, 1) := by decide +kernel
theorem dL_wall_254 : decode cL_wall 254 = .ok (.ishr, 1) := by decide +kernel
theorem dL_wall_255 : decode cL_wall 255 = .ok (.bipush 8, 2) := by decide +kernel
theorem dL_wall_257 : decode cL_wall 257 = .ok (.invokestatic 18, 3) := by decide +kernel
theorem dL_wall_260 : decode cL_wall 260 = .ok (.iconst 1, 1) := by decide +kernel
theorem dL_wall_261 : decode cL_wall 261 = .ok (.iload 4, 2) := by decide +kernel
theorem dL_wall_263 : decode cL_wall 263 = .ok (.iconst 5, 1) := by decide +kernel
theorem dL_wall_264 : decode cL_wall 264 = .ok (.ishr, 1) := by decide +kernel
theorem dL_wall_265 : decode cL_wall 265 = .ok (.iconst 3, 1) := by decide +kernel
theorem dL_wall_266 : decode cL_wall 266 = .ok (.invokestatic 18, 3) := by decide +kernel
theorem dL_wall_269 : decode cL_wall 269 = .ok (.iadd, 1) := by decide +kernel
theorem dL_wall_270 : decode cL_wall 270 = .ok (.iload 4, 2) := by decide +kernel
theorem dL_wall_272 : decode cL_wall 272 = .ok (.bipush 7, 2) := by decide +kernel
theorem dL_wall_274 : decode cL_wall 274 = .ok (.ishr, 1) := by decide +kernel
theorem dL_wall_275 : decode cL_wall 275 = .ok (.iconst 2, 1) := by decide +kernel
theorem dL_wall_276 : decode cL_wall 276 = .ok (.invokestatic 18, 3) := by decide +kernel
theorem dL_wall_279 : decode cL_wall 279 = .ok (.ifCond .ne 7, 3) := by decide +kernel
theorem dL_wall_282 : decode cL_wall 282 = .ok (.iconst 1, 1) := by decide +kernel
theorem dL_wall_283 : decode cL_wall 283 = .ok (.goto 4, 3) := by decide +kernel
theorem dL_wall_286 : decode cL_wall 286 = .ok (.iconst 0, 1) := by decide +kernel
theorem dL_wall_287 : decode cL_wall 287 = .ok (.iload 4, 2) := by decide +kernel
theorem dL_wall_289 : decode cL_wall 289 = .ok (.iconst 2, 1) := by decide +kernel
theorem dL_wall_290 : decode cL_wall 290 = .ok (.ishr, 1) := by decide +kernel
theorem dL_wall_291 : decode cL_wall 291 = .ok (.bipush 7, 2) := by decide +kernel
theorem dL_wall_293 : decode cL_wall 293 = .ok (.invokestatic 18, 3) := by decide +kernel
theorem dL_wall_296 : decode cL_wall 296 = .ok (.iload 4, 2) := by decide +kernel
theorem dL_wall_298 : decode cL_wall 298 = .ok (.bipush 6, 2) := by decide +kernel
theorem dL_wall_300 : decode cL_wall 300 = .ok (.ishr, 1) := by decide +kernel
theorem dL_wall_301 : decode cL_wall 301 = .ok (.bipush 7, 2) := by decide +kernel
theorem dL_wall_303 : decode cL_wall 303 = .ok (.invokestatic 18, 3) := by decide +kernel
theorem dL_wall_306 : decode cL_wall 306 = .ok (.invokestatic 40, 3) := by decide +kernel
theorem dL_wall_309 : decode cL_wall 309 = .ok (.pop, 1) := by decide +kernel
theorem dL_wall_310 : decode cL_wall 310 = .ok (.iinc 3 1, 3) := by decide +kernel
theorem dL_wall_313 : decode cL_wall 313 = .ok (.goto (-230), 3) := by decide +kernel
theorem dL_wall_316 : decode cL_wall 316 = .ok (.aload_n 1, 1) := by decide +kernel
theorem dL_wall_317 : decode cL_wall 317 = .ok (.areturn, 1) := by decide +kernel
set_option maxRecDepth 20000 in
theorem ggL_press_X1_press : GoodIn wsL_press wsX1_press := goodIn_ca (goodIn_ca (goodIn_ca (goodIn_r _ [6, 7, 8, 9, 10, 11, 12, 13, 14, 15, 16, 17, 5, 18, 19, 20, 21, 22, 23, 24, 25, 26, 27, 28, 29, 30, 31, 32, 33, 34, 35, 36, 37, 38, 39, 40, 41, 42, 43, 44, 45, 46, 47, 48, 49, 50, 51, 52, 53, 54, 55, 56, 57, 58, 59, 60, 61, 62, 63, 64, 65, 66, 67, 68, 69, 70, 71, 72, 73, 74, 75, 76, 77, 78, 79, 80, 81, 82, 83, 84, 85, 86] (by decide +kernel) (by decide +kernel)) (goodIn_sub (fun _ h => List.mem_cons_of_mem _ (List.mem_append_left _ (List.mem_append_left _ (List.mem_append_right _ h)))) (by decide +kernel))) (goodIn_sub (fun _ h => List.mem_cons_of_mem _ (List.mem_append_left _ (List.mem_append_right _ h))) (by decide +kernel))) (goodIn_sub (fun _ h => List.mem_cons_of_mem _ (List.mem_append_right _ h)) (by decide +kernel))
set_option maxRecDepth 20000 in
theorem gL_press_X1_press : GoodIn wsL_press (wsV RL 44 RX1 yX1_press wsX1_press) := goodIn_app (goodIn_of _ (by decide +kernel)) ggL_press_X1_press
theorem dL_press_0 : decode cL_press 0 = .ok (.aload_n 0, 1) := by decide +kernel
theorem dL_press_1 : decode cL_press 1 = .ok (.iload_n 1, 1) := by decide +kernel
theorem dL_press_2 : decode cL_press 2 = .ok (.iload_n 2, 1) := by decide +kernel
theorem dL_press_3 : decode cL_press 3 = .ok (.iload_n 3, 1) := by decide +kernel
theorem dL_press_4 : decode cL_press 4 = .ok (.iload 4, 2) := by decide +kernel
theorem dL_press_6 : decode cL_press 6 = .ok (.iload 5, 2) := by decide +kernel
theorem dL_press_8 : decode cL_press 8 = .ok (.iload 6, 2) := by decide +kernel
theorem dL_press_10 : decode cL_press 10 = .ok (.invokevirtual 44, 3) := by decide +kernel
theorem dL_press_13 : decode cL_press 13 = .ok (.ireturn, 1) := by decide +kernel
theorem dL_press_14 : decode cL_press 14 = .ok (.astore 7, 2) := by decide +kernel
theorem dL_press_16 : decode cL_press 16 = .ok (.iconst (-1), 1) := by decide +kernel
theorem dL_press_17 : decode cL_press 17 = .ok (.ireturn, 1) := by decide +kernel
set_option maxRecDepth 20000 in
theorem ggL_act_X1_flip : GoodIn wsL_act wsX1_flip := goodIn_ca (goodIn_ca (goodIn_r _ [6, 7, 8, 9, 10, 11, 12, 13, 14, 15, 16, 5, 17, 18, 19, 20, 21, 22, 23, 24, 25, 26, 27, 28, 29, 30, 31, 32, 33, 34, 35, 36, 37, 38, 39, 40, 41, 42, 43, 44, 45, 46, 47, 48, 49, 82, 83, 84, 85, 86, 87, 88, 89, 90, 91, 92, 93, 94, 95, 96, 97, 98] (by decide +kernel) (by decide +kernel)) (goodIn_sub (fun _ h => List.mem_cons_of_mem _ (List.mem_append_left _ (List.mem_append_right _ h))) (by decide +kernel))) (goodIn_sub (fun _ h => List.mem_cons_of_mem _ (List.mem_append_right _ h)) (by decide +kernel))
set_option maxRecDepth 20000 in
theorem gL_act_X1_flip : GoodIn wsL_act (wsV RL 49 RX1 yX1_flip wsX1_flip) := goodIn_app (goodIn_of _ (by decide +kernel)) ggL_act_X1_flip
set_option maxRecDepth 20000 in
theorem ggL_act_X1_turn : GoodIn wsL_act wsX1_turn := goodIn_ca (goodIn_ca (goodIn_r _ [53, 7, 8, 9, 10, 11, 54, 55, 13, 56, 14, 15, 16, 5, 17, 18, 19, 20, 21, 22, 23, 24, 25, 26, 27, 28, 29, 30, 31, 32, 33, 34, 35, 36, 37, 38, 39, 57, 58, 59, 60, 61, 62, 63, 64, 65, 66, 67, 68, 69, 70, 71, 72, 73, 40, 41, 42, 82, 83, 84, 85, 86, 87, 88, 89, 90, 91, 92, 93, 94, 95, 96, 97, 98] (by decide +kernel) (by decide +kernel)) (goodIn_sub (fun _ h => List.mem_cons_of_mem _ (List.mem_append_left _ (List.mem_append_right _ h))) (by decide +kernel))) (goodIn_sub (fun _ h => List.mem_cons_of_mem _ (List.mem_append_right _ h)) (by decide +kernel))
set_option maxRecDepth 20000 in
theorem gL_act_X1_turn : GoodIn wsL_act (wsV RL 52 RX1 yX1_turn wsX1_turn) := goodIn_app (goodIn_of _ (by decide +kernel)) ggL_act_X1_turn
set_option maxRecDepth 20000 in
theorem ggL_act_X1_take : GoodIn wsL_act wsX1_take := goodIn_ca (goodIn_ca (goodIn_r _ [77, 7, 8, 9, 10, 26, 11, 14, 15, 16, 5, 17, 18, 19, 20, 21, 22, 23, 24, 25, 13, 27, 28, 29, 30, 31, 32, 33, 34, 35, 36, 37, 38, 39, 70, 71, 72, 73, 69, 40, 41, 42, 78, 79, 80, 81, 91, 92, 93, 94, 95, 96, 97, 98, 82, 83, 84, 85, 86, 87, 88, 89, 90] (by decide +kernel) (by decide +kernel)) (goodIn_sub (fun _ h => List.mem_cons_of_mem _ (List.mem_append_left _ (List.mem_append_right _ h))) (by decide +kernel))) (goodIn_sub (fun _ h => List.mem_cons_of_mem _ (List.mem_append_right _ h)) (by decide +kernel))
set_option maxRecDepth 20000 in
theorem gL_act_X1_take : GoodIn wsL_act (wsV RL 55 RX1 yX1_take wsX1_take) := goodIn_app (goodIn_of _ (by decide +kernel)) ggL_act_X1_take
theorem dL_act_0 : decode cL_act 0 = .ok (.iload_n 2, 1) := by decide +kernel
theorem dL_act_1 : decode cL_act 1 = .ok (.iconst 2, 1) := by decide +kernel
theorem dL_act_2 : decode cL_act 2 = .ok (.if_icmp .ge 11, 3) := by decide +kernel
theorem dL_act_5 : decode cL_act 5 = .ok (.aload_n 0, 1) := by decide +kernel
theorem dL_act_6 : decode cL_act 6 = .ok (.iload_n 1, 1) := by decide +kernel
theorem dL_act_7 : decode cL_act 7 = .ok (.invokevirtual 49, 3) := by decide +kernel
theorem dL_act_10 : decode cL_act 10 = .ok (.goto 29, 3) := by decide +kernel
theorem dL_act_13 : decode cL_act 13 = .ok (.iload_n 2, 1) := by decide +kernel
theorem dL_act_14 : decode cL_act 14 = .ok (.iconst 2, 1) := by decide +kernel
theorem dL_act_15 : decode cL_act 15 = .ok (.if_icmp .ne 11, 3) := by decide +kernel
theorem dL_act_18 : decode cL_act 18 = .ok (.aload_n 0, 1) := by decide +kernel
theorem dL_act_19 : decode cL_act 19 = .ok (.iload_n 1, 1) := by decide +kernel
theorem dL_act_20 : decode cL_act 20 = .ok (.invokevirtual 52, 3) := by decide +kernel
theorem dL_act_23 : decode cL_act 23 = .ok (.goto 16, 3) := by decide +kernel
theorem dL_act_26 : decode cL_act 26 = .ok (.aload_n 0, 1) := by decide +kernel
theorem dL_act_27 : decode cL_act 27 = .ok (.iload_n 1, 1) := by decide +kernel
theorem dL_act_28 : decode cL_act 28 = .ok (.invokevirtual 55, 3) := by decide +kernel
theorem dL_act_31 : decode cL_act 31 = .ok (.ifCond .eq 7, 3) := by decide +kernel
theorem dL_act_34 : decode cL_act 34 = .ok (.iconst 1, 1) := by decide +kernel
theorem dL_act_35 : decode cL_act 35 = .ok (.goto 4, 3) := by decide +kernel
theorem dL_act_38 : decode cL_act 38 = .ok (.iconst 0, 1) := by decide +kernel
theorem dL_act_39 : decode cL_act 39 = .ok (.ireturn, 1) := by decide +kernel
theorem dL_act_40 : decode cL_act 40 = .ok (.astore_n 3, 1) := by decide +kernel
theorem dL_act_41 : decode cL_act 41 = .ok (.iconst (-1), 1) := by decide +kernel
theorem dL_act_42 : decode cL_act 42 = .ok (.ireturn, 1) := by decide +kernel
set_option maxRecDepth 20000 in
theorem ggL_law_L_wall : GoodIn wsL_law wsL_wall := goodIn_ca (goodIn_ca (goodIn_ca (goodIn_r _ [12, 13, 14, 15, 16, 17, 18, 19, 20, 21, 1, 22, 23, 24, 25, 26, 27, 28, 29, 30, 31, 11, 32, 33, 34, 35, 36, 37, 38, 39, 40, 41, 42, 43, 44, 45, 46, 47, 48, 49, 50, 51, 52, 53, 54, 55, 56, 57, 58, 59, 60, 61, 62, 63, 64, 65, 66, 67, 68, 69, 70, 71, 72, 73, 74, 75, 76, 77, 3, 4, 5, 78, 79, 80, 81, 82, 83, 84, 85, 86, 87, 88, 89, 90, 91, 92, 93, 94, 95, 96, 97, 98, 99, 100, 101, 102, 103, 104, 105, 106, 107, 108, 109, 110, 111, 112, 113, 114, 115, 116, 117, 118, 119, 120, 121, 122, 123, 124, 125, 126, 127, 128, 129, 130, 131, 132, 133, 134, 135, 136, 137, 138, 139, 140, 141, 142, 143, 144, 145, 146, 147, 148, 149, 150, 151, 152, 153, 154, 155, 156, 157, 158, 159, 160, 161, 162, 163, 164, 165, 166, 167, 168, 169, 170, 171, 172, 173, 174, 175, 176, 177, 178, 179, 180, 181, 182, 183, 184, 185, 186, 187, 188, 189, 190, 191, 192, 193, 194, 195, 278, 279, 280, 281, 282, 283, 284, 285, 286, 287, 288, 289, 290, 291, 292, 293, 294] (by decide +kernel) (by decide +kernel)) (goodIn_sub (fun _ h => List.mem_append_left _ (List.mem_append_left _ (List.mem_append_right _ h))) (by decide +kernel))) (goodIn_sub (fun _ h => List.mem_append_left _ (List.mem_append_right _ h)) (by decide +kernel))) (goodIn_sub (fun _ h => List.mem_append_right _ h) (by decide +kernel))
set_option maxRecDepth 20000 in
theorem gL_law_L_wall : GoodIn wsL_law (va_wsS RL 59 yL_wall wsL_wall) := goodIn_app (goodIn_of _ (by decide +kernel)) ggL_law_L_wall
set_option maxRecDepth 20000 in
theorem ggL_law_L_cell : GoodIn wsL_law wsL_cell := goodIn_r _ [32, 33] (by decide +kernel) (by decide +kernel)
set_option maxRecDepth 20000 in
theorem gL_law_L_cell : GoodIn wsL_law (va_wsS RL 12 yL_cell wsL_cell) := goodIn_app (goodIn_of _ (by decide +kernel)) ggL_law_L_cell
set_option maxRecDepth 20000 in
theorem ggL_law_X1_count : GoodIn wsL_law wsX1_count := goodIn_ca (goodIn_r _ [107, 42, 43, 46, 47, 15, 48, 108, 109, 110, 111, 72, 86, 22, 23, 112, 113, 114, 115, 94, 87, 88, 89, 90, 26, 82, 83, 84, 85, 91, 92, 93, 95, 96, 97, 98, 99, 100, 101, 102, 103, 66, 67, 49, 50, 51, 116, 117, 118, 119, 120, 121, 122, 123, 124, 125, 126, 28, 127, 128, 129, 130, 29, 131, 132, 133, 134, 65, 62, 63, 64, 52, 53, 54, 278, 279, 280, 281, 282, 283, 284, 285, 286, 287, 288, 289, 290, 291, 292, 293, 294] (by decide +kernel) (by decide +kernel)) (goodIn_sub (fun _ h => List.mem_append_left _ (List.mem_append_left _ (List.mem_append_right _ h))) (by decide +kernel))
set_option maxRecDepth 20000 in
theorem gL_law_X1_count : GoodIn wsL_law (wsV RL 33 RX1 yX1_count wsX1_count) := goodIn_app (goodIn_of _ (by decide +kernel)) ggL_law_X1_count
set_option maxRecDepth 20000 in
theorem ggL_law_X1_cell : GoodIn wsL_law wsX1_cell := goodIn_ca (goodIn_r _ [199, 42, 43, 59, 60, 15, 61, 62, 63, 64, 46, 47, 48, 65, 66, 67, 200, 201, 202, 203, 22, 23, 49, 50, 51, 204, 205, 206, 207, 87, 88, 89, 90, 86, 26, 146, 147, 148, 99, 149, 150, 151, 152, 278, 279, 280, 281, 282, 283, 284, 285, 286, 287, 288, 289, 290, 291, 292, 293, 294] (by decide +kernel) (by decide +kernel)) (goodIn_sub (fun _ h => List.mem_append_left _ (List.mem_append_left _ (List.mem_append_right _ h))) (by decide +kernel))
set_option maxRecDepth 20000 in
theorem gL_law_X1_cell : GoodIn wsL_law (wsV RL 65 RX1 yX1_cell wsX1_cell) := goodIn_app (goodIn_of _ (by decide +kernel)) ggL_law_X1_cell
set_option maxRecDepth 20000 in
theorem ggL_law_L_below : GoodIn wsL_law wsL_below := goodIn_r _ [36, 37] (by decide +kernel) (by decide +kernel)
set_option maxRecDepth 20000 in
theorem gL_law_L_below : GoodIn wsL_law (va_wsS RL 18 yL_below wsL_below) := goodIn_app (goodIn_of _ (by decide +kernel)) ggL_law_L_below
set_option maxRecDepth 20000 in
theorem ggL_law_X1_piece : GoodIn wsL_law wsX1_piece := goodIn_ca (goodIn_r _ [211, 42, 43, 87, 88, 89, 15, 90, 86, 26, 46, 47, 48, 212, 213, 214, 215, 157, 158, 95, 159, 22, 94, 146, 147, 148, 99, 149, 150, 151, 152, 216, 217, 218, 219, 91, 92, 93, 96, 97, 98, 100, 101, 102, 103, 66, 67, 49, 50, 51, 278, 279, 280, 281, 282, 283, 284, 285, 286, 287, 288, 289, 290, 291, 292, 293, 294] (by decide +kernel) (by decide +kernel)) (goodIn_sub (fun _ h => List.mem_append_left _ (List.mem_append_left _ (List.mem_append_right _ h))) (by decide +kernel))
set_option maxRecDepth 20000 in
theorem gL_law_X1_piece : GoodIn wsL_law (wsV RL 73 RX1 yX1_piece wsX1_piece) := goodIn_app (goodIn_of _ (by decide +kernel)) ggL_law_X1_piece
set_option maxRecDepth 20000 in
theorem ggL_law_X1_digest : GoodIn wsL_law wsX1_digest := goodIn_r _ [223, 224, 225, 86, 24, 108, 109, 110, 15, 111, 72, 22, 23, 112, 113, 114, 115, 94, 87, 88, 89, 90, 26, 46, 47, 48, 82, 83, 84, 85, 91, 92, 93, 95, 96, 97, 98, 99, 100, 101, 102, 103, 66, 67, 49, 50, 51, 116, 117, 118, 119, 120, 121, 122, 123, 124, 125, 126, 28, 127, 128, 129, 130, 29, 131, 132, 133, 134, 65, 62, 63, 64, 52, 53, 54, 200, 201, 202, 203, 204, 205, 206, 207, 146, 147, 148, 149, 150, 151, 152, 212, 213, 214, 215, 157, 158, 159, 216, 217, 218, 219, 278, 279, 280, 281, 282, 283, 284, 285, 286, 287, 288, 289, 290, 291, 292, 293, 294] (by decide +kernel) (by decide +kernel)
set_option maxRecDepth 20000 in
theorem gL_law_X1_digest : GoodIn wsL_law (wsV RL 76 RX1 yX1_digest wsX1_digest) := goodIn_app (goodIn_of _ (by decide +kernel)) ggL_law_X1_digest
set_option maxRecDepth 20000 in
theorem ggL_law_L_press : GoodIn wsL_law wsL_press := goodIn_ca (goodIn_ca (goodIn_ca (goodIn_r _ [182, 138, 183, 184, 185, 15, 186, 44, 45, 143, 144, 86, 26, 25, 187, 99, 59, 60, 61, 42, 43, 62, 63, 64, 46, 47, 48, 188, 189, 190, 160, 161, 162, 163, 65, 66, 67, 164, 165, 166, 167, 23, 22, 49, 50, 51, 191, 192, 193, 194, 20, 21, 102, 103, 195, 101, 152, 151, 168, 169, 170, 171, 95, 96, 97, 98, 100, 52, 53, 54, 278, 279, 280, 281, 282, 283, 284, 285, 286, 287, 288, 289, 290, 291, 292, 293, 294] (by decide +kernel) (by decide +kernel)) (goodIn_sub (fun _ h => List.mem_append_left _ (List.mem_append_right _ h)) (by decide +kernel))) (goodIn_sub (fun _ h => List.mem_append_right _ h) (by decide +kernel))) (goodIn_sub (fun _ h => List.mem_append_left _ (List.mem_append_left _ (List.mem_append_right _ h))) (by decide +kernel))
set_option maxRecDepth 20000 in
theorem gL_law_L_press : GoodIn wsL_law (va_wsS RL 40 yL_press wsL_press) := goodIn_app (goodIn_of _ (by decide +kernel)) ggL_law_L_press
set_option maxRecDepth 20000 in
theorem ggL_law_L_act : GoodIn wsL_law wsL_act := goodIn_ca (goodIn_ca (goodIn_r _ [137, 138, 139, 140, 141, 15, 142, 42, 43, 143, 144, 22, 145, 95, 87, 88, 89, 90, 86, 26, 46, 47, 48, 91, 92, 93, 94, 96, 97, 98, 99, 100, 101, 102, 103, 66, 67, 49, 50, 51, 52, 53, 54, 146, 147, 148, 149, 150, 151, 152, 153, 154, 155, 156, 157, 158, 159, 160, 161, 162, 163, 62, 63, 64, 65, 164, 165, 166, 167, 23, 168, 169, 170, 171, 172, 173, 174, 175, 176, 177, 178, 179, 278, 279, 280, 281, 282, 283, 284, 285, 286, 287, 288, 289, 290, 291, 292, 293, 294] (by decide +kernel) (by decide +kernel)) (goodIn_sub (fun _ h => List.mem_append_left _ (List.mem_append_left _ (List.mem_append_right _ h))) (by decide +kernel))) (goodIn_sub (fun _ h => List.mem_append_right _ h) (by decide +kernel))
set_option maxRecDepth 20000 in
theorem gL_law_L_act : GoodIn wsL_law (va_wsS RL 36 yL_act wsL_act) := goodIn_app (goodIn_of _ (by decide +kernel)) ggL_law_L_act
set_option maxRecDepth 20000 in
theorem ggL_law_X1_turn : GoodIn wsL_law wsX1_turn := goodIn_ca (goodIn_ca (goodIn_r _ [156, 42, 43, 143, 144, 22, 157, 158, 95, 159, 87, 88, 89, 15, 90, 86, 26, 46, 47, 48, 91, 92, 93, 94, 96, 97, 98, 99, 100, 101, 102, 103, 66, 67, 49, 50, 51, 160, 161, 162, 163, 62, 63, 64, 65, 164, 165, 166, 167, 23, 168, 169, 170, 171, 52, 53, 54, 278, 279, 280, 281, 282, 283, 284, 285, 286, 287, 288, 289, 290, 291, 292, 293, 294] (by decide +kernel) (by decide +kernel)) (goodIn_sub (fun _ h => List.mem_append_left _ (List.mem_append_left _ (List.mem_append_right _ h))) (by decide +kernel))) (goodIn_sub (fun _ h => List.mem_append_right _ h) (by decide +kernel))
set_option maxRecDepth 20000 in
theorem gL_law_X1_turn : GoodIn wsL_law (wsV RL 52 RX1 yX1_turn wsX1_turn) := goodIn_app (goodIn_of _ (by decide +kernel)) ggL_law_X1_turn
set_option maxRecDepth 20000 in
theorem ggL_law_X1_dry : GoodIn wsL_law wsX1_dry := goodIn_r _ [229, 22, 27, 230, 231, 232, 233, 72, 116, 117, 15, 118, 73, 74, 75, 76, 24, 23, 77, 3, 4, 5, 78, 79, 80, 81, 49, 50, 51, 46, 47, 48, 52, 53, 54, 278, 279, 280, 281, 282, 283, 284, 285, 286] (by decide +kernel) (by decide +kernel)
set_option maxRecDepth 20000 in
theorem gL_law_X1_dry : GoodIn wsL_law (wsV RL 80 RX1 yX1_dry wsX1_dry) := goodIn_app (goodIn_of _ (by decide +kernel)) ggL_law_X1_dry
set_option maxRecDepth 20000 in
theorem ggL_law_X1_pass : GoodIn wsL_law wsX1_pass := goodIn_ca (goodIn_r _ [71, 44, 45, 22, 72, 46, 47, 15, 48, 73, 74, 75, 76, 24, 23, 77, 3, 4, 5, 78, 79, 80, 81, 49, 50, 51, 52, 53, 54, 82, 83, 84, 85, 86, 87, 88, 89, 90, 26, 91, 92, 93, 94, 95, 96, 97, 98, 99, 100, 101, 102, 103, 66, 67, 278, 279, 280, 281, 282, 283, 284, 285, 286, 287, 288, 289, 290, 291, 292, 293, 294] (by decide +kernel) (by decide +kernel)) (goodIn_sub (fun _ h => List.mem_append_left _ (List.mem_append_right _ h)) (by decide +kernel))
set_option maxRecDepth 20000 in
theorem gL_law_X1_pass : GoodIn wsL_law (wsV RL 29 RX1 yX1_pass wsX1_pass) := goodIn_app (goodIn_of _ (by decide +kernel)) ggL_law_X1_pass
set_option maxRecDepth 20000 in
theorem ggL_law_X1_loose : GoodIn wsL_law wsX1_loose := goodIn_ca (goodIn_r _ [237, 42, 43, 22, 27, 230, 231, 232, 233, 72, 87, 88, 89, 15, 90, 86, 26, 46, 47, 48, 91, 92, 93, 94, 95, 96, 97, 98, 99, 100, 101, 102, 103, 66, 67, 49, 50, 51, 73, 74, 75, 76, 24, 23, 77, 3, 4, 5, 78, 79, 80, 81, 52, 53, 54, 278, 279, 280, 281, 282, 283, 284, 285, 286, 287, 288, 289, 290, 291, 292, 293, 294] (by decide +kernel) (by decide +kernel)) (goodIn_sub (fun _ h => List.mem_append_left _ (List.mem_append_left _ (List.mem_append_right _ h))) (by decide +kernel))
set_option maxRecDepth 20000 in
theorem gL_law_X1_loose : GoodIn wsL_law (wsV RL 86 RX1 yX1_loose wsX1_loose) := goodIn_app (goodIn_of _ (by decide +kernel)) ggL_law_X1_loose
set_option maxRecDepth 20000 in
theorem ggL_law_X1_gap : GoodIn wsL_law wsX1_gap := goodIn_ca (goodIn_r _ [241, 59, 60, 15, 61, 42, 43, 62, 63, 64, 46, 47, 48, 123, 124, 125, 126, 28, 127, 128, 129, 130, 29, 131, 132, 133, 134, 23, 65, 66, 67, 49, 50, 51, 52, 53, 54, 278, 279, 280, 281, 282, 283, 284, 285, 286] (by decide +kernel) (by decide +kernel)) (goodIn_sub (fun _ h => List.mem_append_left _ (List.mem_append_left _ (List.mem_append_right _ h))) (by decide +kernel))
set_option maxRecDepth 20000 in
theorem gL_law_X1_gap : GoodIn wsL_law (wsV RL 89 RX1 yX1_gap wsX1_gap) := goodIn_app (goodIn_of _ (by decide +kernel)) ggL_law_X1_gap
set_option maxRecDepth 20000 in
theorem ggL_law_X1_mends : GoodIn wsL_law wsX1_mends := goodIn_ca (goodIn_r _ [245, 59, 60, 15, 61, 42, 43, 62, 63, 64, 46, 47, 48, 123, 124, 125, 126, 28, 127, 128, 129, 130, 29, 131, 132, 133, 134, 23, 65, 66, 67, 49, 50, 51, 52, 53, 54, 246, 247, 248, 249, 278, 279, 280, 281, 282, 283, 284, 285, 286] (by decide +kernel) (by decide +kernel)) (goodIn_sub (fun _ h => List.mem_append_left _ (List.mem_append_left _ (List.mem_append_right _ h))) (by decide +kernel))
set_option maxRecDepth 20000 in
theorem gL_law_X1_mends : GoodIn wsL_law (wsV RL 92 RX1 yX1_mends wsX1_mends) := goodIn_app (goodIn_of _ (by decide +kernel)) ggL_law_X1_mends
set_option maxRecDepth 20000 in
theorem ggL_law_X1_advise : GoodIn wsL_law wsX1_advise := goodIn_ca (goodIn_r _ [253, 86, 22, 254, 255, 15, 256, 44, 45, 46, 47, 48, 188, 189, 190, 257, 258, 259, 260, 261, 262, 263, 264, 65, 66, 67, 204, 205, 206, 207, 23, 49, 50, 51, 87, 88, 89, 90, 26, 146, 147, 148, 99, 149, 150, 151, 152, 91, 92, 93, 94, 95, 96, 97, 98, 100, 101, 102, 103, 265, 266, 267, 268, 145, 278, 279, 280, 281, 282, 283, 284, 285, 286, 287, 288, 289, 290, 291, 292, 293, 294] (by decide +kernel) (by decide +kernel)) (goodIn_sub (fun _ h => List.mem_append_left _ (List.mem_append_right _ h)) (by decide +kernel))
set_option maxRecDepth 20000 in
theorem gL_law_X1_advise : GoodIn wsL_law (wsV RL 96 RX1 yX1_advise wsX1_advise) := goodIn_app (goodIn_of _ (by decide +kernel)) ggL_law_X1_advise
set_option maxRecDepth 20000 in
theorem ggL_law_X1_off : GoodIn wsL_law wsX1_off := goodIn_ca (goodIn_r _ [272, 254, 255, 15, 256, 44, 45, 46, 47, 48, 188, 189, 190, 257, 258, 259, 260, 261, 262, 263, 264, 65, 66, 67, 204, 205, 206, 207, 23, 49, 50, 51, 87, 88, 89, 90, 86, 26, 146, 147, 148, 99, 149, 150, 151, 152, 278, 279, 280, 281, 282, 283, 284, 285, 286, 287, 288, 289, 290, 291, 292, 293, 294] (by decide +kernel) (by decide +kernel)) (goodIn_sub (fun _ h => List.mem_append_left _ (List.mem_append_right _ h)) (by decide +kernel))
set_option maxRecDepth 20000 in
theorem gL_law_X1_off : GoodIn wsL_law (wsV RL 99 RX1 yX1_off wsX1_off) := goodIn_app (goodIn_of _ (by decide +kernel)) ggL_law_X1_off
set_option maxRecDepth 20000 in
theorem ggL_law_X1_share : GoodIn wsL_law wsX1_share := goodIn_r _ [276, 23, 277, 116, 117, 15, 118, 278, 279, 280, 281, 282, 283, 284, 285, 286] (by decide +kernel) (by decide +kernel)
set_option maxRecDepth 20000 in
theorem gL_law_X1_share : GoodIn wsL_law (wsV RL 102 RX1 yX1_share wsX1_share) := goodIn_app (goodIn_of _ (by decide +kernel)) ggL_law_X1_share
theorem dL_law_0 : decode cL_law 0 = .ok (.aload_n 0, 1) := by decide +kernel
theorem dL_law_1 : decode cL_law 1 = .ok (.invokestatic 59, 3) := by decide +kernel
theorem dL_law_4 : decode cL_law 4 = .ok (.astore_n 1, 1) := by decide +kernel
theorem dL_law_5 : decode cL_law 5 = .ok (.iconst 0, 1) := by decide +kernel
theorem dL_law_6 : decode cL_law 6 = .ok (.istore_n 2, 1) := by decide +kernel
theorem dL_law_7 : decode cL_law 7 = .ok (.iload_n 2, 1) := by decide +kernel
theorem dL_law_8 : decode cL_law 8 = .ok (.bipush 20, 2) := by decide +kernel
theorem dL_law_10 : decode cL_law 10 = .ok (.if_icmp .ge 1482, 3) := by decide +kernel
theorem dL_law_13 : decode cL_law 13 = .ok (.aload_n 0, 1) := by decide +kernel
theorem dL_law_14 : decode cL_law 14 = .ok (.iload_n 2, 1) := by decide +kernel
theorem dL_law_15 : decode cL_law 15 = .ok (.bipush 16, 2) := by decide +kernel
theorem dL_law_17 : decode cL_law 17 = .ok (.irem, 1) := by decide +kernel
theorem dL_law_18 : decode cL_law 18 = .ok (.invokestatic 12, 3) := by decide +kernel
theorem dL_law_21 : decode cL_law 21 = .ok (.iload_n 2, 1) := by decide +kernel
theorem dL_law_22 : decode cL_law 22 = .ok (.bipush 16, 2) := by decide +kernel
theorem dL_law_24 : decode cL_law 24 = .ok (.idiv, 1) := by decide +kernel
theorem dL_law_25 : decode cL_law 25 = .ok (.iconst 5, 1) := by decide +kernel
theorem dL_law_26 : decode cL_law 26 = .ok (.imul, 1) := by decide +kernel
theorem dL_law_27 : decode cL_law 27 = .ok (.ishr, 1) := by decide +kernel
theorem dL_law_28 : decode cL_law 28 = .ok (.istore_n 3, 1) := by decide +kernel
theorem dL_law_29 : decode cL_law 29 = .ok (.aload_n 1, 1) := by decide +kernel
theorem dL_law_30 : decode cL_law 30 = .ok (.iconst 1, 1) := by decide +kernel
theorem dL_law_31 : decode cL_law 31 = .ok (.invokevirtual 33, 3) := by decide +kernel
theorem dL_law_34 : decode cL_law 34 = .ok (.istore 4, 2) := by decide +kernel
theorem dL_law_36 : decode cL_law 36 = .ok (.bipush 10, 2) := by decide +kernel
theorem dL_law_38 : decode cL_law 38 = .ok (.bipush 8, 2) := by decide +kernel
theorem dL_law_40 : decode cL_law 40 = .ok (.multianewarray 63 2, 4) := by decide +kernel
theorem dL_law_44 : decode cL_law 44 = .ok (.astore 5, 2) := by decide +kernel
theorem dL_law_46 : decode cL_law 46 = .ok (.iconst 0, 1) := by decide +kernel
theorem dL_law_47 : decode cL_law 47 = .ok (.istore 6, 2) := by decide +kernel
theorem dL_law_49 : decode cL_law 49 = .ok (.iload 6, 2) := by decide +kernel
theorem dL_law_51 : decode cL_law 51 = .ok (.bipush 10, 2) := by decide +kernel
theorem dL_law_53 : decode cL_law 53 = .ok (.if_icmp .ge 42, 3) := by decide +kernel
theorem dL_law_56 : decode cL_law 56 = .ok (.iconst 0, 1) := by decide +kernel
theorem dL_law_57 : decode cL_law 57 = .ok (.istore 7, 2) := by decide +kernel
theorem dL_law_59 : decode cL_law 59 = .ok (.iload 7, 2) := by decide +kernel
theorem dL_law_61 : decode cL_law 61 = .ok (.bipush 8, 2) := by decide +kernel
theorem dL_law_63 : decode cL_law 63 = .ok (.if_icmp .ge 26, 3) := by decide +kernel
theorem dL_law_66 : decode cL_law 66 = .ok (.aload 5, 2) := by decide +kernel
theorem dL_law_68 : decode cL_law 68 = .ok (.iload 6, 2) := by decide +kernel
theorem dL_law_70 : decode cL_law 70 = .ok (.aaload, 1) := by decide +kernel
theorem dL_law_71 : decode cL_law 71 = .ok (.iload 7, 2) := by decide +kernel
theorem dL_law_73 : decode cL_law 73 = .ok (.aload_n 1, 1) := by decide +kernel
theorem dL_law_74 : decode cL_law 74 = .ok (.iload 6, 2) := by decide +kernel
theorem dL_law_76 : decode cL_law 76 = .ok (.iload 7, 2) := by decide +kernel
theorem dL_law_78 : decode cL_law 78 = .ok (.iconst 0, 1) := by decide +kernel
theorem dL_law_79 : decode cL_law 79 = .ok (.invokevirtual 65, 3) := by decide +kernel
theorem dL_law_82 : decode cL_law 82 = .ok (.iastore, 1) := by decide +kernel
theorem dL_law_83 : decode cL_law 83 = .ok (.iinc 7 1, 3) := by decide +kernel
theorem dL_law_86 : decode cL_law 86 = .ok (.goto (-27), 3) := by decide +kernel
theorem dL_law_89 : decode cL_law 89 = .ok (.iinc 6 1, 3) := by decide +kernel
theorem dL_law_92 : decode cL_law 92 = .ok (.goto (-43), 3) := by decide +kernel
theorem dL_law_95 : decode cL_law 95 = .ok (.iload_n 3, 1) := by decide +kernel
theorem dL_law_96 : decode cL_law 96 = .ok (.iconst 3, 1) := by decide +kernel
theorem dL_law_97 : decode cL_law 97 = .ok (.ishr, 1) := by decide +kernel
theorem dL_law_98 : decode cL_law 98 = .ok (.iconst 1, 1) := by decide +kernel
theorem dL_law_99 : decode cL_law 99 = .ok (.iload 4, 2) := by decide +kernel
theorem dL_law_101 : decode cL_law 101 = .ok (.invokestatic 68, 3) := by decide +kernel
theorem dL_law_104 : decode cL_law 104 = .ok (.invokestatic 18, 3) := by decide +kernel
theorem dL_law_107 : decode cL_law 107 = .ok (.istore 6, 2) := by decide +kernel
theorem dL_law_109 : decode cL_law 109 = .ok (.iload 4, 2) := by decide +kernel
theorem dL_law_111 : decode cL_law 111 = .ok (.ifCond .le 19, 3) := by decide +kernel
theorem dL_law_114 : decode cL_law 114 = .ok (.aload_n 1, 1) := by decide +kernel
theorem dL_law_115 : decode cL_law 115 = .ok (.iload 6, 2) := by decide +kernel
theorem dL_law_117 : decode cL_law 117 = .ok (.bipush 6, 2) := by decide +kernel
theorem dL_law_119 : decode cL_law 119 = .ok (.invokevirtual 73, 3) := by decide +kernel
theorem dL_law_122 : decode cL_law 122 = .ok (.iconst 1, 1) := by decide +kernel
theorem dL_law_123 : decode cL_law 123 = .ok (.if_icmp .ne 7, 3) := by decide +kernel
theorem dL_law_126 : decode cL_law 126 = .ok (.iconst 1, 1) := by decide +kernel
theorem dL_law_127 : decode cL_law 127 = .ok (.goto 4, 3) := by decide +kernel
theorem dL_law_130 : decode cL_law 130 = .ok (.iconst 0, 1) := by decide +kernel
theorem dL_law_131 : decode cL_law 131 = .ok (.istore 7, 2) := by decide +kernel
theorem dL_law_133 : decode cL_law 133 = .ok (.aload_n 1, 1) := by decide +kernel
theorem dL_law_134 : decode cL_law 134 = .ok (.invokevirtual 76, 3) := by decide +kernel
theorem dL_law_137 : decode cL_law 137 = .ok (.lstore 8, 2) := by decide +kernel
theorem dL_law_139 : decode cL_law 139 = .ok (.iload_n 3, 1) := by decide +kernel
theorem dL_law_140 : decode cL_law 140 = .ok (.bipush 6, 2) := by decide +kernel
theorem dL_law_142 : decode cL_law 142 = .ok (.invokestatic 18, 3) := by decide +kernel
theorem dL_law_145 : decode cL_law 145 = .ok (.istore 10, 2) := by decide +kernel
theorem dL_law_147 : decode cL_law 147 = .ok (.iload 10, 2) := by decide +kernel
theorem dL_law_149 : decode cL_law 149 = .ok (.iconst 2, 1) := by decide +kernel
theorem dL_law_150 : decode cL_law 150 = .ok (.if_icmp .ge 125, 3) := by decide +kernel
theorem dL_law_153 : decode cL_law 153 = .ok (.aload_n 1, 1) := by decide +kernel
theorem dL_law_154 : decode cL_law 154 = .ok (.iload_n 3, 1) := by decide +kernel
theorem dL_law_155 : decode cL_law 155 = .ok (.iconst 4, 1) := by decide +kernel
theorem dL_law_156 : decode cL_law 156 = .ok (.ishr, 1) := by decide +kernel
theorem dL_law_157 : decode cL_law 157 = .ok (.bipush 10, 2) := by decide +kernel
theorem dL_law_159 : decode cL_law 159 = .ok (.invokestatic 18, 3) := by decide +kernel
theorem dL_law_162 : decode cL_law 162 = .ok (.iload_n 3, 1) := by decide +kernel
theorem dL_law_163 : decode cL_law 163 = .ok (.bipush 6, 2) := by decide +kernel
theorem dL_law_165 : decode cL_law 165 = .ok (.ishr, 1) := by decide +kernel
theorem dL_law_166 : decode cL_law 166 = .ok (.bipush 8, 2) := by decide +kernel
theorem dL_law_168 : decode cL_law 168 = .ok (.invokestatic 18, 3) := by decide +kernel
theorem dL_law_171 : decode cL_law 171 = .ok (.iconst 1, 1) := by decide +kernel
theorem dL_law_172 : decode cL_law 172 = .ok (.iload_n 3, 1) := by decide +kernel
theorem dL_law_173 : decode cL_law 173 = .ok (.iconst 5, 1) := by decide +kernel
theorem dL_law_174 : decode cL_law 174 = .ok (.ishr, 1) := by decide +kernel
theorem dL_law_175 : decode cL_law 175 = .ok (.iconst 3, 1) := by decide +kernel
theorem dL_law_176 : decode cL_law 176 = .ok (.invokestatic 18, 3) := by decide +kernel
theorem dL_law_179 : decode cL_law 179 = .ok (.iadd, 1) := by decide +kernel
theorem dL_law_180 : decode cL_law 180 = .ok (.iload 10, 2) := by decide +kernel
theorem dL_law_182 : decode cL_law 182 = .ok (.ifCond .ne 7, 3) := by decide +kernel
theorem dL_law_185 : decode cL_law 185 = .ok (.iconst 1, 1) := by decide +kernel
theorem dL_law_186 : decode cL_law 186 = .ok (.goto 4, 3) := by decide +kernel
theorem dL_law_189 : decode cL_law 189 = .ok (.iconst 0, 1) := by decide +kernel
theorem dL_law_190 : decode cL_law 190 = .ok (.iload_n 3, 1) := by decide +kernel
theorem dL_law_191 : decode cL_law 191 = .ok (.iconst 2, 1) := by decide +kernel
theorem dL_law_192 : decode cL_law 192 = .ok (.ishr, 1) := by decide +kernel
theorem dL_law_193 : decode cL_law 193 = .ok (.bipush 7, 2) := by decide +kernel
theorem dL_law_195 : decode cL_law 195 = .ok (.invokestatic 18, 3) := by decide +kernel
theorem dL_law_198 : decode cL_law 198 = .ok (.iload_n 3, 1) := by decide +kernel
theorem dL_law_199 : decode cL_law 199 = .ok (.bipush 7, 2) := by decide +kernel
theorem dL_law_201 : decode cL_law 201 = .ok (.ishr, 1) := by decide +kernel
theorem dL_law_202 : decode cL_law 202 = .ok (.bipush 7, 2) := by decide +kernel
theorem dL_law_204 : decode cL_law 204 = .ok (.invokestatic 18, 3) := by decide +kernel
theorem dL_law_207 : decode cL_law 207 = .ok (.invokestatic 40, 3) := by decide +kernel
theorem dL_law_210 : decode cL_law 210 = .ok (.istore 11, 2) := by decide +kernel
theorem dL_law_212 : decode cL_law 212 = .ok (.iload 11, 2) := by decide +kernel
theorem dL_law_214 : decode cL_law 214 = .ok (.ifCond .lt 10, 3) := by decide +kernel
theorem dL_law_217 : decode cL_law 217 = .ok (.iload 11, 2) := by decide +kernel
theorem dL_law_219 : decode cL_law 219 = .ok (.iload 4, 2) := by decide +kernel
theorem dL_law_221 : decode cL_law 221 = .ok (.if_icmp .ne 49, 3) := by decide +kernel
theorem dL_law_224 : decode cL_law 224 = .ok (.iload 11, 2) := by decide +kernel
theorem dL_law_226 : decode cL_law 226 = .ok (.ifCond .ge 13, 3) := by decide +kernel
theorem dL_law_229 : decode cL_law 229 = .ok (.aload_n 1, 1) := by decide +kernel
theorem dL_law_230 : decode cL_law 230 = .ok (.invokevirtual 76, 3) := by decide +kernel
theorem dL_law_233 : decode cL_law 233 = .ok (.lload 8, 2) := by decide +kernel
theorem dL_law_235 : decode cL_law 235 = .ok (.lcmp, 1) := by decide +kernel
theorem dL_law_236 : decode cL_law 236 = .ok (.ifCond .ne 34, 3) := by decide +kernel
theorem dL_law_239 : decode cL_law 239 = .ok (.iload 11, 2) := by decide +kernel
theorem dL_law_241 : decode cL_law 241 = .ok (.ifCond .lt 31, 3) := by decide +kernel
theorem dL_law_244 : decode cL_law 244 = .ok (.aload_n 1, 1) := by decide +kernel
theorem dL_law_245 : decode cL_law 245 = .ok (.iload 11, 2) := by decide +kernel
theorem dL_law_247 : decode cL_law 247 = .ok (.bipush 6, 2) := by decide +kernel
theorem dL_law_249 : decode cL_law 249 = .ok (.invokevirtual 73, 3) := by decide +kernel
theorem dL_law_252 : decode cL_law 252 = .ok (.iconst 1, 1) := by decide +kernel
theorem dL_law_253 : decode cL_law 253 = .ok (.if_icmp .ne 17, 3) := by decide +kernel
theorem dL_law_256 : decode cL_law 256 = .ok (.aload_n 1, 1) := by decide +kernel
theorem dL_law_257 : decode cL_law 257 = .ok (.iload 11, 2) := by decide +kernel
theorem dL_law_259 : decode cL_law 259 = .ok (.iconst 3, 1) := by decide +kernel
theorem dL_law_260 : decode cL_law 260 = .ok (.invokevirtual 73, 3) := by decide +kernel
theorem dL_law_263 : decode cL_law 263 = .ok (.iconst 1, 1) := by decide +kernel
theorem dL_law_264 : decode cL_law 264 = .ok (.iload 10, 2) := by decide +kernel
theorem dL_law_266 : decode cL_law 266 = .ok (.isub, 1) := by decide +kernel
theorem dL_law_267 : decode cL_law 267 = .ok (.if_icmp .eq 5, 3) := by decide +kernel
theorem dL_law_270 : decode cL_law 270 = .ok (.iconst 0, 1) := by decide +kernel
theorem dL_law_271 : decode cL_law 271 = .ok (.ireturn, 1) := by decide +kernel
theorem dL_law_272 : decode cL_law 272 = .ok (.goto 474, 3) := by decide +kernel
theorem dL_law_275 : decode cL_law 275 = .ok (.iload 10, 2) := by decide +kernel
theorem dL_law_277 : decode cL_law 277 = .ok (.iconst 5, 1) := by decide +kernel
theorem dL_law_278 : decode cL_law 278 = .ok (.if_icmp .ge 297, 3) := by decide +kernel
theorem dL_law_281 : decode cL_law 281 = .ok (.iload 4, 2) := by decide +kernel
theorem dL_law_283 : decode cL_law 283 = .ok (.ifCond .le 292, 3) := by decide +kernel
theorem dL_law_286 : decode cL_law 286 = .ok (.aload_n 1, 1) := by decide +kernel
theorem dL_law_287 : decode cL_law 287 = .ok (.iload 6, 2) := by decide +kernel
theorem dL_law_289 : decode cL_law 289 = .ok (.iconst 5, 1) := by decide +kernel
theorem dL_law_290 : decode cL_law 290 = .ok (.invokevirtual 73, 3) := by decide +kernel
theorem dL_law_293 : decode cL_law 293 = .ok (.istore 11, 2) := by decide +kernel
theorem dL_law_295 : decode cL_law 295 = .ok (.aload_n 1, 1) := by decide +kernel
theorem dL_law_296 : decode cL_law 296 = .ok (.iload 6, 2) := by decide +kernel
theorem dL_law_298 : decode cL_law 298 = .ok (.iload 10, 2) := by decide +kernel
theorem dL_law_300 : decode cL_law 300 = .ok (.iconst 2, 1) := by decide +kernel
theorem dL_law_301 : decode cL_law 301 = .ok (.if_icmp .ne 7, 3) := by decide +kernel
theorem dL_law_304 : decode cL_law 304 = .ok (.iconst 0, 1) := by decide +kernel
theorem dL_law_305 : decode cL_law 305 = .ok (.goto 7, 3) := by decide +kernel
theorem dL_law_308 : decode cL_law 308 = .ok (.iload 10, 2) := by decide +kernel
theorem dL_law_310 : decode cL_law 310 = .ok (.iconst 1, 1) := by decide +kernel
theorem dL_law_311 : decode cL_law 311 = .ok (.isub, 1) := by decide +kernel
theorem dL_law_312 : decode cL_law 312 = .ok (.invokestatic 36, 3) := by decide +kernel
theorem dL_law_315 : decode cL_law 315 = .ok (.istore 12, 2) := by decide +kernel
theorem dL_law_317 : decode cL_law 317 = .ok (.iload 12, 2) := by decide +kernel
theorem dL_law_319 : decode cL_law 319 = .ok (.ifCond .ge 13, 3) := by decide +kernel
theorem dL_law_322 : decode cL_law 322 = .ok (.aload_n 1, 1) := by decide +kernel
theorem dL_law_323 : decode cL_law 323 = .ok (.invokevirtual 76, 3) := by decide +kernel
theorem dL_law_326 : decode cL_law 326 = .ok (.lload 8, 2) := by decide +kernel
theorem dL_law_328 : decode cL_law 328 = .ok (.lcmp, 1) := by decide +kernel
theorem dL_law_329 : decode cL_law 329 = .ok (.ifCond .ne 19, 3) := by decide +kernel
theorem dL_law_332 : decode cL_law 332 = .ok (.iload 10, 2) := by decide +kernel
theorem dL_law_334 : decode cL_law 334 = .ok (.iconst 4, 1) := by decide +kernel
theorem dL_law_335 : decode cL_law 335 = .ok (.if_icmp .ge 15, 3) := by decide +kernel
theorem dL_law_338 : decode cL_law 338 = .ok (.iload 7, 2) := by decide +kernel
theorem dL_law_340 : decode cL_law 340 = .ok (.ifCond .ne 10, 3) := by decide +kernel
theorem dL_law_343 : decode cL_law 343 = .ok (.iload 12, 2) := by decide +kernel
theorem dL_law_345 : decode cL_law 345 = .ok (.ifCond .lt 5, 3) := by decide +kernel
theorem dL_law_348 : decode cL_law 348 = .ok (.iconst 0, 1) := by decide +kernel
theorem dL_law_349 : decode cL_law 349 = .ok (.ireturn, 1) := by decide +kernel
theorem dL_law_350 : decode cL_law 350 = .ok (.iload 10, 2) := by decide +kernel
theorem dL_law_352 : decode cL_law 352 = .ok (.iconst 2, 1) := by decide +kernel
theorem dL_law_353 : decode cL_law 353 = .ok (.if_icmp .ne 29, 3) := by decide +kernel
theorem dL_law_356 : decode cL_law 356 = .ok (.iload 7, 2) := by decide +kernel
theorem dL_law_358 : decode cL_law 358 = .ok (.ifCond .eq 24, 3) := by decide +kernel
theorem dL_law_361 : decode cL_law 361 = .ok (.iload 12, 2) := by decide +kernel
theorem dL_law_363 : decode cL_law 363 = .ok (.iload 11, 2) := by decide +kernel
theorem dL_law_365 : decode cL_law 365 = .ok (.if_icmp .ne 15, 3) := by decide +kernel
theorem dL_law_368 : decode cL_law 368 = .ok (.aload_n 1, 1) := by decide +kernel
theorem dL_law_369 : decode cL_law 369 = .ok (.iload 6, 2) := by decide +kernel
theorem dL_law_371 : decode cL_law 371 = .ok (.iconst 4, 1) := by decide +kernel
theorem dL_law_372 : decode cL_law 372 = .ok (.invokevirtual 73, 3) := by decide +kernel
theorem dL_law_375 : decode cL_law 375 = .ok (.iload 11, 2) := by decide +kernel
theorem dL_law_377 : decode cL_law 377 = .ok (.if_icmp .eq 5, 3) := by decide +kernel
theorem dL_law_380 : decode cL_law 380 = .ok (.iconst 0, 1) := by decide +kernel
theorem dL_law_381 : decode cL_law 381 = .ok (.ireturn, 1) := by decide +kernel
theorem dL_law_382 : decode cL_law 382 = .ok (.iload 10, 2) := by decide +kernel
theorem dL_law_384 : decode cL_law 384 = .ok (.iconst 3, 1) := by decide +kernel
theorem dL_law_385 : decode cL_law 385 = .ok (.if_icmp .ne 43, 3) := by decide +kernel
theorem dL_law_388 : decode cL_law 388 = .ok (.iload 12, 2) := by decide +kernel
theorem dL_law_390 : decode cL_law 390 = .ok (.ifCond .le 38, 3) := by decide +kernel
theorem dL_law_393 : decode cL_law 393 = .ok (.iload 12, 2) := by decide +kernel
theorem dL_law_395 : decode cL_law 395 = .ok (.aload_n 1, 1) := by decide +kernel
theorem dL_law_396 : decode cL_law 396 = .ok (.iload 6, 2) := by decide +kernel
theorem dL_law_398 : decode cL_law 398 = .ok (.iconst 2, 1) := by decide +kernel
theorem dL_law_399 : decode cL_law 399 = .ok (.invokevirtual 73, 3) := by decide +kernel
theorem dL_law_402 : decode cL_law 402 = .ok (.if_icmp .ne 24, 3) := by decide +kernel
theorem dL_law_405 : decode cL_law 405 = .ok (.aload_n 1, 1) := by decide +kernel
theorem dL_law_406 : decode cL_law 406 = .ok (.iload 6, 2) := by decide +kernel
theorem dL_law_408 : decode cL_law 408 = .ok (.invokevirtual 52, 3) := by decide +kernel
theorem dL_law_411 : decode cL_law 411 = .ok (.iload 12, 2) := by decide +kernel
theorem dL_law_413 : decode cL_law 413 = .ok (.if_icmp .ne 13, 3) := by decide +kernel
theorem dL_law_416 : decode cL_law 416 = .ok (.aload_n 1, 1) := by decide +kernel
theorem dL_law_417 : decode cL_law 417 = .ok (.invokevirtual 76, 3) := by decide +kernel
theorem dL_law_420 : decode cL_law 420 = .ok (.lload 8, 2) := by decide +kernel
theorem dL_law_422 : decode cL_law 422 = .ok (.lcmp, 1) := by decide +kernel
theorem dL_law_423 : decode cL_law 423 = .ok (.ifCond .eq 5, 3) := by decide +kernel
theorem dL_law_426 : decode cL_law 426 = .ok (.iconst 0, 1) := by decide +kernel
theorem dL_law_427 : decode cL_law 427 = .ok (.ireturn, 1) := by decide +kernel
theorem dL_law_428 : decode cL_law 428 = .ok (.iload 10, 2) := by decide +kernel
theorem dL_law_430 : decode cL_law 430 = .ok (.iconst 4, 1) := by decide +kernel
theorem dL_law_431 : decode cL_law 431 = .ok (.if_icmp .ne 26, 3) := by decide +kernel
theorem dL_law_434 : decode cL_law 434 = .ok (.iload 12, 2) := by decide +kernel
theorem dL_law_436 : decode cL_law 436 = .ok (.ifCond .lt 21, 3) := by decide +kernel
theorem dL_law_439 : decode cL_law 439 = .ok (.iload 12, 2) := by decide +kernel
theorem dL_law_441 : decode cL_law 441 = .ok (.iconst 1, 1) := by decide +kernel
theorem dL_law_442 : decode cL_law 442 = .ok (.if_icmp .ne 7, 3) := by decide +kernel
theorem dL_law_445 : decode cL_law 445 = .ok (.iconst 1, 1) := by decide +kernel
theorem dL_law_446 : decode cL_law 446 = .ok (.goto 4, 3) := by decide +kernel
theorem dL_law_449 : decode cL_law 449 = .ok (.iconst 0, 1) := by decide +kernel
theorem dL_law_450 : decode cL_law 450 = .ok (.iload 7, 2) := by decide +kernel
theorem dL_law_452 : decode cL_law 452 = .ok (.if_icmp .eq 5, 3) := by decide +kernel
theorem dL_law_455 : decode cL_law 455 = .ok (.iconst 0, 1) := by decide +kernel
theorem dL_law_456 : decode cL_law 456 = .ok (.ireturn, 1) := by decide +kernel
theorem dL_law_457 : decode cL_law 457 = .ok (.iconst 0, 1) := by decide +kernel
theorem dL_law_458 : decode cL_law 458 = .ok (.istore 13, 2) := by decide +kernel
theorem dL_law_460 : decode cL_law 460 = .ok (.iload 13, 2) := by decide +kernel
theorem dL_law_462 : decode cL_law 462 = .ok (.bipush 10, 2) := by decide +kernel
theorem dL_law_464 : decode cL_law 464 = .ok (.if_icmp .ge 108, 3) := by decide +kernel
theorem dL_law_467 : decode cL_law 467 = .ok (.iconst 0, 1) := by decide +kernel
theorem dL_law_468 : decode cL_law 468 = .ok (.istore 14, 2) := by decide +kernel
theorem dL_law_470 : decode cL_law 470 = .ok (.iload 14, 2) := by decide +kernel
theorem dL_law_472 : decode cL_law 472 = .ok (.bipush 8, 2) := by decide +kernel
theorem dL_law_474 : decode cL_law 474 = .ok (.if_icmp .ge 92, 3) := by decide +kernel
theorem dL_law_477 : decode cL_law 477 = .ok (.aload 5, 2) := by decide +kernel
theorem dL_law_479 : decode cL_law 479 = .ok (.iload 13, 2) := by decide +kernel
theorem dL_law_481 : decode cL_law 481 = .ok (.aaload, 1) := by decide +kernel
theorem dL_law_482 : decode cL_law 482 = .ok (.iload 14, 2) := by decide +kernel
theorem dL_law_484 : decode cL_law 484 = .ok (.iaload, 1) := by decide +kernel
theorem dL_law_485 : decode cL_law 485 = .ok (.aload_n 1, 1) := by decide +kernel
theorem dL_law_486 : decode cL_law 486 = .ok (.iload 13, 2) := by decide +kernel
theorem dL_law_488 : decode cL_law 488 = .ok (.iload 14, 2) := by decide +kernel
theorem dL_law_490 : decode cL_law 490 = .ok (.iconst 0, 1) := by decide +kernel
theorem dL_law_491 : decode cL_law 491 = .ok (.invokevirtual 65, 3) := by decide +kernel
theorem dL_law_494 : decode cL_law 494 = .ok (.isub, 1) := by decide +kernel
theorem dL_law_495 : decode cL_law 495 = .ok (.istore 15, 2) := by decide +kernel
theorem dL_law_497 : decode cL_law 497 = .ok (.iload 15, 2) := by decide +kernel
theorem dL_law_499 : decode cL_law 499 = .ok (.ifCond .eq 61, 3) := by decide +kernel
theorem dL_law_502 : decode cL_law 502 = .ok (.iload 10, 2) := by decide +kernel
theorem dL_law_504 : decode cL_law 504 = .ok (.iconst 3, 1) := by decide +kernel
theorem dL_law_505 : decode cL_law 505 = .ok (.if_icmp .eq 53, 3) := by decide +kernel
theorem dL_law_508 : decode cL_law 508 = .ok (.iload 10, 2) := by decide +kernel
theorem dL_law_510 : decode cL_law 510 = .ok (.iconst 2, 1) := by decide +kernel
theorem dL_law_511 : decode cL_law 511 = .ok (.if_icmp .ne 23, 3) := by decide +kernel
theorem dL_law_514 : decode cL_law 514 = .ok (.iload 15, 2) := by decide +kernel
theorem dL_law_516 : decode cL_law 516 = .ok (.iconst 1, 1) := by decide +kernel
theorem dL_law_517 : decode cL_law 517 = .ok (.if_icmp .ne 41, 3) := by decide +kernel
theorem dL_law_520 : decode cL_law 520 = .ok (.aload_n 1, 1) := by decide +kernel
theorem dL_law_521 : decode cL_law 521 = .ok (.iload 13, 2) := by decide +kernel
theorem dL_law_523 : decode cL_law 523 = .ok (.iload 14, 2) := by decide +kernel
theorem dL_law_525 : decode cL_law 525 = .ok (.iconst 1, 1) := by decide +kernel
theorem dL_law_526 : decode cL_law 526 = .ok (.invokevirtual 65, 3) := by decide +kernel
theorem dL_law_529 : decode cL_law 529 = .ok (.iload 6, 2) := by decide +kernel
theorem dL_law_531 : decode cL_law 531 = .ok (.if_icmp .ne 27, 3) := by decide +kernel
theorem dL_law_534 : decode cL_law 534 = .ok (.iload 10, 2) := by decide +kernel
theorem dL_law_536 : decode cL_law 536 = .ok (.iconst 4, 1) := by decide +kernel
theorem dL_law_537 : decode cL_law 537 = .ok (.if_icmp .ne 23, 3) := by decide +kernel
theorem dL_law_540 : decode cL_law 540 = .ok (.iload 7, 2) := by decide +kernel
theorem dL_law_542 : decode cL_law 542 = .ok (.ifCond .ne 16, 3) := by decide +kernel
theorem dL_law_545 : decode cL_law 545 = .ok (.aload_n 1, 1) := by decide +kernel
theorem dL_law_546 : decode cL_law 546 = .ok (.iload 13, 2) := by decide +kernel
theorem dL_law_548 : decode cL_law 548 = .ok (.iload 14, 2) := by decide +kernel
theorem dL_law_550 : decode cL_law 550 = .ok (.iconst 0, 1) := by decide +kernel
theorem dL_law_551 : decode cL_law 551 = .ok (.invokevirtual 65, 3) := by decide +kernel
theorem dL_law_554 : decode cL_law 554 = .ok (.iconst (-1), 1) := by decide +kernel
theorem dL_law_555 : decode cL_law 555 = .ok (.if_icmp .eq 5, 3) := by decide +kernel
theorem dL_law_558 : decode cL_law 558 = .ok (.iconst 0, 1) := by decide +kernel
theorem dL_law_559 : decode cL_law 559 = .ok (.ireturn, 1) := by decide +kernel
theorem dL_law_560 : decode cL_law 560 = .ok (.iinc 14 1, 3) := by decide +kernel
theorem dL_law_563 : decode cL_law 563 = .ok (.goto (-93), 3) := by decide +kernel
theorem dL_law_566 : decode cL_law 566 = .ok (.iinc 13 1, 3) := by decide +kernel
theorem dL_law_569 : decode cL_law 569 = .ok (.goto (-109), 3) := by decide +kernel
theorem dL_law_572 : decode cL_law 572 = .ok (.goto 174, 3) := by decide +kernel
theorem dL_law_575 : decode cL_law 575 = .ok (.iload 10, 2) := by decide +kernel
theorem dL_law_577 : decode cL_law 577 = .ok (.iconst 5, 1) := by decide +kernel
theorem dL_law_578 : decode cL_law 578 = .ok (.if_icmp .ne 168, 3) := by decide +kernel
theorem dL_law_581 : decode cL_law 581 = .ok (.iconst 1, 1) := by decide +kernel
theorem dL_law_582 : decode cL_law 582 = .ok (.iload_n 3, 1) := by decide +kernel
theorem dL_law_583 : decode cL_law 583 = .ok (.iconst 4, 1) := by decide +kernel
theorem dL_law_584 : decode cL_law 584 = .ok (.ishr, 1) := by decide +kernel
theorem dL_law_585 : decode cL_law 585 = .ok (.iconst 3, 1) := by decide +kernel
theorem dL_law_586 : decode cL_law 586 = .ok (.invokestatic 18, 3) := by decide +kernel
theorem dL_law_589 : decode cL_law 589 = .ok (.iadd, 1) := by decide +kernel
theorem dL_law_590 : decode cL_law 590 = .ok (.istore 11, 2) := by decide +kernel
theorem dL_law_592 : decode cL_law 592 = .ok (.aload_n 1, 1) := by decide +kernel
theorem dL_law_593 : decode cL_law 593 = .ok (.iconst 3, 1) := by decide +kernel
theorem dL_law_594 : decode cL_law 594 = .ok (.invokevirtual 33, 3) := by decide +kernel
theorem dL_law_597 : decode cL_law 597 = .ok (.istore 12, 2) := by decide +kernel
theorem dL_law_599 : decode cL_law 599 = .ok (.aload_n 1, 1) := by decide +kernel
theorem dL_law_600 : decode cL_law 600 = .ok (.invokevirtual 80, 3) := by decide +kernel
theorem dL_law_603 : decode cL_law 603 = .ok (.istore 13, 2) := by decide +kernel
theorem dL_law_605 : decode cL_law 605 = .ok (.aload_n 1, 1) := by decide +kernel
theorem dL_law_606 : decode cL_law 606 = .ok (.iload 11, 2) := by decide +kernel
theorem dL_law_608 : decode cL_law 608 = .ok (.invokevirtual 29, 3) := by decide +kernel
theorem dL_law_611 : decode cL_law 611 = .ok (.iload 12, 2) := by decide +kernel
theorem dL_law_613 : decode cL_law 613 = .ok (.if_icmp .gt 41, 3) := by decide +kernel
theorem dL_law_616 : decode cL_law 616 = .ok (.iload 13, 2) := by decide +kernel
theorem dL_law_618 : decode cL_law 618 = .ok (.iload 11, 2) := by decide +kernel
theorem dL_law_620 : decode cL_law 620 = .ok (.if_icmp .le 15, 3) := by decide +kernel
theorem dL_law_623 : decode cL_law 623 = .ok (.aload_n 1, 1) := by decide +kernel
theorem dL_law_624 : decode cL_law 624 = .ok (.invokevirtual 80, 3) := by decide +kernel
theorem dL_law_627 : decode cL_law 627 = .ok (.iload 13, 2) := by decide +kernel
theorem dL_law_629 : decode cL_law 629 = .ok (.iload 11, 2) := by decide +kernel
theorem dL_law_631 : decode cL_law 631 = .ok (.isub, 1) := by decide +kernel
theorem dL_law_632 : decode cL_law 632 = .ok (.if_icmp .ne 22, 3) := by decide +kernel
theorem dL_law_635 : decode cL_law 635 = .ok (.iload 13, 2) := by decide +kernel
theorem dL_law_637 : decode cL_law 637 = .ok (.ifCond .lt 19, 3) := by decide +kernel
theorem dL_law_640 : decode cL_law 640 = .ok (.iload 13, 2) := by decide +kernel
theorem dL_law_642 : decode cL_law 642 = .ok (.iload 11, 2) := by decide +kernel
theorem dL_law_644 : decode cL_law 644 = .ok (.if_icmp .gt 12, 3) := by decide +kernel
theorem dL_law_647 : decode cL_law 647 = .ok (.aload_n 1, 1) := by decide +kernel
theorem dL_law_648 : decode cL_law 648 = .ok (.invokevirtual 80, 3) := by decide +kernel
theorem dL_law_651 : decode cL_law 651 = .ok (.ifCond .eq 5, 3) := by decide +kernel
theorem dL_law_654 : decode cL_law 654 = .ok (.iconst 0, 1) := by decide +kernel
theorem dL_law_655 : decode cL_law 655 = .ok (.ireturn, 1) := by decide +kernel
theorem dL_law_656 : decode cL_law 656 = .ok (.iconst 0, 1) := by decide +kernel
theorem dL_law_657 : decode cL_law 657 = .ok (.istore 14, 2) := by decide +kernel
theorem dL_law_659 : decode cL_law 659 = .ok (.iload 14, 2) := by decide +kernel
