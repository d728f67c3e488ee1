theorem dX1_markGap_101 : decode cX1_markGap 101 = .ok (.invokevirtual 233, 3) := by decide +kernel
theorem dX1_markGap_104 : decode cX1_markGap 104 = .ok (.istore_n 3, 1) := by decide +kernel
theorem dX1_markGap_105 : decode cX1_markGap 105 = .ok (.iinc 4 1, 3) := by decide +kernel
theorem dX1_markGap_108 : decode cX1_markGap 108 = .ok (.goto (-97), 3) := by decide +kernel
theorem dX1_markGap_111 : decode cX1_markGap 111 = .ok (.iload_n 3, 1) := by decide +kernel
theorem dX1_markGap_112 : decode cX1_markGap 112 = .ok (.ireturn, 1) := by decide +kernel
set_option maxRecDepth 20000 in
theorem ggX1_reach_X1_cellOf : GoodIn wsX1_reach wsX1_cellOf := goodIn_r _ [7] (by decide +kernel) (by decide +kernel)
set_option maxRecDepth 20000 in
theorem gX1_reach_X1_cellOf : GoodIn wsX1_reach (va_wsS RX1 49 yX1_cellOf wsX1_cellOf) := goodIn_app (goodIn_of _ (by decide +kernel)) ggX1_reach_X1_cellOf
set_option maxRecDepth 20000 in
theorem ggX1_reach_X1_isOnWall : GoodIn wsX1_reach wsX1_isOnWall := goodIn_r _ [10, 11, 12, 6, 13] (by decide +kernel) (by decide +kernel)
set_option maxRecDepth 20000 in
theorem gX1_reach_X1_isOnWall : GoodIn wsX1_reach (va_wsS RX1 206 yX1_isOnWall wsX1_isOnWall) := goodIn_app (goodIn_of _ (by decide +kernel)) ggX1_reach_X1_isOnWall
set_option maxRecDepth 20000 in
theorem ggX1_reach_X1_at : GoodIn wsX1_reach wsX1_at := goodIn_r _ [16, 11, 12, 6, 13] (by decide +kernel) (by decide +kernel)
set_option maxRecDepth 20000 in
theorem gX1_reach_X1_at : GoodIn wsX1_reach (va_wsS RX1 53 yX1_at wsX1_at) := goodIn_app (goodIn_of _ (by decide +kernel)) ggX1_reach_X1_at
set_option maxRecDepth 20000 in
theorem ggX1_reach_X1_put : GoodIn wsX1_reach wsX1_put := goodIn_r _ [19, 11, 12, 6, 13] (by decide +kernel) (by decide +kernel)
set_option maxRecDepth 20000 in
theorem gX1_reach_X1_put : GoodIn wsX1_reach (va_wsS RX1 57 yX1_put wsX1_put) := goodIn_app (goodIn_of _ (by decide +kernel)) ggX1_reach_X1_put
theorem dX1_reach_0 : decode cX1_reach 0 = .ok (.iload_n 1, 1) := by decide +kernel
theorem dX1_reach_1 : decode cX1_reach 1 = .ok (.iload_n 2, 1) := by decide +kernel
theorem dX1_reach_2 : decode cX1_reach 2 = .ok (.invokestatic 49, 3) := by decide +kernel
theorem dX1_reach_5 : decode cX1_reach 5 = .ok (.istore 4, 2) := by decide +kernel
theorem dX1_reach_7 : decode cX1_reach 7 = .ok (.iload_n 1, 1) := by decide +kernel
theorem dX1_reach_8 : decode cX1_reach 8 = .ok (.iload_n 2, 1) := by decide +kernel
theorem dX1_reach_9 : decode cX1_reach 9 = .ok (.invokestatic 206, 3) := by decide +kernel
theorem dX1_reach_12 : decode cX1_reach 12 = .ok (.ifCond .eq 28, 3) := by decide +kernel
theorem dX1_reach_15 : decode cX1_reach 15 = .ok (.aload_n 0, 1) := by decide +kernel
theorem dX1_reach_16 : decode cX1_reach 16 = .ok (.getfield 13, 3) := by decide +kernel
theorem dX1_reach_19 : decode cX1_reach 19 = .ok (.iload 4, 2) := by decide +kernel
theorem dX1_reach_21 : decode cX1_reach 21 = .ok (.invokestatic 53, 3) := by decide +kernel
theorem dX1_reach_24 : decode cX1_reach 24 = .ok (.iconst (-1), 1) := by decide +kernel
theorem dX1_reach_25 : decode cX1_reach 25 = .ok (.if_icmp .ne 15, 3) := by decide +kernel
theorem dX1_reach_28 : decode cX1_reach 28 = .ok (.aload_n 0, 1) := by decide +kernel
theorem dX1_reach_29 : decode cX1_reach 29 = .ok (.getfield 28, 3) := by decide +kernel
theorem dX1_reach_32 : decode cX1_reach 32 = .ok (.iload 4, 2) := by decide +kernel
theorem dX1_reach_34 : decode cX1_reach 34 = .ok (.invokestatic 53, 3) := by decide +kernel
theorem dX1_reach_37 : decode cX1_reach 37 = .ok (.ifCond .eq 5, 3) := by decide +kernel
theorem dX1_reach_40 : decode cX1_reach 40 = .ok (.iload_n 3, 1) := by decide +kernel
theorem dX1_reach_41 : decode cX1_reach 41 = .ok (.ireturn, 1) := by decide +kernel
theorem dX1_reach_42 : decode cX1_reach 42 = .ok (.aload_n 0, 1) := by decide +kernel
theorem dX1_reach_43 : decode cX1_reach 43 = .ok (.getfield 28, 3) := by decide +kernel
theorem dX1_reach_46 : decode cX1_reach 46 = .ok (.iload 4, 2) := by decide +kernel
theorem dX1_reach_48 : decode cX1_reach 48 = .ok (.iconst 1, 1) := by decide +kernel
theorem dX1_reach_49 : decode cX1_reach 49 = .ok (.invokestatic 57, 3) := by decide +kernel
theorem dX1_reach_52 : decode cX1_reach 52 = .ok (.aload_n 0, 1) := by decide +kernel
theorem dX1_reach_53 : decode cX1_reach 53 = .ok (.getfield 31, 3) := by decide +kernel
theorem dX1_reach_56 : decode cX1_reach 56 = .ok (.iload_n 3, 1) := by decide +kernel
theorem dX1_reach_57 : decode cX1_reach 57 = .ok (.iload 4, 2) := by decide +kernel
theorem dX1_reach_59 : decode cX1_reach 59 = .ok (.invokestatic 57, 3) := by decide +kernel
theorem dX1_reach_62 : decode cX1_reach 62 = .ok (.iload_n 3, 1) := by decide +kernel
theorem dX1_reach_63 : decode cX1_reach 63 = .ok (.iconst 1, 1) := by decide +kernel
theorem dX1_reach_64 : decode cX1_reach 64 = .ok (.iadd, 1) := by decide +kernel
theorem dX1_reach_65 : decode cX1_reach 65 = .ok (.ireturn, 1) := by decide +kernel
set_option maxRecDepth 20000 in
theorem ggX1_piecesForMarks_X1_cellOf : GoodIn wsX1_piecesForMarks wsX1_cellOf := goodIn_r _ [5] (by decide +kernel) (by decide +kernel)
set_option maxRecDepth 20000 in
theorem gX1_piecesForMarks_X1_cellOf : GoodIn wsX1_piecesForMarks (va_wsS RX1 49 yX1_cellOf wsX1_cellOf) := goodIn_app (goodIn_of _ (by decide +kernel)) ggX1_piecesForMarks_X1_cellOf
set_option maxRecDepth 20000 in
theorem ggX1_piecesForMarks_X1_at : GoodIn wsX1_piecesForMarks wsX1_at := goodIn_r _ [8, 9, 10, 4, 11] (by decide +kernel) (by decide +kernel)
set_option maxRecDepth 20000 in
theorem gX1_piecesForMarks_X1_at : GoodIn wsX1_piecesForMarks (va_wsS RX1 53 yX1_at wsX1_at) := goodIn_app (goodIn_of _ (by decide +kernel)) ggX1_piecesForMarks_X1_at
theorem dX1_piecesForMarks_0 : decode cX1_piecesForMarks 0 = .ok (.iload_n 1, 1) := by decide +kernel
theorem dX1_piecesForMarks_1 : decode cX1_piecesForMarks 1 = .ok (.ifCond .eq 8, 3) := by decide +kernel
theorem dX1_piecesForMarks_4 : decode cX1_piecesForMarks 4 = .ok (.bipush 8, 2) := by decide +kernel
theorem dX1_piecesForMarks_6 : decode cX1_piecesForMarks 6 = .ok (.goto 5, 3) := by decide +kernel
theorem dX1_piecesForMarks_9 : decode cX1_piecesForMarks 9 = .ok (.bipush 10, 2) := by decide +kernel
theorem dX1_piecesForMarks_11 : decode cX1_piecesForMarks 11 = .ok (.istore_n 2, 1) := by decide +kernel
theorem dX1_piecesForMarks_12 : decode cX1_piecesForMarks 12 = .ok (.iload_n 1, 1) := by decide +kernel
theorem dX1_piecesForMarks_13 : decode cX1_piecesForMarks 13 = .ok (.ifCond .eq 8, 3) := by decide +kernel
theorem dX1_piecesForMarks_16 : decode cX1_piecesForMarks 16 = .ok (.bipush 10, 2) := by decide +kernel
theorem dX1_piecesForMarks_18 : decode cX1_piecesForMarks 18 = .ok (.goto 5, 3) := by decide +kernel
theorem dX1_piecesForMarks_21 : decode cX1_piecesForMarks 21 = .ok (.bipush 8, 2) := by decide +kernel
theorem dX1_piecesForMarks_23 : decode cX1_piecesForMarks 23 = .ok (.istore_n 3, 1) := by decide +kernel
theorem dX1_piecesForMarks_24 : decode cX1_piecesForMarks 24 = .ok (.iconst 0, 1) := by decide +kernel
theorem dX1_piecesForMarks_25 : decode cX1_piecesForMarks 25 = .ok (.istore 4, 2) := by decide +kernel
theorem dX1_piecesForMarks_27 : decode cX1_piecesForMarks 27 = .ok (.iconst 0, 1) := by decide +kernel
theorem dX1_piecesForMarks_28 : decode cX1_piecesForMarks 28 = .ok (.istore 5, 2) := by decide +kernel
theorem dX1_piecesForMarks_30 : decode cX1_piecesForMarks 30 = .ok (.iload 5, 2) := by decide +kernel
theorem dX1_piecesForMarks_32 : decode cX1_piecesForMarks 32 = .ok (.iload_n 2, 1) := by decide +kernel
theorem dX1_piecesForMarks_33 : decode cX1_piecesForMarks 33 = .ok (.if_icmp .ge 84, 3) := by decide +kernel
theorem dX1_piecesForMarks_36 : decode cX1_piecesForMarks 36 = .ok (.iconst 0, 1) := by decide +kernel
theorem dX1_piecesForMarks_37 : decode cX1_piecesForMarks 37 = .ok (.istore 6, 2) := by decide +kernel
theorem dX1_piecesForMarks_39 : decode cX1_piecesForMarks 39 = .ok (.iconst 0, 1) := by decide +kernel
theorem dX1_piecesForMarks_40 : decode cX1_piecesForMarks 40 = .ok (.istore 7, 2) := by decide +kernel
theorem dX1_piecesForMarks_42 : decode cX1_piecesForMarks 42 = .ok (.iload 7, 2) := by decide +kernel
theorem dX1_piecesForMarks_44 : decode cX1_piecesForMarks 44 = .ok (.iload_n 3, 1) := by decide +kernel
theorem dX1_piecesForMarks_45 : decode cX1_piecesForMarks 45 = .ok (.if_icmp .ge 66, 3) := by decide +kernel
theorem dX1_piecesForMarks_48 : decode cX1_piecesForMarks 48 = .ok (.aload_n 0, 1) := by decide +kernel
theorem dX1_piecesForMarks_49 : decode cX1_piecesForMarks 49 = .ok (.getfield 28, 3) := by decide +kernel
theorem dX1_piecesForMarks_52 : decode cX1_piecesForMarks 52 = .ok (.iload_n 1, 1) := by decide +kernel
theorem dX1_piecesForMarks_53 : decode cX1_piecesForMarks 53 = .ok (.ifCond .eq 13, 3) := by decide +kernel
theorem dX1_piecesForMarks_56 : decode cX1_piecesForMarks 56 = .ok (.iload 7, 2) := by decide +kernel
theorem dX1_piecesForMarks_58 : decode cX1_piecesForMarks 58 = .ok (.iload 5, 2) := by decide +kernel
theorem dX1_piecesForMarks_60 : decode cX1_piecesForMarks 60 = .ok (.invokestatic 49, 3) := by decide +kernel
theorem dX1_piecesForMarks_63 : decode cX1_piecesForMarks 63 = .ok (.goto 10, 3) := by decide +kernel
theorem dX1_piecesForMarks_66 : decode cX1_piecesForMarks 66 = .ok (.iload 5, 2) := by decide +kernel
theorem dX1_piecesForMarks_68 : decode cX1_piecesForMarks 68 = .ok (.iload 7, 2) := by decide +kernel
theorem dX1_piecesForMarks_70 : decode cX1_piecesForMarks 70 = .ok (.invokestatic 49, 3) := by decide +kernel
theorem dX1_piecesForMarks_73 : decode cX1_piecesForMarks 73 = .ok (.invokestatic 53, 3) := by decide +kernel
theorem dX1_piecesForMarks_76 : decode cX1_piecesForMarks 76 = .ok (.ifCond .ne 9, 3) := by decide +kernel
theorem dX1_piecesForMarks_79 : decode cX1_piecesForMarks 79 = .ok (.iconst 0, 1) := by decide +kernel
theorem dX1_piecesForMarks_80 : decode cX1_piecesForMarks 80 = .ok (.istore 6, 2) := by decide +kernel
theorem dX1_piecesForMarks_82 : decode cX1_piecesForMarks 82 = .ok (.goto 23, 3) := by decide +kernel
theorem dX1_piecesForMarks_85 : decode cX1_piecesForMarks 85 = .ok (.iload 4, 2) := by decide +kernel
theorem dX1_piecesForMarks_87 : decode cX1_piecesForMarks 87 = .ok (.iload 6, 2) := by decide +kernel
theorem dX1_piecesForMarks_89 : decode cX1_piecesForMarks 89 = .ok (.iconst 3, 1) := by decide +kernel
theorem dX1_piecesForMarks_90 : decode cX1_piecesForMarks 90 = .ok (.irem, 1) := by decide +kernel
theorem dX1_piecesForMarks_91 : decode cX1_piecesForMarks 91 = .ok (.ifCond .ne 7, 3) := by decide +kernel
theorem dX1_piecesForMarks_94 : decode cX1_piecesForMarks 94 = .ok (.iconst 1, 1) := by decide +kernel
theorem dX1_piecesForMarks_95 : decode cX1_piecesForMarks 95 = .ok (.goto 4, 3) := by decide +kernel
theorem dX1_piecesForMarks_98 : decode cX1_piecesForMarks 98 = .ok (.iconst 0, 1) := by decide +kernel
theorem dX1_piecesForMarks_99 : decode cX1_piecesForMarks 99 = .ok (.iadd, 1) := by decide +kernel
theorem dX1_piecesForMarks_100 : decode cX1_piecesForMarks 100 = .ok (.istore 4, 2) := by decide +kernel
theorem dX1_piecesForMarks_102 : decode cX1_piecesForMarks 102 = .ok (.iinc 6 1, 3) := by decide +kernel
theorem dX1_piecesForMarks_105 : decode cX1_piecesForMarks 105 = .ok (.iinc 7 1, 3) := by decide +kernel
theorem dX1_piecesForMarks_108 : decode cX1_piecesForMarks 108 = .ok (.goto (-66), 3) := by decide +kernel
theorem dX1_piecesForMarks_111 : decode cX1_piecesForMarks 111 = .ok (.iinc 5 1, 3) := by decide +kernel
theorem dX1_piecesForMarks_114 : decode cX1_piecesForMarks 114 = .ok (.goto (-84), 3) := by decide +kernel
theorem dX1_piecesForMarks_117 : decode cX1_piecesForMarks 117 = .ok (.iload 4, 2) := by decide +kernel
theorem dX1_piecesForMarks_119 : decode cX1_piecesForMarks 119 = .ok (.ireturn, 1) := by decide +kernel
set_option maxRecDepth 20000 in
theorem ggX1_dryOneHour_J9_floorMod_7cf53 : GoodIn wsX1_dryOneHour wsJ9_floorMod_7cf53 := goodIn_r _ [10] (by decide +kernel) (by decide +kernel)
set_option maxRecDepth 20000 in
theorem gX1_dryOneHour_J9_floorMod_7cf53 : GoodIn wsX1_dryOneHour (va_wsS RX1 236 yJ9_floorMod_7cf53 wsJ9_floorMod_7cf53) := goodIn_app (goodIn_of _ (by decide +kernel)) ggX1_dryOneHour_J9_floorMod_7cf53
set_option maxRecDepth 20000 in
theorem ggX1_dryOneHour_X1_at : GoodIn wsX1_dryOneHour wsX1_at := goodIn_r _ [14, 15, 16, 13, 17] (by decide +kernel) (by decide +kernel)
set_option maxRecDepth 20000 in
theorem gX1_dryOneHour_X1_at : GoodIn wsX1_dryOneHour (va_wsS RX1 53 yX1_at wsX1_at) := goodIn_app (goodIn_of _ (by decide +kernel)) ggX1_dryOneHour_X1_at
set_option maxRecDepth 20000 in
theorem ggX1_dryOneHour_X1_put : GoodIn wsX1_dryOneHour wsX1_put := goodIn_r _ [20, 15, 16, 13, 17] (by decide +kernel) (by decide +kernel)
set_option maxRecDepth 20000 in
theorem gX1_dryOneHour_X1_put : GoodIn wsX1_dryOneHour (va_wsS RX1 57 yX1_put wsX1_put) := goodIn_app (goodIn_of _ (by decide +kernel)) ggX1_dryOneHour_X1_put
theorem dX1_dryOneHour_0 : decode cX1_dryOneHour 0 = .ok (.aload_n 0, 1) := by decide +kernel
theorem dX1_dryOneHour_1 : decode cX1_dryOneHour 1 = .ok (.getfield 16, 3) := by decide +kernel
theorem dX1_dryOneHour_4 : decode cX1_dryOneHour 4 = .ok (.iload_n 2, 1) := by decide +kernel
theorem dX1_dryOneHour_5 : decode cX1_dryOneHour 5 = .ok (.bipush 8, 2) := by decide +kernel
theorem dX1_dryOneHour_7 : decode cX1_dryOneHour 7 = .ok (.invokestatic 236, 3) := by decide +kernel
theorem dX1_dryOneHour_10 : decode cX1_dryOneHour 10 = .ok (.invokestatic 53, 3) := by decide +kernel
theorem dX1_dryOneHour_13 : decode cX1_dryOneHour 13 = .ok (.istore_n 3, 1) := by decide +kernel
theorem dX1_dryOneHour_14 : decode cX1_dryOneHour 14 = .ok (.iload_n 2, 1) := by decide +kernel
theorem dX1_dryOneHour_15 : decode cX1_dryOneHour 15 = .ok (.iconst 2, 1) := by decide +kernel
theorem dX1_dryOneHour_16 : decode cX1_dryOneHour 16 = .ok (.irem, 1) := by decide +kernel
theorem dX1_dryOneHour_17 : decode cX1_dryOneHour 17 = .ok (.ifCond .ne 7, 3) := by decide +kernel
theorem dX1_dryOneHour_20 : decode cX1_dryOneHour 20 = .ok (.iconst 1, 1) := by decide +kernel
theorem dX1_dryOneHour_21 : decode cX1_dryOneHour 21 = .ok (.goto 4, 3) := by decide +kernel
theorem dX1_dryOneHour_24 : decode cX1_dryOneHour 24 = .ok (.iconst 0, 1) := by decide +kernel
theorem dX1_dryOneHour_25 : decode cX1_dryOneHour 25 = .ok (.istore 4, 2) := by decide +kernel
theorem dX1_dryOneHour_27 : decode cX1_dryOneHour 27 = .ok (.iconst 0, 1) := by decide +kernel
theorem dX1_dryOneHour_28 : decode cX1_dryOneHour 28 = .ok (.istore 5, 2) := by decide +kernel
theorem dX1_dryOneHour_30 : decode cX1_dryOneHour 30 = .ok (.iload 5, 2) := by decide +kernel
theorem dX1_dryOneHour_32 : decode cX1_dryOneHour 32 = .ok (.bipush 80, 2) := by decide +kernel
theorem dX1_dryOneHour_34 : decode cX1_dryOneHour 34 = .ok (.if_icmp .ge 67, 3) := by decide +kernel
theorem dX1_dryOneHour_37 : decode cX1_dryOneHour 37 = .ok (.aload_n 0, 1) := by decide +kernel
theorem dX1_dryOneHour_38 : decode cX1_dryOneHour 38 = .ok (.getfield 13, 3) := by decide +kernel
theorem dX1_dryOneHour_41 : decode cX1_dryOneHour 41 = .ok (.iload 5, 2) := by decide +kernel
theorem dX1_dryOneHour_43 : decode cX1_dryOneHour 43 = .ok (.invokestatic 53, 3) := by decide +kernel
theorem dX1_dryOneHour_46 : decode cX1_dryOneHour 46 = .ok (.iconst (-1), 1) := by decide +kernel
theorem dX1_dryOneHour_47 : decode cX1_dryOneHour 47 = .ok (.if_icmp .ne 7, 3) := by decide +kernel
theorem dX1_dryOneHour_50 : decode cX1_dryOneHour 50 = .ok (.iconst 1, 1) := by decide +kernel
theorem dX1_dryOneHour_51 : decode cX1_dryOneHour 51 = .ok (.goto 4, 3) := by decide +kernel
theorem dX1_dryOneHour_54 : decode cX1_dryOneHour 54 = .ok (.iconst 0, 1) := by decide +kernel
theorem dX1_dryOneHour_55 : decode cX1_dryOneHour 55 = .ok (.istore 6, 2) := by decide +kernel
theorem dX1_dryOneHour_57 : decode cX1_dryOneHour 57 = .ok (.aload_n 1, 1) := by decide +kernel
theorem dX1_dryOneHour_58 : decode cX1_dryOneHour 58 = .ok (.iload 5, 2) := by decide +kernel
theorem dX1_dryOneHour_60 : decode cX1_dryOneHour 60 = .ok (.invokestatic 53, 3) := by decide +kernel
theorem dX1_dryOneHour_63 : decode cX1_dryOneHour 63 = .ok (.iconst 1, 1) := by decide +kernel
theorem dX1_dryOneHour_64 : decode cX1_dryOneHour 64 = .ok (.if_icmp .lt 31, 3) := by decide +kernel
theorem dX1_dryOneHour_67 : decode cX1_dryOneHour 67 = .ok (.iload 6, 2) := by decide +kernel
theorem dX1_dryOneHour_69 : decode cX1_dryOneHour 69 = .ok (.ifCond .ne 8, 3) := by decide +kernel
theorem dX1_dryOneHour_72 : decode cX1_dryOneHour 72 = .ok (.iload 4, 2) := by decide +kernel
theorem dX1_dryOneHour_74 : decode cX1_dryOneHour 74 = .ok (.ifCond .eq 21, 3) := by decide +kernel
theorem dX1_dryOneHour_77 : decode cX1_dryOneHour 77 = .ok (.aload_n 1, 1) := by decide +kernel
theorem dX1_dryOneHour_78 : decode cX1_dryOneHour 78 = .ok (.iload 5, 2) := by decide +kernel
theorem dX1_dryOneHour_80 : decode cX1_dryOneHour 80 = .ok (.iconst 0, 1) := by decide +kernel
theorem dX1_dryOneHour_81 : decode cX1_dryOneHour 81 = .ok (.aload_n 1, 1) := by decide +kernel
theorem dX1_dryOneHour_82 : decode cX1_dryOneHour 82 = .ok (.iload 5, 2) := by decide +kernel
theorem dX1_dryOneHour_84 : decode cX1_dryOneHour 84 = .ok (.invokestatic 53, 3) := by decide +kernel
theorem dX1_dryOneHour_87 : decode cX1_dryOneHour 87 = .ok (.iload_n 3, 1) := by decide +kernel
theorem dX1_dryOneHour_88 : decode cX1_dryOneHour 88 = .ok (.isub, 1) := by decide +kernel
theorem dX1_dryOneHour_89 : decode cX1_dryOneHour 89 = .ok (.invokestatic 241, 3) := by decide +kernel
theorem dX1_dryOneHour_92 : decode cX1_dryOneHour 92 = .ok (.invokestatic 57, 3) := by decide +kernel
theorem dX1_dryOneHour_95 : decode cX1_dryOneHour 95 = .ok (.iinc 5 1, 3) := by decide +kernel
theorem dX1_dryOneHour_98 : decode cX1_dryOneHour 98 = .ok (.goto (-68), 3) := by decide +kernel
theorem dX1_dryOneHour_101 : decode cX1_dryOneHour 101 = .ok (.return_, 1) := by decide +kernel
theorem dX2_init_0 : decode cX2_init 0 = .ok (.aload_n 0, 1) := by decide +kernel
theorem dX2_init_1 : decode cX2_init 1 = .ok (.aload_n 1, 1) := by decide +kernel
theorem dX2_init_2 : decode cX2_init 2 = .ok (.putfield 3, 3) := by decide +kernel
theorem dX2_init_5 : decode cX2_init 5 = .ok (.aload_n 0, 1) := by decide +kernel
theorem dX2_init_6 : decode cX2_init 6 = .ok (.invokespecial 9, 3) := by decide +kernel
theorem dX2_init_9 : decode cX2_init 9 = .ok (.aload_n 0, 1) := by decide +kernel
theorem dX2_init_10 : decode cX2_init 10 = .ok (.bipush 80, 2) := by decide +kernel
theorem dX2_init_12 : decode cX2_init 12 = .ok (.newarray .int, 2) := by decide +kernel
theorem dX2_init_14 : decode cX2_init 14 = .ok (.putfield 15, 3) := by decide +kernel
theorem dX2_init_17 : decode cX2_init 17 = .ok (.return_, 1) := by decide +kernel
theorem dX2_become_0 : decode cX2_become 0 = .ok (.aload_n 0, 1) := by decide +kernel
theorem dX2_become_1 : decode cX2_become 1 = .ok (.aload_n 1, 1) := by decide +kernel
theorem dX2_become_2 : decode cX2_become 2 = .ok (.getfield 19, 3) := by decide +kernel
theorem dX2_become_5 : decode cX2_become 5 = .ok (.putfield 19, 3) := by decide +kernel
theorem dX2_become_8 : decode cX2_become 8 = .ok (.aload_n 1, 1) := by decide +kernel
theorem dX2_become_9 : decode cX2_become 9 = .ok (.getfield 15, 3) := by decide +kernel
theorem dX2_become_12 : decode cX2_become 12 = .ok (.iconst 0, 1) := by decide +kernel
theorem dX2_become_13 : decode cX2_become 13 = .ok (.aload_n 0, 1) := by decide +kernel
theorem dX2_become_14 : decode cX2_become 14 = .ok (.getfield 15, 3) := by decide +kernel
theorem dX2_become_17 : decode cX2_become 17 = .ok (.iconst 0, 1) := by decide +kernel
theorem dX2_become_18 : decode cX2_become 18 = .ok (.bipush 80, 2) := by decide +kernel
theorem dX2_become_20 : decode cX2_become 20 = .ok (.invokestatic 23, 3) := by decide +kernel
theorem dX2_become_23 : decode cX2_become 23 = .ok (.return_, 1) := by decide +kernel
theorem dX2_pass_0 : decode cX2_pass 0 = .ok (.aload_n 0, 1) := by decide +kernel
theorem dX2_pass_1 : decode cX2_pass 1 = .ok (.getfield 3, 3) := by decide +kernel
theorem dX2_pass_4 : decode cX2_pass 4 = .ok (.getfield 29, 3) := by decide +kernel
theorem dX2_pass_7 : decode cX2_pass 7 = .ok (.aload_n 0, 1) := by decide +kernel
theorem dX2_pass_8 : decode cX2_pass 8 = .ok (.getfield 19, 3) := by decide +kernel
theorem dX2_pass_11 : decode cX2_pass 11 = .ok (.bipush 8, 2) := by decide +kernel
theorem dX2_pass_13 : decode cX2_pass 13 = .ok (.irem, 1) := by decide +kernel
theorem dX2_pass_14 : decode cX2_pass 14 = .ok (.iaload, 1) := by decide +kernel
theorem dX2_pass_15 : decode cX2_pass 15 = .ok (.istore_n 1, 1) := by decide +kernel
theorem dX2_pass_16 : decode cX2_pass 16 = .ok (.iconst 0, 1) := by decide +kernel
theorem dX2_pass_17 : decode cX2_pass 17 = .ok (.istore_n 2, 1) := by decide +kernel
theorem dX2_pass_18 : decode cX2_pass 18 = .ok (.iload_n 2, 1) := by decide +kernel
theorem dX2_pass_19 : decode cX2_pass 19 = .ok (.bipush 80, 2) := by decide +kernel
theorem dX2_pass_21 : decode cX2_pass 21 = .ok (.if_icmp .ge 58, 3) := by decide +kernel
theorem dX2_pass_24 : decode cX2_pass 24 = .ok (.aload_n 0, 1) := by decide +kernel
theorem dX2_pass_25 : decode cX2_pass 25 = .ok (.getfield 15, 3) := by decide +kernel
theorem dX2_pass_28 : decode cX2_pass 28 = .ok (.iload_n 2, 1) := by decide +kernel
theorem dX2_pass_29 : decode cX2_pass 29 = .ok (.iaload, 1) := by decide +kernel
theorem dX2_pass_30 : decode cX2_pass 30 = .ok (.ifCond .le 43, 3) := by decide +kernel
theorem dX2_pass_33 : decode cX2_pass 33 = .ok (.aload_n 0, 1) := by decide +kernel
theorem dX2_pass_34 : decode cX2_pass 34 = .ok (.getfield 3, 3) := by decide +kernel
theorem dX2_pass_37 : decode cX2_pass 37 = .ok (.getfield 32, 3) := by decide +kernel
theorem dX2_pass_40 : decode cX2_pass 40 = .ok (.iload_n 2, 1) := by decide +kernel
theorem dX2_pass_41 : decode cX2_pass 41 = .ok (.iaload, 1) := by decide +kernel
theorem dX2_pass_42 : decode cX2_pass 42 = .ok (.iconst (-1), 1) := by decide +kernel
theorem dX2_pass_43 : decode cX2_pass 43 = .ok (.if_icmp .eq 12, 3) := by decide +kernel
theorem dX2_pass_46 : decode cX2_pass 46 = .ok (.aload_n 0, 1) := by decide +kernel
theorem dX2_pass_47 : decode cX2_pass 47 = .ok (.getfield 19, 3) := by decide +kernel
theorem dX2_pass_50 : decode cX2_pass 50 = .ok (.iconst 2, 1) := by decide +kernel
theorem dX2_pass_51 : decode cX2_pass 51 = .ok (.irem, 1) := by decide +kernel
theorem dX2_pass_52 : decode cX2_pass 52 = .ok (.ifCond .ne 21, 3) := by decide +kernel
theorem dX2_pass_55 : decode cX2_pass 55 = .ok (.aload_n 0, 1) := by decide +kernel
theorem dX2_pass_56 : decode cX2_pass 56 = .ok (.getfield 15, 3) := by decide +kernel
theorem dX2_pass_59 : decode cX2_pass 59 = .ok (.iload_n 2, 1) := by decide +kernel
theorem dX2_pass_60 : decode cX2_pass 60 = .ok (.iconst 0, 1) := by decide +kernel
theorem dX2_pass_61 : decode cX2_pass 61 = .ok (.aload_n 0, 1) := by decide +kernel
theorem dX2_pass_62 : decode cX2_pass 62 = .ok (.getfield 15, 3) := by decide +kernel
theorem dX2_pass_65 : decode cX2_pass 65 = .ok (.iload_n 2, 1) := by decide +kernel
theorem dX2_pass_66 : decode cX2_pass 66 = .ok (.iaload, 1) := by decide +kernel
theorem dX2_pass_67 : decode cX2_pass 67 = .ok (.iload_n 1, 1) := by decide +kernel
theorem dX2_pass_68 : decode cX2_pass 68 = .ok (.isub, 1) := by decide +kernel
theorem dX2_pass_69 : decode cX2_pass 69 = .ok (.invokestatic 35, 3) := by decide +kernel
theorem dX2_pass_72 : decode cX2_pass 72 = .ok (.iastore, 1) := by decide +kernel
theorem dX2_pass_73 : decode cX2_pass 73 = .ok (.iinc 2 1, 3) := by decide +kernel
theorem dX2_pass_76 : decode cX2_pass 76 = .ok (.goto (-58), 3) := by decide +kernel
theorem dX2_pass_79 : decode cX2_pass 79 = .ok (.aload_n 0, 1) := by decide +kernel
theorem dX2_pass_80 : decode cX2_pass 80 = .ok (.dup, 1) := by decide +kernel
theorem dX2_pass_81 : decode cX2_pass 81 = .ok (.getfield 19, 3) := by decide +kernel
theorem dX2_pass_84 : decode cX2_pass 84 = .ok (.iconst 1, 1) := by decide +kernel
theorem dX2_pass_85 : decode cX2_pass 85 = .ok (.iadd, 1) := by decide +kernel
theorem dX2_pass_86 : decode cX2_pass 86 = .ok (.putfield 19, 3) := by decide +kernel
theorem dX2_pass_89 : decode cX2_pass 89 = .ok (.return_, 1) := by decide +kernel
theorem dX2_wetOnes_0 : decode cX2_wetOnes 0 = .ok (.iconst 0, 1) := by decide +kernel
theorem dX2_wetOnes_1 : decode cX2_wetOnes 1 = .ok (.istore_n 1, 1) := by decide +kernel
theorem dX2_wetOnes_2 : decode cX2_wetOnes 2 = .ok (.aload_n 0, 1) := by decide +kernel
theorem dX2_wetOnes_3 : decode cX2_wetOnes 3 = .ok (.getfield 15, 3) := by decide +kernel
theorem dX2_wetOnes_6 : decode cX2_wetOnes 6 = .ok (.astore_n 2, 1) := by decide +kernel
theorem dX2_wetOnes_7 : decode cX2_wetOnes 7 = .ok (.aload_n 2, 1) := by decide +kernel
theorem dX2_wetOnes_8 : decode cX2_wetOnes 8 = .ok (.arraylength, 1) := by decide +kernel
theorem dX2_wetOnes_9 : decode cX2_wetOnes 9 = .ok (.istore_n 3, 1) := by decide +kernel
theorem dX2_wetOnes_10 : decode cX2_wetOnes 10 = .ok (.iconst 0, 1) := by decide +kernel
theorem dX2_wetOnes_11 : decode cX2_wetOnes 11 = .ok (.istore 4, 2) := by decide +kernel
theorem dX2_wetOnes_13 : decode cX2_wetOnes 13 = .ok (.iload 4, 2) := by decide +kernel
theorem dX2_wetOnes_15 : decode cX2_wetOnes 15 = .ok (.iload_n 3, 1) := by decide +kernel
theorem dX2_wetOnes_16 : decode cX2_wetOnes 16 = .ok (.if_icmp .ge 28, 3) := by decide +kernel
theorem dX2_wetOnes_19 : decode cX2_wetOnes 19 = .ok (.aload_n 2, 1) := by decide +kernel
theorem dX2_wetOnes_20 : decode cX2_wetOnes 20 = .ok (.iload 4, 2) := by decide +kernel
theorem dX2_wetOnes_22 : decode cX2_wetOnes 22 = .ok (.iaload, 1) := by decide +kernel
theorem dX2_wetOnes_23 : decode cX2_wetOnes 23 = .ok (.istore 5, 2) := by decide +kernel
theorem dX2_wetOnes_25 : decode cX2_wetOnes 25 = .ok (.iload_n 1, 1) := by decide +kernel
theorem dX2_wetOnes_26 : decode cX2_wetOnes 26 = .ok (.iload 5, 2) := by decide +kernel
theorem dX2_wetOnes_28 : decode cX2_wetOnes 28 = .ok (.ifCond .le 7, 3) := by decide +kernel
theorem dX2_wetOnes_31 : decode cX2_wetOnes 31 = .ok (.iconst 1, 1) := by decide +kernel
theorem dX2_wetOnes_32 : decode cX2_wetOnes 32 = .ok (.goto 4, 3) := by decide +kernel
theorem dX2_wetOnes_35 : decode cX2_wetOnes 35 = .ok (.iconst 0, 1) := by decide +kernel
theorem dX2_wetOnes_36 : decode cX2_wetOnes 36 = .ok (.iadd, 1) := by decide +kernel
theorem dX2_wetOnes_37 : decode cX2_wetOnes 37 = .ok (.istore_n 1, 1) := by decide +kernel
theorem dX2_wetOnes_38 : decode cX2_wetOnes 38 = .ok (.iinc 4 1, 3) := by decide +kernel
theorem dX2_wetOnes_41 : decode cX2_wetOnes 41 = .ok (.goto (-28), 3) := by decide +kernel
theorem dX2_wetOnes_44 : decode cX2_wetOnes 44 = .ok (.iload_n 1, 1) := by decide +kernel
theorem dX2_wetOnes_45 : decode cX2_wetOnes 45 = .ok (.ireturn, 1) := by decide +kernel
theorem dX2_isLoose_0 : decode cX2_isLoose 0 = .ok (.aload_n 0, 1) := by decide +kernel
theorem dX2_isLoose_1 : decode cX2_isLoose 1 = .ok (.getfield 3, 3) := by decide +kernel
theorem dX2_isLoose_4 : decode cX2_isLoose 4 = .ok (.getfield 41, 3) := by decide +kernel
theorem dX2_isLoose_7 : decode cX2_isLoose 7 = .ok (.iload_n 1, 1) := by decide +kernel
theorem dX2_isLoose_8 : decode cX2_isLoose 8 = .ok (.iaload, 1) := by decide +kernel
theorem dX2_isLoose_9 : decode cX2_isLoose 9 = .ok (.iconst 1, 1) := by decide +kernel
theorem dX2_isLoose_10 : decode cX2_isLoose 10 = .ok (.if_icmp .ne 5, 3) := by decide +kernel
theorem dX2_isLoose_13 : decode cX2_isLoose 13 = .ok (.iconst 0, 1) := by decide +kernel
theorem dX2_isLoose_14 : decode cX2_isLoose 14 = .ok (.ireturn, 1) := by decide +kernel
theorem dX2_isLoose_15 : decode cX2_isLoose 15 = .ok (.aload_n 0, 1) := by decide +kernel
theorem dX2_isLoose_16 : decode cX2_isLoose 16 = .ok (.getfield 3, 3) := by decide +kernel
theorem dX2_isLoose_19 : decode cX2_isLoose 19 = .ok (.getfield 44, 3) := by decide +kernel
theorem dX2_isLoose_22 : decode cX2_isLoose 22 = .ok (.iload_n 1, 1) := by decide +kernel
theorem dX2_isLoose_23 : decode cX2_isLoose 23 = .ok (.iaload, 1) := by decide +kernel
theorem dX2_isLoose_24 : decode cX2_isLoose 24 = .ok (.iconst 1, 1) := by decide +kernel
theorem dX2_isLoose_25 : decode cX2_isLoose 25 = .ok (.if_icmp .ne 7, 3) := by decide +kernel
theorem dX2_isLoose_28 : decode cX2_isLoose 28 = .ok (.iconst 1, 1) := by decide +kernel
theorem dX2_isLoose_29 : decode cX2_isLoose 29 = .ok (.goto 5, 3) := by decide +kernel
theorem dX2_isLoose_32 : decode cX2_isLoose 32 = .ok (.bipush 10, 2) := by decide +kernel
theorem dX2_isLoose_34 : decode cX2_isLoose 34 = .ok (.istore_n 2, 1) := by decide +kernel
theorem dX2_isLoose_35 : decode cX2_isLoose 35 = .ok (.iconst 0, 1) := by decide +kernel
theorem dX2_isLoose_36 : decode cX2_isLoose 36 = .ok (.istore_n 3, 1) := by decide +kernel
theorem dX2_isLoose_37 : decode cX2_isLoose 37 = .ok (.iload_n 3, 1) := by decide +kernel
theorem dX2_isLoose_38 : decode cX2_isLoose 38 = .ok (.aload_n 0, 1) := by decide +kernel
theorem dX2_isLoose_39 : decode cX2_isLoose 39 = .ok (.getfield 3, 3) := by decide +kernel
theorem dX2_isLoose_42 : decode cX2_isLoose 42 = .ok (.getfield 47, 3) := by decide +kernel
theorem dX2_isLoose_45 : decode cX2_isLoose 45 = .ok (.iload_n 1, 1) := by decide +kernel
theorem dX2_isLoose_46 : decode cX2_isLoose 46 = .ok (.iaload, 1) := by decide +kernel
theorem dX2_isLoose_47 : decode cX2_isLoose 47 = .ok (.if_icmp .ge 33, 3) := by decide +kernel
theorem dX2_isLoose_50 : decode cX2_isLoose 50 = .ok (.aload_n 0, 1) := by decide +kernel
theorem dX2_isLoose_51 : decode cX2_isLoose 51 = .ok (.getfield 15, 3) := by decide +kernel
theorem dX2_isLoose_54 : decode cX2_isLoose 54 = .ok (.aload_n 0, 1) := by decide +kernel
theorem dX2_isLoose_55 : decode cX2_isLoose 55 = .ok (.getfield 3, 3) := by decide +kernel
theorem dX2_isLoose_58 : decode cX2_isLoose 58 = .ok (.getfield 50, 3) := by decide +kernel
theorem dX2_isLoose_61 : decode cX2_isLoose 61 = .ok (.iload_n 1, 1) := by decide +kernel
theorem dX2_isLoose_62 : decode cX2_isLoose 62 = .ok (.iaload, 1) := by decide +kernel
theorem dX2_isLoose_63 : decode cX2_isLoose 63 = .ok (.iload_n 3, 1) := by decide +kernel
theorem dX2_isLoose_64 : decode cX2_isLoose 64 = .ok (.iload_n 2, 1) := by decide +kernel
theorem dX2_isLoose_65 : decode cX2_isLoose 65 = .ok (.imul, 1) := by decide +kernel
theorem dX2_isLoose_66 : decode cX2_isLoose 66 = .ok (.iadd, 1) := by decide +kernel
theorem dX2_isLoose_67 : decode cX2_isLoose 67 = .ok (.iaload, 1) := by decide +kernel
theorem dX2_isLoose_68 : decode cX2_isLoose 68 = .ok (.iconst 1, 1) := by decide +kernel
theorem dX2_isLoose_69 : decode cX2_isLoose 69 = .ok (.if_icmp .ge 5, 3) := by decide +kernel
theorem dX2_isLoose_72 : decode cX2_isLoose 72 = .ok (.iconst 0, 1) := by decide +kernel
theorem dX2_isLoose_73 : decode cX2_isLoose 73 = .ok (.ireturn, 1) := by decide +kernel
theorem dX2_isLoose_74 : decode cX2_isLoose 74 = .ok (.iinc 3 1, 3) := by decide +kernel
theorem dX2_isLoose_77 : decode cX2_isLoose 77 = .ok (.goto (-40), 3) := by decide +kernel
theorem dX2_isLoose_80 : decode cX2_isLoose 80 = .ok (.iconst 1, 1) := by decide +kernel
theorem dX2_isLoose_81 : decode cX2_isLoose 81 = .ok (.ireturn, 1) := by decide +kernel
set_option maxRecDepth 20000 in
theorem ggX3_init_X2_init : GoodIn wsX3_init wsX2_init := goodIn_r _ [21, 22, 23, 2, 3, 4, 24, 39, 40, 41] (by decide +kernel) (by decide +kernel)
set_option maxRecDepth 20000 in
theorem gX3_init_X2_init_n42 : GoodIn wsX3_init (wsX2_init) := ggX3_init_X2_init
theorem dX3_init_0 : decode cX3_init 0 = .ok (.aload_n 0, 1) := by decide +kernel
theorem dX3_init_1 : decode cX3_init 1 = .ok (.invokespecial 3, 3) := by decide +kernel
theorem dX3_init_4 : decode cX3_init 4 = .ok (.aload_n 0, 1) := by decide +kernel
theorem dX3_init_5 : decode cX3_init 5 = .ok (.bipush 100, 2) := by decide +kernel
theorem dX3_init_7 : decode cX3_init 7 = .ok (.newarray .int, 2) := by decide +kernel
theorem dX3_init_9 : decode cX3_init 9 = .ok (.putfield 9, 3) := by decide +kernel
theorem dX3_init_12 : decode cX3_init 12 = .ok (.aload_n 0, 1) := by decide +kernel
theorem dX3_init_13 : decode cX3_init 13 = .ok (.bipush 100, 2) := by decide +kernel
theorem dX3_init_15 : decode cX3_init 15 = .ok (.newarray .int, 2) := by decide +kernel
theorem dX3_init_17 : decode cX3_init 17 = .ok (.putfield 13, 3) := by decide +kernel
theorem dX3_init_20 : decode cX3_init 20 = .ok (.aload_n 0, 1) := by decide +kernel
theorem dX3_init_21 : decode cX3_init 21 = .ok (.bipush 100, 2) := by decide +kernel
theorem dX3_init_23 : decode cX3_init 23 = .ok (.newarray .int, 2) := by decide +kernel
theorem dX3_init_25 : decode cX3_init 25 = .ok (.putfield 16, 3) := by decide +kernel
theorem dX3_init_28 : decode cX3_init 28 = .ok (.aload_n 0, 1) := by decide +kernel
theorem dX3_init_29 : decode cX3_init 29 = .ok (.bipush 100, 2) := by decide +kernel
theorem dX3_init_31 : decode cX3_init 31 = .ok (.newarray .int, 2) := by decide +kernel
theorem dX3_init_33 : decode cX3_init 33 = .ok (.putfield 19, 3) := by decide +kernel
theorem dX3_init_36 : decode cX3_init 36 = .ok (.aload_n 0, 1) := by decide +kernel
theorem dX3_init_37 : decode cX3_init 37 = .ok (.bipush 100, 2) := by decide +kernel
theorem dX3_init_39 : decode cX3_init 39 = .ok (.newarray .int, 2) := by decide +kernel
theorem dX3_init_41 : decode cX3_init 41 = .ok (.putfield 22, 3) := by decide +kernel
theorem dX3_init_44 : decode cX3_init 44 = .ok (.aload_n 0, 1) := by decide +kernel
theorem dX3_init_45 : decode cX3_init 45 = .ok (.bipush 100, 2) := by decide +kernel
theorem dX3_init_47 : decode cX3_init 47 = .ok (.newarray .int, 2) := by decide +kernel
theorem dX3_init_49 : decode cX3_init 49 = .ok (.putfield 25, 3) := by decide +kernel
theorem dX3_init_52 : decode cX3_init 52 = .ok (.aload_n 0, 1) := by decide +kernel
theorem dX3_init_53 : decode cX3_init 53 = .ok (.bipush 80, 2) := by decide +kernel
theorem dX3_init_55 : decode cX3_init 55 = .ok (.newarray .int, 2) := by decide +kernel
theorem dX3_init_57 : decode cX3_init 57 = .ok (.putfield 28, 3) := by decide +kernel
theorem dX3_init_60 : decode cX3_init 60 = .ok (.aload_n 0, 1) := by decide +kernel
theorem dX3_init_61 : decode cX3_init 61 = .ok (.bipush 8, 2) := by decide +kernel
theorem dX3_init_63 : decode cX3_init 63 = .ok (.newarray .int, 2) := by decide +kernel
theorem dX3_init_65 : decode cX3_init 65 = .ok (.putfield 31, 3) := by decide +kernel
theorem dX3_init_68 : decode cX3_init 68 = .ok (.aload_n 0, 1) := by decide +kernel
theorem dX3_init_69 : decode cX3_init 69 = .ok (.bipush 80, 2) := by decide +kernel
theorem dX3_init_71 : decode cX3_init 71 = .ok (.newarray .int, 2) := by decide +kernel
theorem dX3_init_73 : decode cX3_init 73 = .ok (.putfield 34, 3) := by decide +kernel
theorem dX3_init_76 : decode cX3_init 76 = .ok (.aload_n 0, 1) := by decide +kernel
theorem dX3_init_77 : decode cX3_init 77 = .ok (.bipush 80, 2) := by decide +kernel
theorem dX3_init_79 : decode cX3_init 79 = .ok (.newarray .int, 2) := by decide +kernel
theorem dX3_init_81 : decode cX3_init 81 = .ok (.putfield 37, 3) := by decide +kernel
theorem dX3_init_84 : decode cX3_init 84 = .ok (.aload_n 0, 1) := by decide +kernel
theorem dX3_init_85 : decode cX3_init 85 = .ok (.new 40, 3) := by decide +kernel
theorem dX3_init_88 : decode cX3_init 88 = .ok (.dup, 1) := by decide +kernel
theorem dX3_init_89 : decode cX3_init 89 = .ok (.aload_n 0, 1) := by decide +kernel
theorem dX3_init_90 : decode cX3_init 90 = .ok (.invokespecial 42, 3) := by decide +kernel
theorem dX3_init_93 : decode cX3_init 93 = .ok (.putfield 45, 3) := by decide +kernel
theorem dX3_init_96 : decode cX3_init 96 = .ok (.aload_n 0, 1) := by decide +kernel
theorem dX3_init_97 : decode cX3_init 97 = .ok (.new 40, 3) := by decide +kernel
theorem dX3_init_100 : decode cX3_init 100 = .ok (.dup, 1) := by decide +kernel
theorem dX3_init_101 : decode cX3_init 101 = .ok (.aload_n 0, 1) := by decide +kernel
theorem dX3_init_102 : decode cX3_init 102 = .ok (.invokespecial 42, 3) := by decide +kernel
theorem dX3_init_105 : decode cX3_init 105 = .ok (.putfield 49, 3) := by decide +kernel
theorem dX3_init_108 : decode cX3_init 108 = .ok (.iconst 0, 1) := by decide +kernel
theorem dX3_init_109 : decode cX3_init 109 = .ok (.istore_n 1, 1) := by decide +kernel
theorem dX3_init_110 : decode cX3_init 110 = .ok (.iload_n 1, 1) := by decide +kernel
theorem dX3_init_111 : decode cX3_init 111 = .ok (.bipush 80, 2) := by decide +kernel
theorem dX3_init_113 : decode cX3_init 113 = .ok (.if_icmp .ge 26, 3) := by decide +kernel
theorem dX3_init_116 : decode cX3_init 116 = .ok (.aload_n 0, 1) := by decide +kernel
theorem dX3_init_117 : decode cX3_init 117 = .ok (.getfield 28, 3) := by decide +kernel
theorem dX3_init_120 : decode cX3_init 120 = .ok (.iload_n 1, 1) := by decide +kernel
theorem dX3_init_121 : decode cX3_init 121 = .ok (.iconst (-1), 1) := by decide +kernel
theorem dX3_init_122 : decode cX3_init 122 = .ok (.iastore, 1) := by decide +kernel
theorem dX3_init_123 : decode cX3_init 123 = .ok (.aload_n 0, 1) := by decide +kernel
theorem dX3_init_124 : decode cX3_init 124 = .ok (.getfield 45, 3) := by decide +kernel
theorem dX3_init_127 : decode cX3_init 127 = .ok (.getfield 52, 3) := by decide +kernel
theorem dX3_init_130 : decode cX3_init 130 = .ok (.iload_n 1, 1) := by decide +kernel
theorem dX3_init_131 : decode cX3_init 131 = .ok (.iconst (-1), 1) := by decide +kernel
theorem dX3_init_132 : decode cX3_init 132 = .ok (.iastore, 1) := by decide +kernel
theorem dX3_init_133 : decode cX3_init 133 = .ok (.iinc 1 1, 3) := by decide +kernel
theorem dX3_init_136 : decode cX3_init 136 = .ok (.goto (-26), 3) := by decide +kernel
theorem dX3_init_139 : decode cX3_init 139 = .ok (.iconst 0, 1) := by decide +kernel
theorem dX3_init_140 : decode cX3_init 140 = .ok (.istore_n 1, 1) := by decide +kernel
theorem dX3_init_141 : decode cX3_init 141 = .ok (.iload_n 1, 1) := by decide +kernel
theorem dX3_init_142 : decode cX3_init 142 = .ok (.bipush 8, 2) := by decide +kernel
theorem dX3_init_144 : decode cX3_init 144 = .ok (.if_icmp .ge 16, 3) := by decide +kernel
theorem dX3_init_147 : decode cX3_init 147 = .ok (.aload_n 0, 1) := by decide +kernel
theorem dX3_init_148 : decode cX3_init 148 = .ok (.getfield 31, 3) := by decide +kernel
theorem dX3_init_151 : decode cX3_init 151 = .ok (.iload_n 1, 1) := by decide +kernel
theorem dX3_init_152 : decode cX3_init 152 = .ok (.iconst 1, 1) := by decide +kernel
theorem dX3_init_153 : decode cX3_init 153 = .ok (.iastore, 1) := by decide +kernel
theorem dX3_init_154 : decode cX3_init 154 = .ok (.iinc 1 1, 3) := by decide +kernel
theorem dX3_init_157 : decode cX3_init 157 = .ok (.goto (-16), 3) := by decide +kernel
theorem dX3_init_160 : decode cX3_init 160 = .ok (.return_, 1) := by decide +kernel
theorem dX3_thrown_0 : decode cX3_thrown 0 = .ok (.aload_n 0, 1) := by decide +kernel
theorem dX3_thrown_1 : decode cX3_thrown 1 = .ok (.getfield 55, 3) := by decide +kernel
theorem dX3_thrown_4 : decode cX3_thrown 4 = .ok (.ireturn, 1) := by decide +kernel
theorem dX3_no_0 : decode cX3_no 0 = .ok (.aload_n 0, 1) := by decide +kernel
theorem dX3_no_1 : decode cX3_no 1 = .ok (.iload_n 1, 1) := by decide +kernel
theorem dX3_no_2 : decode cX3_no 2 = .ok (.putfield 55, 3) := by decide +kernel
theorem dX3_no_5 : decode cX3_no 5 = .ok (.iconst 0, 1) := by decide +kernel
theorem dX3_no_6 : decode cX3_no 6 = .ok (.ireturn, 1) := by decide +kernel
theorem dX3_isIn_0 : decode cX3_isIn 0 = .ok (.iload_n 0, 1) := by decide +kernel
theorem dX3_isIn_1 : decode cX3_isIn 1 = .ok (.iload_n 1, 1) := by decide +kernel
theorem dX3_isIn_2 : decode cX3_isIn 2 = .ok (.if_icmp .lt 12, 3) := by decide +kernel
theorem dX3_isIn_5 : decode cX3_isIn 5 = .ok (.iload_n 0, 1) := by decide +kernel
theorem dX3_isIn_6 : decode cX3_isIn 6 = .ok (.iload_n 2, 1) := by decide +kernel
theorem dX3_isIn_7 : decode cX3_isIn 7 = .ok (.if_icmp .gt 7, 3) := by decide +kernel
theorem dX3_isIn_10 : decode cX3_isIn 10 = .ok (.iconst 1, 1) := by decide +kernel
theorem dX3_isIn_11 : decode cX3_isIn 11 = .ok (.goto 4, 3) := by decide +kernel
theorem dX3_isIn_14 : decode cX3_isIn 14 = .ok (.iconst 0, 1) := by decide +kernel
theorem dX3_isIn_15 : decode cX3_isIn 15 = .ok (.ireturn, 1) := by decide +kernel
set_option maxRecDepth 20000 in
theorem ggX3_isCell_X3_isIn : GoodIn wsX3_isCell wsX3_isIn := goodIn_r _ [4] (by decide +kernel) (by decide +kernel)
set_option maxRecDepth 20000 in
theorem gX3_isCell_X3_isIn : GoodIn wsX3_isCell (va_wsS RX3 59 yX3_isIn wsX3_isIn) := goodIn_app (goodIn_of _ (by decide +kernel)) ggX3_isCell_X3_isIn
theorem dX3_isCell_0 : decode cX3_isCell 0 = .ok (.iload_n 0, 1) := by decide +kernel
theorem dX3_isCell_1 : decode cX3_isCell 1 = .ok (.iconst 0, 1) := by decide +kernel
theorem dX3_isCell_2 : decode cX3_isCell 2 = .ok (.bipush 9, 2) := by decide +kernel
theorem dX3_isCell_4 : decode cX3_isCell 4 = .ok (.invokestatic 59, 3) := by decide +kernel
theorem dX3_isCell_7 : decode cX3_isCell 7 = .ok (.ifCond .eq 17, 3) := by decide +kernel
theorem dX3_isCell_10 : decode cX3_isCell 10 = .ok (.iload_n 1, 1) := by decide +kernel
theorem dX3_isCell_11 : decode cX3_isCell 11 = .ok (.iconst 0, 1) := by decide +kernel
theorem dX3_isCell_12 : decode cX3_isCell 12 = .ok (.bipush 7, 2) := by decide +kernel
theorem dX3_isCell_14 : decode cX3_isCell 14 = .ok (.invokestatic 59, 3) := by decide +kernel
theorem dX3_isCell_17 : decode cX3_isCell 17 = .ok (.ifCond .eq 7, 3) := by decide +kernel
theorem dX3_isCell_20 : decode cX3_isCell 20 = .ok (.iconst 1, 1) := by decide +kernel
theorem dX3_isCell_21 : decode cX3_isCell 21 = .ok (.goto 4, 3) := by decide +kernel
theorem dX3_isCell_24 : decode cX3_isCell 24 = .ok (.iconst 0, 1) := by decide +kernel
theorem dX3_isCell_25 : decode cX3_isCell 25 = .ok (.ireturn, 1) := by decide +kernel
set_option maxRecDepth 20000 in
theorem ggX3_isColour_X3_isIn : GoodIn wsX3_isColour wsX3_isIn := goodIn_r _ [4] (by decide +kernel) (by decide +kernel)
set_option maxRecDepth 20000 in
theorem gX3_isColour_X3_isIn : GoodIn wsX3_isColour (va_wsS RX3 59 yX3_isIn wsX3_isIn) := goodIn_app (goodIn_of _ (by decide +kernel)) ggX3_isColour_X3_isIn
theorem dX3_isColour_0 : decode cX3_isColour 0 = .ok (.iload_n 0, 1) := by decide +kernel
theorem dX3_isColour_1 : decode cX3_isColour 1 = .ok (.iconst 0, 1) := by decide +kernel
theorem dX3_isColour_2 : decode cX3_isColour 2 = .ok (.bipush 6, 2) := by decide +kernel
theorem dX3_isColour_4 : decode cX3_isColour 4 = .ok (.invokestatic 59, 3) := by decide +kernel
theorem dX3_isColour_7 : decode cX3_isColour 7 = .ok (.ireturn, 1) := by decide +kernel
set_option maxRecDepth 20000 in
theorem ggX3_isPiece_X3_isIn : GoodIn wsX3_isPiece wsX3_isIn := goodIn_r _ [5] (by decide +kernel) (by decide +kernel)
set_option maxRecDepth 20000 in
theorem gX3_isPiece_X3_isIn : GoodIn wsX3_isPiece (va_wsS RX3 59 yX3_isIn wsX3_isIn) := goodIn_app (goodIn_of _ (by decide +kernel)) ggX3_isPiece_X3_isIn
theorem dX3_isPiece_0 : decode cX3_isPiece 0 = .ok (.iload_n 1, 1) := by decide +kernel
theorem dX3_isPiece_1 : decode cX3_isPiece 1 = .ok (.iconst 0, 1) := by decide +kernel
theorem dX3_isPiece_2 : decode cX3_isPiece 2 = .ok (.aload_n 0, 1) := by decide +kernel
theorem dX3_isPiece_3 : decode cX3_isPiece 3 = .ok (.getfield 63, 3) := by decide +kernel
theorem dX3_isPiece_6 : decode cX3_isPiece 6 = .ok (.iconst 1, 1) := by decide +kernel
theorem dX3_isPiece_7 : decode cX3_isPiece 7 = .ok (.isub, 1) := by decide +kernel
theorem dX3_isPiece_8 : decode cX3_isPiece 8 = .ok (.invokestatic 59, 3) := by decide +kernel
theorem dX3_isPiece_11 : decode cX3_isPiece 11 = .ok (.ireturn, 1) := by decide +kernel
set_option maxRecDepth 20000 in
theorem ggX3_spread_X3_isCell : GoodIn wsX3_spread wsX3_isCell := goodIn_r _ [7, 8, 9, 6, 10] (by decide +kernel) (by decide +kernel)
set_option maxRecDepth 20000 in
theorem gX3_spread_X3_isCell : GoodIn wsX3_spread (va_wsS RX3 66 yX3_isCell wsX3_isCell) := goodIn_app (goodIn_of _ (by decide +kernel)) ggX3_spread_X3_isCell
set_option maxRecDepth 20000 in
theorem ggX3_spread_X3_no : GoodIn wsX3_spread wsX3_no := goodIn_r _ [14, 1, 15, 16, 17, 18, 19, 20, 21, 22, 23, 24, 25, 26, 27, 28] (by decide +kernel) (by decide +kernel)
set_option maxRecDepth 20000 in
theorem gX3_spread_X3_no : GoodIn wsX3_spread (wsV RX3 70 RX3 yX3_no wsX3_no) := goodIn_app (goodIn_of _ (by decide +kernel)) ggX3_spread_X3_no
set_option maxRecDepth 20000 in
theorem ggX3_spread_X3_isIn : GoodIn wsX3_spread wsX3_isIn := goodIn_r _ [10] (by decide +kernel) (by decide +kernel)
set_option maxRecDepth 20000 in
theorem gX3_spread_X3_isIn : GoodIn wsX3_spread (va_wsS RX3 59 yX3_isIn wsX3_isIn) := goodIn_app (goodIn_of _ (by decide +kernel)) ggX3_spread_X3_isIn
theorem dX3_spread_0 : decode cX3_spread 0 = .ok (.aload_n 0, 1) := by decide +kernel
theorem dX3_spread_1 : decode cX3_spread 1 = .ok (.iconst 0, 1) := by decide +kernel
theorem dX3_spread_2 : decode cX3_spread 2 = .ok (.putfield 55, 3) := by decide +kernel
theorem dX3_spread_5 : decode cX3_spread 5 = .ok (.iload_n 1, 1) := by decide +kernel
theorem dX3_spread_6 : decode cX3_spread 6 = .ok (.iload_n 2, 1) := by decide +kernel
theorem dX3_spread_7 : decode cX3_spread 7 = .ok (.invokestatic 66, 3) := by decide +kernel
theorem dX3_spread_10 : decode cX3_spread 10 = .ok (.ifCond .ne 9, 3) := by decide +kernel
theorem dX3_spread_13 : decode cX3_spread 13 = .ok (.aload_n 0, 1) := by decide +kernel
theorem dX3_spread_14 : decode cX3_spread 14 = .ok (.iconst 1, 1) := by decide +kernel
theorem dX3_spread_15 : decode cX3_spread 15 = .ok (.invokevirtual 70, 3) := by decide +kernel
theorem dX3_spread_18 : decode cX3_spread 18 = .ok (.ireturn, 1) := by decide +kernel
theorem dX3_spread_19 : decode cX3_spread 19 = .ok (.iload_n 3, 1) := by decide +kernel
theorem dX3_spread_20 : decode cX3_spread 20 = .ok (.iconst 1, 1) := by decide +kernel
theorem dX3_spread_21 : decode cX3_spread 21 = .ok (.bipush 10, 2) := by decide +kernel
theorem dX3_spread_23 : decode cX3_spread 23 = .ok (.iload_n 1, 1) := by decide +kernel
theorem dX3_spread_24 : decode cX3_spread 24 = .ok (.isub, 1) := by decide +kernel
theorem dX3_spread_25 : decode cX3_spread 25 = .ok (.invokestatic 59, 3) := by decide +kernel
theorem dX3_spread_28 : decode cX3_spread 28 = .ok (.ifCond .eq 16, 3) := by decide +kernel
theorem dX3_spread_31 : decode cX3_spread 31 = .ok (.iload 4, 2) := by decide +kernel
theorem dX3_spread_33 : decode cX3_spread 33 = .ok (.iconst 1, 1) := by decide +kernel
theorem dX3_spread_34 : decode cX3_spread 34 = .ok (.bipush 8, 2) := by decide +kernel
theorem dX3_spread_36 : decode cX3_spread 36 = .ok (.iload_n 2, 1) := by decide +kernel
theorem dX3_spread_37 : decode cX3_spread 37 = .ok (.isub, 1) := by decide +kernel
theorem dX3_spread_38 : decode cX3_spread 38 = .ok (.invokestatic 59, 3) := by decide +kernel
theorem dX3_spread_41 : decode cX3_spread 41 = .ok (.ifCond .ne 9, 3) := by decide +kernel
theorem dX3_spread_44 : decode cX3_spread 44 = .ok (.aload_n 0, 1) := by decide +kernel
theorem dX3_spread_45 : decode cX3_spread 45 = .ok (.iconst 2, 1) := by decide +kernel
theorem dX3_spread_46 : decode cX3_spread 46 = .ok (.invokevirtual 70, 3) := by decide +kernel
theorem dX3_spread_49 : decode cX3_spread 49 = .ok (.ireturn, 1) := by decide +kernel
theorem dX3_spread_50 : decode cX3_spread 50 = .ok (.iconst 0, 1) := by decide +kernel
theorem dX3_spread_51 : decode cX3_spread 51 = .ok (.istore 5, 2) := by decide +kernel
theorem dX3_spread_53 : decode cX3_spread 53 = .ok (.iconst 0, 1) := by decide +kernel
theorem dX3_spread_54 : decode cX3_spread 54 = .ok (.istore 6, 2) := by decide +kernel
theorem dX3_spread_56 : decode cX3_spread 56 = .ok (.iload 6, 2) := by decide +kernel
theorem dX3_spread_58 : decode cX3_spread 58 = .ok (.iload_n 3, 1) := by decide +kernel
theorem dX3_spread_59 : decode cX3_spread 59 = .ok (.iload 4, 2) := by decide +kernel
theorem dX3_spread_61 : decode cX3_spread 61 = .ok (.imul, 1) := by decide +kernel
theorem dX3_spread_62 : decode cX3_spread 62 = .ok (.if_icmp .ge 56, 3) := by decide +kernel
theorem dX3_spread_65 : decode cX3_spread 65 = .ok (.bipush 10, 2) := by decide +kernel
theorem dX3_spread_67 : decode cX3_spread 67 = .ok (.iload_n 2, 1) := by decide +kernel
theorem dX3_spread_68 : decode cX3_spread 68 = .ok (.iload 6, 2) := by decide +kernel
theorem dX3_spread_70 : decode cX3_spread 70 = .ok (.iload_n 3, 1) := by decide +kernel
theorem dX3_spread_71 : decode cX3_spread 71 = .ok (.idiv, 1) := by decide +kernel
theorem dX3_spread_72 : decode cX3_spread 72 = .ok (.iadd, 1) := by decide +kernel
theorem dX3_spread_73 : decode cX3_spread 73 = .ok (.imul, 1) := by decide +kernel
theorem dX3_spread_74 : decode cX3_spread 74 = .ok (.iload_n 1, 1) := by decide +kernel
theorem dX3_spread_75 : decode cX3_spread 75 = .ok (.iadd, 1) := by decide +kernel
theorem dX3_spread_76 : decode cX3_spread 76 = .ok (.iload 6, 2) := by decide +kernel
theorem dX3_spread_78 : decode cX3_spread 78 = .ok (.iload_n 3, 1) := by decide +kernel
theorem dX3_spread_79 : decode cX3_spread 79 = .ok (.irem, 1) := by decide +kernel
theorem dX3_spread_80 : decode cX3_spread 80 = .ok (.iadd, 1) := by decide +kernel
theorem dX3_spread_81 : decode cX3_spread 81 = .ok (.istore 7, 2) := by decide +kernel
theorem dX3_spread_83 : decode cX3_spread 83 = .ok (.aload_n 0, 1) := by decide +kernel
theorem dX3_spread_84 : decode cX3_spread 84 = .ok (.getfield 28, 3) := by decide +kernel
theorem dX3_spread_87 : decode cX3_spread 87 = .ok (.iload 7, 2) := by decide +kernel
theorem dX3_spread_89 : decode cX3_spread 89 = .ok (.iaload, 1) := by decide +kernel
theorem dX3_spread_90 : decode cX3_spread 90 = .ok (.iconst (-1), 1) := by decide +kernel
theorem dX3_spread_91 : decode cX3_spread 91 = .ok (.if_icmp .eq 6, 3) := by decide +kernel
theorem dX3_spread_94 : decode cX3_spread 94 = .ok (.goto 18, 3) := by decide +kernel
theorem dX3_spread_97 : decode cX3_spread 97 = .ok (.aload_n 0, 1) := by decide +kernel
theorem dX3_spread_98 : decode cX3_spread 98 = .ok (.getfield 45, 3) := by decide +kernel
theorem dX3_spread_101 : decode cX3_spread 101 = .ok (.getfield 52, 3) := by decide +kernel
theorem dX3_spread_104 : decode cX3_spread 104 = .ok (.iload 7, 2) := by decide +kernel
theorem dX3_spread_106 : decode cX3_spread 106 = .ok (.bipush 12, 2) := by decide +kernel
theorem dX3_spread_108 : decode cX3_spread 108 = .ok (.iastore, 1) := by decide +kernel
theorem dX3_spread_109 : decode cX3_spread 109 = .ok (.iinc 5 1, 3) := by decide +kernel
theorem dX3_spread_112 : decode cX3_spread 112 = .ok (.iinc 6 1, 3) := by decide +kernel
theorem dX3_spread_115 : decode cX3_spread 115 = .ok (.goto (-59), 3) := by decide +kernel
theorem dX3_spread_118 : decode cX3_spread 118 = .ok (.iload 5, 2) := by decide +kernel
theorem dX3_spread_120 : decode cX3_spread 120 = .ok (.ireturn, 1) := by decide +kernel
set_option maxRecDepth 20000 in
theorem ggX3_setSun_X3_isIn : GoodIn wsX3_setSun wsX3_isIn := goodIn_r _ [6] (by decide +kernel) (by decide +kernel)
set_option maxRecDepth 20000 in
theorem gX3_setSun_X3_isIn : GoodIn wsX3_setSun (va_wsS RX3 59 yX3_isIn wsX3_isIn) := goodIn_app (goodIn_of _ (by decide +kernel)) ggX3_setSun_X3_isIn
set_option maxRecDepth 20000 in
theorem ggX3_setSun_X3_no : GoodIn wsX3_setSun wsX3_no := goodIn_r _ [10, 1, 11, 12, 13, 14, 15, 16, 17, 18, 19, 20, 21, 22, 23, 24] (by decide +kernel) (by decide +kernel)
set_option maxRecDepth 20000 in
theorem gX3_setSun_X3_no : GoodIn wsX3_setSun (wsV RX3 70 RX3 yX3_no wsX3_no) := goodIn_app (goodIn_of _ (by decide +kernel)) ggX3_setSun_X3_no
theorem dX3_setSun_0 : decode cX3_setSun 0 = .ok (.aload_n 0, 1) := by decide +kernel
theorem dX3_setSun_1 : decode cX3_setSun 1 = .ok (.iconst 0, 1) := by decide +kernel
theorem dX3_setSun_2 : decode cX3_setSun 2 = .ok (.putfield 55, 3) := by decide +kernel
theorem dX3_setSun_5 : decode cX3_setSun 5 = .ok (.iload_n 1, 1) := by decide +kernel
theorem dX3_setSun_6 : decode cX3_setSun 6 = .ok (.iconst 0, 1) := by decide +kernel
theorem dX3_setSun_7 : decode cX3_setSun 7 = .ok (.bipush 7, 2) := by decide +kernel
theorem dX3_setSun_9 : decode cX3_setSun 9 = .ok (.invokestatic 59, 3) := by decide +kernel
theorem dX3_setSun_12 : decode cX3_setSun 12 = .ok (.ifCond .ne 9, 3) := by decide +kernel
theorem dX3_setSun_15 : decode cX3_setSun 15 = .ok (.aload_n 0, 1) := by decide +kernel
theorem dX3_setSun_16 : decode cX3_setSun 16 = .ok (.iconst 1, 1) := by decide +kernel
theorem dX3_setSun_17 : decode cX3_setSun 17 = .ok (.invokevirtual 70, 3) := by decide +kernel
theorem dX3_setSun_20 : decode cX3_setSun 20 = .ok (.ireturn, 1) := by decide +kernel
theorem dX3_setSun_21 : decode cX3_setSun 21 = .ok (.iload_n 2, 1) := by decide +kernel
theorem dX3_setSun_22 : decode cX3_setSun 22 = .ok (.iconst 0, 1) := by decide +kernel
theorem dX3_setSun_23 : decode cX3_setSun 23 = .ok (.iconst 4, 1) := by decide +kernel
theorem dX3_setSun_24 : decode cX3_setSun 24 = .ok (.invokestatic 59, 3) := by decide +kernel
theorem dX3_setSun_27 : decode cX3_setSun 27 = .ok (.ifCond .ne 9, 3) := by decide +kernel
theorem dX3_setSun_30 : decode cX3_setSun 30 = .ok (.aload_n 0, 1) := by decide +kernel
theorem dX3_setSun_31 : decode cX3_setSun 31 = .ok (.iconst 2, 1) := by decide +kernel
theorem dX3_setSun_32 : decode cX3_setSun 32 = .ok (.invokevirtual 70, 3) := by decide +kernel
theorem dX3_setSun_35 : decode cX3_setSun 35 = .ok (.ireturn, 1) := by decide +kernel
theorem dX3_setSun_36 : decode cX3_setSun 36 = .ok (.aload_n 0, 1) := by decide +kernel
theorem dX3_setSun_37 : decode cX3_setSun 37 = .ok (.getfield 31, 3) := by decide +kernel
theorem dX3_setSun_40 : decode cX3_setSun 40 = .ok (.iload_n 1, 1) := by decide +kernel
theorem dX3_setSun_41 : decode cX3_setSun 41 = .ok (.iaload, 1) := by decide +kernel
theorem dX3_setSun_42 : decode cX3_setSun 42 = .ok (.istore_n 3, 1) := by decide +kernel
theorem dX3_setSun_43 : decode cX3_setSun 43 = .ok (.aload_n 0, 1) := by decide +kernel
theorem dX3_setSun_44 : decode cX3_setSun 44 = .ok (.getfield 31, 3) := by decide +kernel
theorem dX3_setSun_47 : decode cX3_setSun 47 = .ok (.iload_n 1, 1) := by decide +kernel
theorem dX3_setSun_48 : decode cX3_setSun 48 = .ok (.iload_n 2, 1) := by decide +kernel
theorem dX3_setSun_49 : decode cX3_setSun 49 = .ok (.iastore, 1) := by decide +kernel
theorem dX3_setSun_50 : decode cX3_setSun 50 = .ok (.iload_n 3, 1) := by decide +kernel
theorem dX3_setSun_51 : decode cX3_setSun 51 = .ok (.ireturn, 1) := by decide +kernel
theorem dX3_canLie_0 : decode cX3_canLie 0 = .ok (.iload_n 3, 1) := by decide +kernel
theorem dX3_canLie_1 : decode cX3_canLie 1 = .ok (.ifCond .eq 17, 3) := by decide +kernel
theorem dX3_canLie_4 : decode cX3_canLie 4 = .ok (.iload_n 1, 1) := by decide +kernel
theorem dX3_canLie_5 : decode cX3_canLie 5 = .ok (.bipush 10, 2) := by decide +kernel
theorem dX3_canLie_7 : decode cX3_canLie 7 = .ok (.irem, 1) := by decide +kernel
theorem dX3_canLie_8 : decode cX3_canLie 8 = .ok (.iload_n 2, 1) := by decide +kernel
theorem dX3_canLie_9 : decode cX3_canLie 9 = .ok (.iadd, 1) := by decide +kernel
theorem dX3_canLie_10 : decode cX3_canLie 10 = .ok (.bipush 10, 2) := by decide +kernel
theorem dX3_canLie_12 : decode cX3_canLie 12 = .ok (.if_icmp .le 19, 3) := by decide +kernel
theorem dX3_canLie_15 : decode cX3_canLie 15 = .ok (.goto 14, 3) := by decide +kernel
theorem dX3_canLie_18 : decode cX3_canLie 18 = .ok (.iload_n 1, 1) := by decide +kernel
theorem dX3_canLie_19 : decode cX3_canLie 19 = .ok (.bipush 10, 2) := by decide +kernel
theorem dX3_canLie_21 : decode cX3_canLie 21 = .ok (.idiv, 1) := by decide +kernel
theorem dX3_canLie_22 : decode cX3_canLie 22 = .ok (.iload_n 2, 1) := by decide +kernel
theorem dX3_canLie_23 : decode cX3_canLie 23 = .ok (.iadd, 1) := by decide +kernel
theorem dX3_canLie_24 : decode cX3_canLie 24 = .ok (.bipush 8, 2) := by decide +kernel
theorem dX3_canLie_26 : decode cX3_canLie 26 = .ok (.if_icmp .le 5, 3) := by decide +kernel
theorem dX3_canLie_29 : decode cX3_canLie 29 = .ok (.iconst 0, 1) := by decide +kernel
theorem dX3_canLie_30 : decode cX3_canLie 30 = .ok (.ireturn, 1) := by decide +kernel
theorem dX3_canLie_31 : decode cX3_canLie 31 = .ok (.iload_n 3, 1) := by decide +kernel
theorem dX3_canLie_32 : decode cX3_canLie 32 = .ok (.ifCond .eq 7, 3) := by decide +kernel
theorem dX3_canLie_35 : decode cX3_canLie 35 = .ok (.iconst 1, 1) := by decide +kernel
theorem dX3_canLie_36 : decode cX3_canLie 36 = .ok (.goto 5, 3) := by decide +kernel
theorem dX3_canLie_39 : decode cX3_canLie 39 = .ok (.bipush 10, 2) := by decide +kernel
theorem dX3_canLie_41 : decode cX3_canLie 41 = .ok (.istore 5, 2) := by decide +kernel
theorem dX3_canLie_43 : decode cX3_canLie 43 = .ok (.iconst 0, 1) := by decide +kernel
theorem dX3_canLie_44 : decode cX3_canLie 44 = .ok (.istore 6, 2) := by decide +kernel
theorem dX3_canLie_46 : decode cX3_canLie 46 = .ok (.iload 6, 2) := by decide +kernel
theorem dX3_canLie_48 : decode cX3_canLie 48 = .ok (.iload_n 2, 1) := by decide +kernel
theorem dX3_canLie_49 : decode cX3_canLie 49 = .ok (.if_icmp .ge 57, 3) := by decide +kernel
theorem dX3_canLie_52 : decode cX3_canLie 52 = .ok (.iload_n 1, 1) := by decide +kernel
theorem dX3_canLie_53 : decode cX3_canLie 53 = .ok (.iload 6, 2) := by decide +kernel
theorem dX3_canLie_55 : decode cX3_canLie 55 = .ok (.iload 5, 2) := by decide +kernel
theorem dX3_canLie_57 : decode cX3_canLie 57 = .ok (.imul, 1) := by decide +kernel
theorem dX3_canLie_58 : decode cX3_canLie 58 = .ok (.iadd, 1) := by decide +kernel
theorem dX3_canLie_59 : decode cX3_canLie 59 = .ok (.istore 7, 2) := by decide +kernel
theorem dX3_canLie_61 : decode cX3_canLie 61 = .ok (.aload_n 0, 1) := by decide +kernel
theorem dX3_canLie_62 : decode cX3_canLie 62 = .ok (.getfield 45, 3) := by decide +kernel
theorem dX3_canLie_65 : decode cX3_canLie 65 = .ok (.getfield 52, 3) := by decide +kernel
theorem dX3_canLie_68 : decode cX3_canLie 68 = .ok (.iload 7, 2) := by decide +kernel
theorem dX3_canLie_70 : decode cX3_canLie 70 = .ok (.iaload, 1) := by decide +kernel
theorem dX3_canLie_71 : decode cX3_canLie 71 = .ok (.iconst 1, 1) := by decide +kernel
theorem dX3_canLie_72 : decode cX3_canLie 72 = .ok (.if_icmp .lt 26, 3) := by decide +kernel
theorem dX3_canLie_75 : decode cX3_canLie 75 = .ok (.aload_n 0, 1) := by decide +kernel
theorem dX3_canLie_76 : decode cX3_canLie 76 = .ok (.getfield 28, 3) := by decide +kernel
theorem dX3_canLie_79 : decode cX3_canLie 79 = .ok (.iload 7, 2) := by decide +kernel
theorem dX3_canLie_81 : decode cX3_canLie 81 = .ok (.iaload, 1) := by decide +kernel
theorem dX3_canLie_82 : decode cX3_canLie 82 = .ok (.iconst (-1), 1) := by decide +kernel
theorem dX3_canLie_83 : decode cX3_canLie 83 = .ok (.if_icmp .eq 17, 3) := by decide +kernel
theorem dX3_canLie_86 : decode cX3_canLie 86 = .ok (.aload_n 0, 1) := by decide +kernel
theorem dX3_canLie_87 : decode cX3_canLie 87 = .ok (.getfield 28, 3) := by decide +kernel
theorem dX3_canLie_90 : decode cX3_canLie 90 = .ok (.iload 7, 2) := by decide +kernel
theorem dX3_canLie_92 : decode cX3_canLie 92 = .ok (.iaload, 1) := by decide +kernel
theorem dX3_canLie_93 : decode cX3_canLie 93 = .ok (.iload 4, 2) := by decide +kernel
theorem dX3_canLie_95 : decode cX3_canLie 95 = .ok (.if_icmp .eq 5, 3) := by decide +kernel
theorem dX3_canLie_98 : decode cX3_canLie 98 = .ok (.iconst 0, 1) := by decide +kernel
theorem dX3_canLie_99 : decode cX3_canLie 99 = .ok (.ireturn, 1) := by decide +kernel
theorem dX3_canLie_100 : decode cX3_canLie 100 = .ok (.iinc 6 1, 3) := by decide +kernel
theorem dX3_canLie_103 : decode cX3_canLie 103 = .ok (.goto (-57), 3) := by decide +kernel
theorem dX3_canLie_106 : decode cX3_canLie 106 = .ok (.iconst 1, 1) := by decide +kernel
theorem dX3_canLie_107 : decode cX3_canLie 107 = .ok (.ireturn, 1) := by decide +kernel
theorem dX3_coverBy_0 : decode cX3_coverBy 0 = .ok (.aload_n 0, 1) := by decide +kernel
theorem dX3_coverBy_1 : decode cX3_coverBy 1 = .ok (.getfield 16, 3) := by decide +kernel
theorem dX3_coverBy_4 : decode cX3_coverBy 4 = .ok (.iload_n 1, 1) := by decide +kernel
theorem dX3_coverBy_5 : decode cX3_coverBy 5 = .ok (.iaload, 1) := by decide +kernel
theorem dX3_coverBy_6 : decode cX3_coverBy 6 = .ok (.iconst 1, 1) := by decide +kernel
theorem dX3_coverBy_7 : decode cX3_coverBy 7 = .ok (.if_icmp .ne 7, 3) := by decide +kernel
theorem dX3_coverBy_10 : decode cX3_coverBy 10 = .ok (.iconst 1, 1) := by decide +kernel
theorem dX3_coverBy_11 : decode cX3_coverBy 11 = .ok (.goto 5, 3) := by decide +kernel
theorem dX3_coverBy_14 : decode cX3_coverBy 14 = .ok (.bipush 10, 2) := by decide +kernel
theorem dX3_coverBy_16 : decode cX3_coverBy 16 = .ok (.istore_n 3, 1) := by decide +kernel
theorem dX3_coverBy_17 : decode cX3_coverBy 17 = .ok (.iconst 0, 1) := by decide +kernel
theorem dX3_coverBy_18 : decode cX3_coverBy 18 = .ok (.istore 4, 2) := by decide +kernel
theorem dX3_coverBy_20 : decode cX3_coverBy 20 = .ok (.iload 4, 2) := by decide +kernel
theorem dX3_coverBy_22 : decode cX3_coverBy 22 = .ok (.aload_n 0, 1) := by decide +kernel
theorem dX3_coverBy_23 : decode cX3_coverBy 23 = .ok (.getfield 13, 3) := by decide +kernel
theorem dX3_coverBy_26 : decode cX3_coverBy 26 = .ok (.iload_n 1, 1) := by decide +kernel
theorem dX3_coverBy_27 : decode cX3_coverBy 27 = .ok (.iaload, 1) := by decide +kernel
theorem dX3_coverBy_28 : decode cX3_coverBy 28 = .ok (.if_icmp .ge 26, 3) := by decide +kernel
theorem dX3_coverBy_31 : decode cX3_coverBy 31 = .ok (.aload_n 0, 1) := by decide +kernel
theorem dX3_coverBy_32 : decode cX3_coverBy 32 = .ok (.getfield 28, 3) := by decide +kernel
theorem dX3_coverBy_35 : decode cX3_coverBy 35 = .ok (.aload_n 0, 1) := by decide +kernel
theorem dX3_coverBy_36 : decode cX3_coverBy 36 = .ok (.getfield 9, 3) := by decide +kernel
theorem dX3_coverBy_39 : decode cX3_coverBy 39 = .ok (.iload_n 1, 1) := by decide +kernel
theorem dX3_coverBy_40 : decode cX3_coverBy 40 = .ok (.iaload, 1) := by decide +kernel
theorem dX3_coverBy_41 : decode cX3_coverBy 41 = .ok (.iload 4, 2) := by decide +kernel
theorem dX3_coverBy_43 : decode cX3_coverBy 43 = .ok (.iload_n 3, 1) := by decide +kernel
theorem dX3_coverBy_44 : decode cX3_coverBy 44 = .ok (.imul, 1) := by decide +kernel
theorem dX3_coverBy_45 : decode cX3_coverBy 45 = .ok (.iadd, 1) := by decide +kernel
theorem dX3_coverBy_46 : decode cX3_coverBy 46 = .ok (.iload_n 2, 1) := by decide +kernel
theorem dX3_coverBy_47 : decode cX3_coverBy 47 = .ok (.iastore, 1) := by decide +kernel
theorem dX3_coverBy_48 : decode cX3_coverBy 48 = .ok (.iinc 4 1, 3) := by decide +kernel
theorem dX3_coverBy_51 : decode cX3_coverBy 51 = .ok (.goto (-31), 3) := by decide +kernel
theorem dX3_coverBy_54 : decode cX3_coverBy 54 = .ok (.return_, 1) := by decide +kernel
theorem dX3_change_0 : decode cX3_change 0 = .ok (.aload_n 0, 1) := by decide +kernel
theorem dX3_change_1 : decode cX3_change 1 = .ok (.getfield 16, 3) := by decide +kernel
theorem dX3_change_4 : decode cX3_change 4 = .ok (.iload_n 1, 1) := by decide +kernel
theorem dX3_change_5 : decode cX3_change 5 = .ok (.iaload, 1) := by decide +kernel
theorem dX3_change_6 : decode cX3_change 6 = .ok (.iconst 1, 1) := by decide +kernel
theorem dX3_change_7 : decode cX3_change 7 = .ok (.if_icmp .ne 7, 3) := by decide +kernel
theorem dX3_change_10 : decode cX3_change 10 = .ok (.iconst 1, 1) := by decide +kernel
theorem dX3_change_11 : decode cX3_change 11 = .ok (.goto 5, 3) := by decide +kernel
theorem dX3_change_14 : decode cX3_change 14 = .ok (.bipush 10, 2) := by decide +kernel
theorem dX3_change_16 : decode cX3_change 16 = .ok (.istore_n 3, 1) := by decide +kernel
theorem dX3_change_17 : decode cX3_change 17 = .ok (.iconst 0, 1) := by decide +kernel
theorem dX3_change_18 : decode cX3_change 18 = .ok (.istore 4, 2) := by decide +kernel
theorem dX3_change_20 : decode cX3_change 20 = .ok (.iload 4, 2) := by decide +kernel
theorem dX3_change_22 : decode cX3_change 22 = .ok (.aload_n 0, 1) := by decide +kernel
theorem dX3_change_23 : decode cX3_change 23 = .ok (.getfield 13, 3) := by decide +kernel
theorem dX3_change_26 : decode cX3_change 26 = .ok (.iload_n 1, 1) := by decide +kernel
theorem dX3_change_27 : decode cX3_change 27 = .ok (.iaload, 1) := by decide +kernel
theorem dX3_change_28 : decode cX3_change 28 = .ok (.if_icmp .ge 52, 3) := by decide +kernel
theorem dX3_change_31 : decode cX3_change 31 = .ok (.aload_n 0, 1) := by decide +kernel
theorem dX3_change_32 : decode cX3_change 32 = .ok (.getfield 9, 3) := by decide +kernel
theorem dX3_change_35 : decode cX3_change 35 = .ok (.iload_n 1, 1) := by decide +kernel
theorem dX3_change_36 : decode cX3_change 36 = .ok (.iaload, 1) := by decide +kernel
theorem dX3_change_37 : decode cX3_change 37 = .ok (.iload 4, 2) := by decide +kernel
theorem dX3_change_39 : decode cX3_change 39 = .ok (.iload_n 3, 1) := by decide +kernel
theorem dX3_change_40 : decode cX3_change 40 = .ok (.imul, 1) := by decide +kernel
theorem dX3_change_41 : decode cX3_change 41 = .ok (.iadd, 1) := by decide +kernel
theorem dX3_change_42 : decode cX3_change 42 = .ok (.istore 5, 2) := by decide +kernel
theorem dX3_change_44 : decode cX3_change 44 = .ok (.aload_n 0, 1) := by decide +kernel
theorem dX3_change_45 : decode cX3_change 45 = .ok (.getfield 45, 3) := by decide +kernel
theorem dX3_change_48 : decode cX3_change 48 = .ok (.getfield 52, 3) := by decide +kernel
theorem dX3_change_51 : decode cX3_change 51 = .ok (.iload 5, 2) := by decide +kernel
theorem dX3_change_53 : decode cX3_change 53 = .ok (.iload_n 2, 1) := by decide +kernel
theorem dX3_change_54 : decode cX3_change 54 = .ok (.ifCond .eq 7, 3) := by decide +kernel
theorem dX3_change_57 : decode cX3_change 57 = .ok (.iconst (-1), 1) := by decide +kernel
theorem dX3_change_58 : decode cX3_change 58 = .ok (.goto 15, 3) := by decide +kernel
theorem dX3_change_61 : decode cX3_change 61 = .ok (.aload_n 0, 1) := by decide +kernel
theorem dX3_change_62 : decode cX3_change 62 = .ok (.getfield 45, 3) := by decide +kernel
theorem dX3_change_65 : decode cX3_change 65 = .ok (.getfield 52, 3) := by decide +kernel
theorem dX3_change_68 : decode cX3_change 68 = .ok (.iload 5, 2) := by decide +kernel
theorem dX3_change_70 : decode cX3_change 70 = .ok (.iaload, 1) := by decide +kernel
theorem dX3_change_71 : decode cX3_change 71 = .ok (.iconst 1, 1) := by decide +kernel
theorem dX3_change_72 : decode cX3_change 72 = .ok (.isub, 1) := by decide +kernel
theorem dX3_change_73 : decode cX3_change 73 = .ok (.iastore, 1) := by decide +kernel
theorem dX3_change_74 : decode cX3_change 74 = .ok (.iinc 4 1, 3) := by decide +kernel
theorem dX3_change_77 : decode cX3_change 77 = .ok (.goto (-57), 3) := by decide +kernel
theorem dX3_change_80 : decode cX3_change 80 = .ok (.return_, 1) := by decide +kernel
set_option maxRecDepth 20000 in
theorem ggX3_press_X3_isCell : GoodIn wsX3_press wsX3_isCell := goodIn_r _ [11, 12, 13, 10, 14] (by decide +kernel) (by decide +kernel)
set_option maxRecDepth 20000 in
theorem gX3_press_X3_isCell : GoodIn wsX3_press (va_wsS RX3 66 yX3_isCell wsX3_isCell) := goodIn_app (goodIn_of _ (by decide +kernel)) ggX3_press_X3_isCell
set_option maxRecDepth 20000 in
theorem ggX3_press_X3_no : GoodIn wsX3_press wsX3_no := goodIn_r _ [18, 1, 32, 33, 34, 35, 36, 37, 38, 39, 40, 41, 42, 43, 44, 45] (by decide +kernel) (by decide +kernel)
set_option maxRecDepth 20000 in
theorem gX3_press_X3_no : GoodIn wsX3_press (wsV RX3 70 RX3 yX3_no wsX3_no) := goodIn_app (goodIn_of _ (by decide +kernel)) ggX3_press_X3_no
set_option maxRecDepth 20000 in
theorem ggX3_press_X3_isIn : GoodIn wsX3_press wsX3_isIn := goodIn_r _ [14] (by decide +kernel) (by decide +kernel)
set_option maxRecDepth 20000 in
theorem gX3_press_X3_isIn : GoodIn wsX3_press (va_wsS RX3 59 yX3_isIn wsX3_isIn) := goodIn_app (goodIn_of _ (by decide +kernel)) ggX3_press_X3_isIn
set_option maxRecDepth 20000 in
theorem ggX3_press_X3_isColour : GoodIn wsX3_press wsX3_isColour := goodIn_r _ [21, 12, 13, 10, 14] (by decide +kernel) (by decide +kernel)
set_option maxRecDepth 20000 in
theorem gX3_press_X3_isColour : GoodIn wsX3_press (va_wsS RX3 74 yX3_isColour wsX3_isColour) := goodIn_app (goodIn_of _ (by decide +kernel)) ggX3_press_X3_isColour
set_option maxRecDepth 20000 in
theorem ggX3_press_X3_canLie : GoodIn wsX3_press wsX3_canLie := goodIn_r _ [25, 26, 27, 32, 33, 34, 35, 36, 37, 38, 39, 40, 41, 42, 43, 44, 45, 46, 47, 48] (by decide +kernel) (by decide +kernel)
set_option maxRecDepth 20000 in
theorem gX3_press_X3_canLie : GoodIn wsX3_press (wsV RX3 78 RX3 yX3_canLie wsX3_canLie) := goodIn_app (goodIn_of _ (by decide +kernel)) ggX3_press_X3_canLie
set_option maxRecDepth 20000 in
theorem ggX3_press_X3_coverBy : GoodIn wsX3_press wsX3_coverBy := goodIn_r _ [31, 5, 4, 27, 3, 32, 33, 34, 35, 36, 37, 38, 39, 40, 41, 42, 43, 44, 45] (by decide +kernel) (by decide +kernel)
set_option maxRecDepth 20000 in
theorem gX3_press_X3_coverBy : GoodIn wsX3_press (wsV RX3 82 RX3 yX3_coverBy wsX3_coverBy) := goodIn_app (goodIn_of _ (by decide +kernel)) ggX3_press_X3_coverBy
theorem dX3_press_0 : decode cX3_press 0 = .ok (.aload_n 0, 1) := by decide +kernel
theorem dX3_press_1 : decode cX3_press 1 = .ok (.iconst 0, 1) := by decide +kernel
theorem dX3_press_2 : decode cX3_press 2 = .ok (.putfield 55, 3) := by decide +kernel
theorem dX3_press_5 : decode cX3_press 5 = .ok (.iload_n 1, 1) := by decide +kernel
theorem dX3_press_6 : decode cX3_press 6 = .ok (.iload_n 2, 1) := by decide +kernel
theorem dX3_press_7 : decode cX3_press 7 = .ok (.invokestatic 66, 3) := by decide +kernel
theorem dX3_press_10 : decode cX3_press 10 = .ok (.ifCond .ne 9, 3) := by decide +kernel
theorem dX3_press_13 : decode cX3_press 13 = .ok (.aload_n 0, 1) := by decide +kernel
theorem dX3_press_14 : decode cX3_press 14 = .ok (.iconst 1, 1) := by decide +kernel
theorem dX3_press_15 : decode cX3_press 15 = .ok (.invokevirtual 70, 3) := by decide +kernel
theorem dX3_press_18 : decode cX3_press 18 = .ok (.ireturn, 1) := by decide +kernel
theorem dX3_press_19 : decode cX3_press 19 = .ok (.iload_n 3, 1) := by decide +kernel
theorem dX3_press_20 : decode cX3_press 20 = .ok (.iconst 1, 1) := by decide +kernel
theorem dX3_press_21 : decode cX3_press 21 = .ok (.iconst 3, 1) := by decide +kernel
theorem dX3_press_22 : decode cX3_press 22 = .ok (.invokestatic 59, 3) := by decide +kernel
theorem dX3_press_25 : decode cX3_press 25 = .ok (.ifCond .eq 19, 3) := by decide +kernel
theorem dX3_press_28 : decode cX3_press 28 = .ok (.iload 5, 2) := by decide +kernel
theorem dX3_press_30 : decode cX3_press 30 = .ok (.invokestatic 74, 3) := by decide +kernel
theorem dX3_press_33 : decode cX3_press 33 = .ok (.ifCond .eq 11, 3) := by decide +kernel
theorem dX3_press_36 : decode cX3_press 36 = .ok (.iload 6, 2) := by decide +kernel
theorem dX3_press_38 : decode cX3_press 38 = .ok (.invokestatic 74, 3) := by decide +kernel
theorem dX3_press_41 : decode cX3_press 41 = .ok (.ifCond .ne 9, 3) := by decide +kernel
theorem dX3_press_44 : decode cX3_press 44 = .ok (.aload_n 0, 1) := by decide +kernel
theorem dX3_press_45 : decode cX3_press 45 = .ok (.iconst 2, 1) := by decide +kernel
theorem dX3_press_46 : decode cX3_press 46 = .ok (.invokevirtual 70, 3) := by decide +kernel
theorem dX3_press_49 : decode cX3_press 49 = .ok (.ireturn, 1) := by decide +kernel
theorem dX3_press_50 : decode cX3_press 50 = .ok (.aload_n 0, 1) := by decide +kernel
theorem dX3_press_51 : decode cX3_press 51 = .ok (.getfield 63, 3) := by decide +kernel
theorem dX3_press_54 : decode cX3_press 54 = .ok (.bipush 100, 2) := by decide +kernel
theorem dX3_press_56 : decode cX3_press 56 = .ok (.if_icmp .eq 20, 3) := by decide +kernel
theorem dX3_press_59 : decode cX3_press 59 = .ok (.aload_n 0, 1) := by decide +kernel
theorem dX3_press_60 : decode cX3_press 60 = .ok (.bipush 10, 2) := by decide +kernel
theorem dX3_press_62 : decode cX3_press 62 = .ok (.iload_n 2, 1) := by decide +kernel
theorem dX3_press_63 : decode cX3_press 63 = .ok (.imul, 1) := by decide +kernel
theorem dX3_press_64 : decode cX3_press 64 = .ok (.iload_n 1, 1) := by decide +kernel
theorem dX3_press_65 : decode cX3_press 65 = .ok (.iadd, 1) := by decide +kernel
theorem dX3_press_66 : decode cX3_press 66 = .ok (.iload_n 3, 1) := by decide +kernel
theorem dX3_press_67 : decode cX3_press 67 = .ok (.iload 4, 2) := by decide +kernel
theorem dX3_press_69 : decode cX3_press 69 = .ok (.iconst (-1), 1) := by decide +kernel
theorem dX3_press_70 : decode cX3_press 70 = .ok (.invokevirtual 78, 3) := by decide +kernel
theorem dX3_press_73 : decode cX3_press 73 = .ok (.ifCond .ne 9, 3) := by decide +kernel
theorem dX3_press_76 : decode cX3_press 76 = .ok (.aload_n 0, 1) := by decide +kernel
theorem dX3_press_77 : decode cX3_press 77 = .ok (.iconst 3, 1) := by decide +kernel
theorem dX3_press_78 : decode cX3_press 78 = .ok (.invokevirtual 70, 3) := by decide +kernel
theorem dX3_press_81 : decode cX3_press 81 = .ok (.ireturn, 1) := by decide +kernel
theorem dX3_press_82 : decode cX3_press 82 = .ok (.aload_n 0, 1) := by decide +kernel
theorem dX3_press_83 : decode cX3_press 83 = .ok (.getfield 9, 3) := by decide +kernel
theorem dX3_press_86 : decode cX3_press 86 = .ok (.aload_n 0, 1) := by decide +kernel
theorem dX3_press_87 : decode cX3_press 87 = .ok (.getfield 63, 3) := by decide +kernel
theorem dX3_press_90 : decode cX3_press 90 = .ok (.bipush 10, 2) := by decide +kernel
theorem dX3_press_92 : decode cX3_press 92 = .ok (.iload_n 2, 1) := by decide +kernel
theorem dX3_press_93 : decode cX3_press 93 = .ok (.imul, 1) := by decide +kernel
theorem dX3_press_94 : decode cX3_press 94 = .ok (.iload_n 1, 1) := by decide +kernel
theorem dX3_press_95 : decode cX3_press 95 = .ok (.iadd, 1) := by decide +kernel
theorem dX3_press_96 : decode cX3_press 96 = .ok (.iastore, 1) := by decide +kernel
theorem dX3_press_97 : decode cX3_press 97 = .ok (.aload_n 0, 1) := by decide +kernel
theorem dX3_press_98 : decode cX3_press 98 = .ok (.getfield 13, 3) := by decide +kernel
theorem dX3_press_101 : decode cX3_press 101 = .ok (.aload_n 0, 1) := by decide +kernel
theorem dX3_press_102 : decode cX3_press 102 = .ok (.getfield 63, 3) := by decide +kernel
theorem dX3_press_105 : decode cX3_press 105 = .ok (.iload_n 3, 1) := by decide +kernel
theorem dX3_press_106 : decode cX3_press 106 = .ok (.iastore, 1) := by decide +kernel
theorem dX3_press_107 : decode cX3_press 107 = .ok (.aload_n 0, 1) := by decide +kernel
theorem dX3_press_108 : decode cX3_press 108 = .ok (.getfield 16, 3) := by decide +kernel
theorem dX3_press_111 : decode cX3_press 111 = .ok (.aload_n 0, 1) := by decide +kernel
theorem dX3_press_112 : decode cX3_press 112 = .ok (.getfield 63, 3) := by decide +kernel
theorem dX3_press_115 : decode cX3_press 115 = .ok (.iload 4, 2) := by decide +kernel
theorem dX3_press_117 : decode cX3_press 117 = .ok (.ifCond .eq 7, 3) := by decide +kernel
theorem dX3_press_120 : decode cX3_press 120 = .ok (.iconst 1, 1) := by decide +kernel
theorem dX3_press_121 : decode cX3_press 121 = .ok (.goto 4, 3) := by decide +kernel
theorem dX3_press_124 : decode cX3_press 124 = .ok (.iconst 0, 1) := by decide +kernel
theorem dX3_press_125 : decode cX3_press 125 = .ok (.iastore, 1) := by decide +kernel
theorem dX3_press_126 : decode cX3_press 126 = .ok (.aload_n 0, 1) := by decide +kernel
theorem dX3_press_127 : decode cX3_press 127 = .ok (.getfield 19, 3) := by decide +kernel
theorem dX3_press_130 : decode cX3_press 130 = .ok (.aload_n 0, 1) := by decide +kernel
theorem dX3_press_131 : decode cX3_press 131 = .ok (.getfield 63, 3) := by decide +kernel
theorem dX3_press_134 : decode cX3_press 134 = .ok (.iload 5, 2) := by decide +kernel
theorem dX3_press_136 : decode cX3_press 136 = .ok (.iastore, 1) := by decide +kernel
theorem dX3_press_137 : decode cX3_press 137 = .ok (.aload_n 0, 1) := by decide +kernel
theorem dX3_press_138 : decode cX3_press 138 = .ok (.getfield 22, 3) := by decide +kernel
theorem dX3_press_141 : decode cX3_press 141 = .ok (.aload_n 0, 1) := by decide +kernel
theorem dX3_press_142 : decode cX3_press 142 = .ok (.getfield 63, 3) := by decide +kernel
theorem dX3_press_145 : decode cX3_press 145 = .ok (.iload 6, 2) := by decide +kernel
theorem dX3_press_147 : decode cX3_press 147 = .ok (.iastore, 1) := by decide +kernel
theorem dX3_press_148 : decode cX3_press 148 = .ok (.aload_n 0, 1) := by decide +kernel
theorem dX3_press_149 : decode cX3_press 149 = .ok (.aload_n 0, 1) := by decide +kernel
theorem dX3_press_150 : decode cX3_press 150 = .ok (.getfield 63, 3) := by decide +kernel
theorem dX3_press_153 : decode cX3_press 153 = .ok (.aload_n 0, 1) := by decide +kernel
theorem dX3_press_154 : decode cX3_press 154 = .ok (.getfield 63, 3) := by decide +kernel
theorem dX3_press_157 : decode cX3_press 157 = .ok (.invokevirtual 82, 3) := by decide +kernel
theorem dX3_press_160 : decode cX3_press 160 = .ok (.aload_n 0, 1) := by decide +kernel
theorem dX3_press_161 : decode cX3_press 161 = .ok (.dup, 1) := by decide +kernel
theorem dX3_press_162 : decode cX3_press 162 = .ok (.getfield 63, 3) := by decide +kernel
theorem dX3_press_165 : decode cX3_press 165 = .ok (.iconst 1, 1) := by decide +kernel
theorem dX3_press_166 : decode cX3_press 166 = .ok (.iadd, 1) := by decide +kernel
theorem dX3_press_167 : decode cX3_press 167 = .ok (.putfield 63, 3) := by decide +kernel
theorem dX3_press_170 : decode cX3_press 170 = .ok (.aload_n 0, 1) := by decide +kernel
theorem dX3_press_171 : decode cX3_press 171 = .ok (.getfield 63, 3) := by decide +kernel
theorem dX3_press_174 : decode cX3_press 174 = .ok (.iconst 1, 1) := by decide +kernel
theorem dX3_press_175 : decode cX3_press 175 = .ok (.isub, 1) := by decide +kernel
theorem dX3_press_176 : decode cX3_press 176 = .ok (.ireturn, 1) := by decide +kernel
theorem dX3_swap_0 : decode cX3_swap 0 = .ok (.aload_n 0, 1) := by decide +kernel
theorem dX3_swap_1 : decode cX3_swap 1 = .ok (.getfield 19, 3) := by decide +kernel
theorem dX3_swap_4 : decode cX3_swap 4 = .ok (.iload_n 1, 1) := by decide +kernel
theorem dX3_swap_5 : decode cX3_swap 5 = .ok (.iaload, 1) := by decide +kernel
theorem dX3_swap_6 : decode cX3_swap 6 = .ok (.istore_n 2, 1) := by decide +kernel
theorem dX3_swap_7 : decode cX3_swap 7 = .ok (.aload_n 0, 1) := by decide +kernel
theorem dX3_swap_8 : decode cX3_swap 8 = .ok (.getfield 19, 3) := by decide +kernel
theorem dX3_swap_11 : decode cX3_swap 11 = .ok (.iload_n 1, 1) := by decide +kernel
theorem dX3_swap_12 : decode cX3_swap 12 = .ok (.aload_n 0, 1) := by decide +kernel
theorem dX3_swap_13 : decode cX3_swap 13 = .ok (.getfield 22, 3) := by decide +kernel
theorem dX3_swap_16 : decode cX3_swap 16 = .ok (.iload_n 1, 1) := by decide +kernel
theorem dX3_swap_17 : decode cX3_swap 17 = .ok (.iaload, 1) := by decide +kernel
theorem dX3_swap_18 : decode cX3_swap 18 = .ok (.iastore, 1) := by decide +kernel
theorem dX3_swap_19 : decode cX3_swap 19 = .ok (.aload_n 0, 1) := by decide +kernel
theorem dX3_swap_20 : decode cX3_swap 20 = .ok (.getfield 22, 3) := by decide +kernel
theorem dX3_swap_23 : decode cX3_swap 23 = .ok (.iload_n 1, 1) := by decide +kernel
theorem dX3_swap_24 : decode cX3_swap 24 = .ok (.iload_n 2, 1) := by decide +kernel
theorem dX3_swap_25 : decode cX3_swap 25 = .ok (.iastore, 1) := by decide +kernel
theorem dX3_swap_26 : decode cX3_swap 26 = .ok (.return_, 1) := by decide +kernel
set_option maxRecDepth 20000 in
theorem ggX3_flip_X3_isPiece : GoodIn wsX3_flip wsX3_isPiece := goodIn_r _ [8, 9, 10, 11, 7, 12, 36, 37, 38, 39, 40, 41, 42, 43, 44, 45, 46, 47, 48, 49] (by decide +kernel) (by decide +kernel)
set_option maxRecDepth 20000 in
theorem gX3_flip_X3_isPiece : GoodIn wsX3_flip (wsV RX3 86 RX3 yX3_isPiece wsX3_isPiece) := goodIn_app (goodIn_of _ (by decide +kernel)) ggX3_flip_X3_isPiece
set_option maxRecDepth 20000 in
theorem ggX3_flip_X3_no : GoodIn wsX3_flip wsX3_no := goodIn_r _ [16, 1, 36, 37, 38, 39, 40, 41, 42, 43, 44, 45, 46, 47, 48, 49] (by decide +kernel) (by decide +kernel)
set_option maxRecDepth 20000 in
theorem gX3_flip_X3_no : GoodIn wsX3_flip (wsV RX3 70 RX3 yX3_no wsX3_no) := goodIn_app (goodIn_of _ (by decide +kernel)) ggX3_flip_X3_no
set_option maxRecDepth 20000 in
theorem ggX3_flip_X2_isLoose : GoodIn wsX3_flip wsX2_isLoose := goodIn_r _ [21, 22, 23, 50, 51, 52, 36, 37, 38, 39, 40, 41, 42, 43, 44, 45, 46, 47, 48, 49] (by decide +kernel) (by decide +kernel)
set_option maxRecDepth 20000 in
theorem gX3_flip_X2_isLoose : GoodIn wsX3_flip (wsV RX3 89 RX2 yX2_isLoose wsX2_isLoose) := goodIn_app (goodIn_of _ (by decide +kernel)) ggX3_flip_X2_isLoose
set_option maxRecDepth 20000 in
theorem ggX3_flip_X3_swap : GoodIn wsX3_flip wsX3_swap := goodIn_r _ [27, 3, 28, 36, 37, 38, 39, 40, 41, 42, 43, 44, 45, 46, 47, 48, 49] (by decide +kernel) (by decide +kernel)
set_option maxRecDepth 20000 in
theorem gX3_flip_X3_swap : GoodIn wsX3_flip (wsV RX3 92 RX3 yX3_swap wsX3_swap) := goodIn_app (goodIn_of _ (by decide +kernel)) ggX3_flip_X3_swap
set_option maxRecDepth 20000 in
theorem ggX3_flip_X3_change : GoodIn wsX3_flip wsX3_change := goodIn_r _ [32, 33, 34, 35, 2, 36, 37, 38, 39, 40, 41, 42, 43, 44, 45, 46, 47, 48, 49, 50, 51, 52] (by decide +kernel) (by decide +kernel)
set_option maxRecDepth 20000 in
theorem gX3_flip_X3_change : GoodIn wsX3_flip (wsV RX3 96 RX3 yX3_change wsX3_change) := goodIn_app (goodIn_of _ (by decide +kernel)) ggX3_flip_X3_change
