theorem dX0_init_0 : decode cX0_init 0 = .ok (.aload_n 0, 1) := by decide +kernel
theorem dX0_init_1 : decode cX0_init 1 = .ok (.invokespecial 1, 3) := by decide +kernel
theorem dX0_init_4 : decode cX0_init 4 = .ok (.aload_n 0, 1) := by decide +kernel
theorem dX0_init_5 : decode cX0_init 5 = .ok (.iload_n 1, 1) := by decide +kernel
theorem dX0_init_6 : decode cX0_init 6 = .ok (.putfield 7, 3) := by decide +kernel
theorem dX0_init_9 : decode cX0_init 9 = .ok (.aload_n 0, 1) := by decide +kernel
theorem dX0_init_10 : decode cX0_init 10 = .ok (.iload_n 2, 1) := by decide +kernel
theorem dX0_init_11 : decode cX0_init 11 = .ok (.putfield 13, 3) := by decide +kernel
theorem dX0_init_14 : decode cX0_init 14 = .ok (.aload_n 0, 1) := by decide +kernel
theorem dX0_init_15 : decode cX0_init 15 = .ok (.iload_n 3, 1) := by decide +kernel
theorem dX0_init_16 : decode cX0_init 16 = .ok (.putfield 16, 3) := by decide +kernel
theorem dX0_init_19 : decode cX0_init 19 = .ok (.aload_n 0, 1) := by decide +kernel
theorem dX0_init_20 : decode cX0_init 20 = .ok (.iload 4, 2) := by decide +kernel
theorem dX0_init_22 : decode cX0_init 22 = .ok (.putfield 19, 3) := by decide +kernel
theorem dX0_init_25 : decode cX0_init 25 = .ok (.aload_n 0, 1) := by decide +kernel
theorem dX0_init_26 : decode cX0_init 26 = .ok (.iload 5, 2) := by decide +kernel
theorem dX0_init_28 : decode cX0_init 28 = .ok (.putfield 23, 3) := by decide +kernel
theorem dX0_init_31 : decode cX0_init 31 = .ok (.aload_n 0, 1) := by decide +kernel
theorem dX0_init_32 : decode cX0_init 32 = .ok (.iload 6, 2) := by decide +kernel
theorem dX0_init_34 : decode cX0_init 34 = .ok (.putfield 26, 3) := by decide +kernel
theorem dX0_init_37 : decode cX0_init 37 = .ok (.return_, 1) := by decide +kernel
theorem dX0_shownColour_0 : decode cX0_shownColour 0 = .ok (.aload_n 0, 1) := by decide +kernel
theorem dX0_shownColour_1 : decode cX0_shownColour 1 = .ok (.getfield 29, 3) := by decide +kernel
theorem dX0_shownColour_4 : decode cX0_shownColour 4 = .ok (.ifCond .eq 10, 3) := by decide +kernel
theorem dX0_shownColour_7 : decode cX0_shownColour 7 = .ok (.aload_n 0, 1) := by decide +kernel
theorem dX0_shownColour_8 : decode cX0_shownColour 8 = .ok (.getfield 26, 3) := by decide +kernel
theorem dX0_shownColour_11 : decode cX0_shownColour 11 = .ok (.goto 7, 3) := by decide +kernel
theorem dX0_shownColour_14 : decode cX0_shownColour 14 = .ok (.aload_n 0, 1) := by decide +kernel
theorem dX0_shownColour_15 : decode cX0_shownColour 15 = .ok (.getfield 23, 3) := by decide +kernel
theorem dX0_shownColour_18 : decode cX0_shownColour 18 = .ok (.ireturn, 1) := by decide +kernel
theorem dX0_otherColour_0 : decode cX0_otherColour 0 = .ok (.aload_n 0, 1) := by decide +kernel
theorem dX0_otherColour_1 : decode cX0_otherColour 1 = .ok (.getfield 29, 3) := by decide +kernel
theorem dX0_otherColour_4 : decode cX0_otherColour 4 = .ok (.ifCond .eq 10, 3) := by decide +kernel
theorem dX0_otherColour_7 : decode cX0_otherColour 7 = .ok (.aload_n 0, 1) := by decide +kernel
theorem dX0_otherColour_8 : decode cX0_otherColour 8 = .ok (.getfield 23, 3) := by decide +kernel
theorem dX0_otherColour_11 : decode cX0_otherColour 11 = .ok (.goto 7, 3) := by decide +kernel
theorem dX0_otherColour_14 : decode cX0_otherColour 14 = .ok (.aload_n 0, 1) := by decide +kernel
theorem dX0_otherColour_15 : decode cX0_otherColour 15 = .ok (.getfield 26, 3) := by decide +kernel
theorem dX0_otherColour_18 : decode cX0_otherColour 18 = .ok (.ireturn, 1) := by decide +kernel
set_option maxRecDepth 20000 in
theorem ggX0_cellAt_X1_cellOf : GoodIn wsX0_cellAt wsX1_cellOf := goodIn_r _ [6] (by decide +kernel) (by decide +kernel)
set_option maxRecDepth 20000 in
theorem gX0_cellAt_X1_cellOf_n32 : GoodIn wsX0_cellAt (wsX1_cellOf) := ggX0_cellAt_X1_cellOf
theorem dX0_cellAt_0 : decode cX0_cellAt 0 = .ok (.aload_n 0, 1) := by decide +kernel
theorem dX0_cellAt_1 : decode cX0_cellAt 1 = .ok (.getfield 19, 3) := by decide +kernel
theorem dX0_cellAt_4 : decode cX0_cellAt 4 = .ok (.ifCond .eq 12, 3) := by decide +kernel
theorem dX0_cellAt_7 : decode cX0_cellAt 7 = .ok (.aload_n 0, 1) := by decide +kernel
theorem dX0_cellAt_8 : decode cX0_cellAt 8 = .ok (.getfield 7, 3) := by decide +kernel
theorem dX0_cellAt_11 : decode cX0_cellAt 11 = .ok (.iload_n 1, 1) := by decide +kernel
theorem dX0_cellAt_12 : decode cX0_cellAt 12 = .ok (.iadd, 1) := by decide +kernel
theorem dX0_cellAt_13 : decode cX0_cellAt 13 = .ok (.goto 7, 3) := by decide +kernel
theorem dX0_cellAt_16 : decode cX0_cellAt 16 = .ok (.aload_n 0, 1) := by decide +kernel
theorem dX0_cellAt_17 : decode cX0_cellAt 17 = .ok (.getfield 7, 3) := by decide +kernel
theorem dX0_cellAt_20 : decode cX0_cellAt 20 = .ok (.aload_n 0, 1) := by decide +kernel
theorem dX0_cellAt_21 : decode cX0_cellAt 21 = .ok (.getfield 19, 3) := by decide +kernel
theorem dX0_cellAt_24 : decode cX0_cellAt 24 = .ok (.ifCond .eq 10, 3) := by decide +kernel
theorem dX0_cellAt_27 : decode cX0_cellAt 27 = .ok (.aload_n 0, 1) := by decide +kernel
theorem dX0_cellAt_28 : decode cX0_cellAt 28 = .ok (.getfield 13, 3) := by decide +kernel
theorem dX0_cellAt_31 : decode cX0_cellAt 31 = .ok (.goto 9, 3) := by decide +kernel
theorem dX0_cellAt_34 : decode cX0_cellAt 34 = .ok (.aload_n 0, 1) := by decide +kernel
theorem dX0_cellAt_35 : decode cX0_cellAt 35 = .ok (.getfield 13, 3) := by decide +kernel
theorem dX0_cellAt_38 : decode cX0_cellAt 38 = .ok (.iload_n 1, 1) := by decide +kernel
theorem dX0_cellAt_39 : decode cX0_cellAt 39 = .ok (.iadd, 1) := by decide +kernel
theorem dX0_cellAt_40 : decode cX0_cellAt 40 = .ok (.invokestatic 32, 3) := by decide +kernel
theorem dX0_cellAt_43 : decode cX0_cellAt 43 = .ok (.ireturn, 1) := by decide +kernel
theorem dX1_init_0 : decode cX1_init 0 = .ok (.aload_n 0, 1) := by decide +kernel
theorem dX1_init_1 : decode cX1_init 1 = .ok (.invokespecial 1, 3) := by decide +kernel
theorem dX1_init_4 : decode cX1_init 4 = .ok (.aload_n 0, 1) := by decide +kernel
theorem dX1_init_5 : decode cX1_init 5 = .ok (.bipush 80, 2) := by decide +kernel
theorem dX1_init_7 : decode cX1_init 7 = .ok (.newarray .int, 2) := by decide +kernel
theorem dX1_init_9 : decode cX1_init 9 = .ok (.putfield 9, 3) := by decide +kernel
theorem dX1_init_12 : decode cX1_init 12 = .ok (.aload_n 0, 1) := by decide +kernel
theorem dX1_init_13 : decode cX1_init 13 = .ok (.bipush 80, 2) := by decide +kernel
theorem dX1_init_15 : decode cX1_init 15 = .ok (.newarray .int, 2) := by decide +kernel
theorem dX1_init_17 : decode cX1_init 17 = .ok (.putfield 13, 3) := by decide +kernel
theorem dX1_init_20 : decode cX1_init 20 = .ok (.aload_n 0, 1) := by decide +kernel
theorem dX1_init_21 : decode cX1_init 21 = .ok (.bipush 8, 2) := by decide +kernel
theorem dX1_init_23 : decode cX1_init 23 = .ok (.newarray .int, 2) := by decide +kernel
theorem dX1_init_25 : decode cX1_init 25 = .ok (.putfield 16, 3) := by decide +kernel
theorem dX1_init_28 : decode cX1_init 28 = .ok (.aload_n 0, 1) := by decide +kernel
theorem dX1_init_29 : decode cX1_init 29 = .ok (.bipush 100, 2) := by decide +kernel
theorem dX1_init_31 : decode cX1_init 31 = .ok (.anewarray 19, 3) := by decide +kernel
theorem dX1_init_34 : decode cX1_init 34 = .ok (.putfield 21, 3) := by decide +kernel
theorem dX1_init_37 : decode cX1_init 37 = .ok (.aload_n 0, 1) := by decide +kernel
theorem dX1_init_38 : decode cX1_init 38 = .ok (.bipush 80, 2) := by decide +kernel
theorem dX1_init_40 : decode cX1_init 40 = .ok (.newarray .int, 2) := by decide +kernel
theorem dX1_init_42 : decode cX1_init 42 = .ok (.putfield 25, 3) := by decide +kernel
theorem dX1_init_45 : decode cX1_init 45 = .ok (.aload_n 0, 1) := by decide +kernel
theorem dX1_init_46 : decode cX1_init 46 = .ok (.bipush 80, 2) := by decide +kernel
theorem dX1_init_48 : decode cX1_init 48 = .ok (.newarray .int, 2) := by decide +kernel
theorem dX1_init_50 : decode cX1_init 50 = .ok (.putfield 28, 3) := by decide +kernel
theorem dX1_init_53 : decode cX1_init 53 = .ok (.aload_n 0, 1) := by decide +kernel
theorem dX1_init_54 : decode cX1_init 54 = .ok (.bipush 80, 2) := by decide +kernel
theorem dX1_init_56 : decode cX1_init 56 = .ok (.newarray .int, 2) := by decide +kernel
theorem dX1_init_58 : decode cX1_init 58 = .ok (.putfield 31, 3) := by decide +kernel
theorem dX1_init_61 : decode cX1_init 61 = .ok (.iconst 0, 1) := by decide +kernel
theorem dX1_init_62 : decode cX1_init 62 = .ok (.istore_n 1, 1) := by decide +kernel
theorem dX1_init_63 : decode cX1_init 63 = .ok (.iload_n 1, 1) := by decide +kernel
theorem dX1_init_64 : decode cX1_init 64 = .ok (.bipush 80, 2) := by decide +kernel
theorem dX1_init_66 : decode cX1_init 66 = .ok (.if_icmp .ge 23, 3) := by decide +kernel
theorem dX1_init_69 : decode cX1_init 69 = .ok (.aload_n 0, 1) := by decide +kernel
theorem dX1_init_70 : decode cX1_init 70 = .ok (.getfield 9, 3) := by decide +kernel
theorem dX1_init_73 : decode cX1_init 73 = .ok (.iload_n 1, 1) := by decide +kernel
theorem dX1_init_74 : decode cX1_init 74 = .ok (.iconst (-1), 1) := by decide +kernel
theorem dX1_init_75 : decode cX1_init 75 = .ok (.iastore, 1) := by decide +kernel
theorem dX1_init_76 : decode cX1_init 76 = .ok (.aload_n 0, 1) := by decide +kernel
theorem dX1_init_77 : decode cX1_init 77 = .ok (.getfield 13, 3) := by decide +kernel
theorem dX1_init_80 : decode cX1_init 80 = .ok (.iload_n 1, 1) := by decide +kernel
theorem dX1_init_81 : decode cX1_init 81 = .ok (.iconst (-1), 1) := by decide +kernel
theorem dX1_init_82 : decode cX1_init 82 = .ok (.iastore, 1) := by decide +kernel
theorem dX1_init_83 : decode cX1_init 83 = .ok (.iinc 1 1, 3) := by decide +kernel
theorem dX1_init_86 : decode cX1_init 86 = .ok (.goto (-23), 3) := by decide +kernel
theorem dX1_init_89 : decode cX1_init 89 = .ok (.iconst 0, 1) := by decide +kernel
theorem dX1_init_90 : decode cX1_init 90 = .ok (.istore_n 1, 1) := by decide +kernel
theorem dX1_init_91 : decode cX1_init 91 = .ok (.iload_n 1, 1) := by decide +kernel
theorem dX1_init_92 : decode cX1_init 92 = .ok (.bipush 8, 2) := by decide +kernel
theorem dX1_init_94 : decode cX1_init 94 = .ok (.if_icmp .ge 16, 3) := by decide +kernel
theorem dX1_init_97 : decode cX1_init 97 = .ok (.aload_n 0, 1) := by decide +kernel
theorem dX1_init_98 : decode cX1_init 98 = .ok (.getfield 16, 3) := by decide +kernel
theorem dX1_init_101 : decode cX1_init 101 = .ok (.iload_n 1, 1) := by decide +kernel
theorem dX1_init_102 : decode cX1_init 102 = .ok (.iconst 1, 1) := by decide +kernel
theorem dX1_init_103 : decode cX1_init 103 = .ok (.iastore, 1) := by decide +kernel
theorem dX1_init_104 : decode cX1_init 104 = .ok (.iinc 1 1, 3) := by decide +kernel
theorem dX1_init_107 : decode cX1_init 107 = .ok (.goto (-16), 3) := by decide +kernel
theorem dX1_init_110 : decode cX1_init 110 = .ok (.return_, 1) := by decide +kernel
set_option maxRecDepth 20000 in
theorem ggX1_spread_X1_refuseOutside : GoodIn wsX1_spread wsX1_refuseOutside := goodIn_ca (goodIn_r _ [8, 9, 10, 11, 12, 7, 13, 14, 15, 16] (by decide +kernel) (by decide +kernel)) (goodIn_sub (fun _ h => List.mem_cons_of_mem _ (List.mem_append_right _ h)) (by decide +kernel))
set_option maxRecDepth 20000 in
theorem gX1_spread_X1_refuseOutside : GoodIn wsX1_spread (va_wsS RX1 34 yX1_refuseOutside wsX1_refuseOutside) := goodIn_app (goodIn_of _ (by decide +kernel)) ggX1_spread_X1_refuseOutside
set_option maxRecDepth 20000 in
theorem ggX1_spread_X1_within : GoodIn wsX1_spread wsX1_within := goodIn_r _ [16] (by decide +kernel) (by decide +kernel)
set_option maxRecDepth 20000 in
theorem gX1_spread_X1_within : GoodIn wsX1_spread (va_wsS RX1 38 yX1_within wsX1_within) := goodIn_app (goodIn_of _ (by decide +kernel)) ggX1_spread_X1_within
set_option maxRecDepth 20000 in
theorem ggX1_spread_X1_cellOf : GoodIn wsX1_spread wsX1_cellOf := goodIn_r _ [19] (by decide +kernel) (by decide +kernel)
set_option maxRecDepth 20000 in
theorem gX1_spread_X1_cellOf : GoodIn wsX1_spread (va_wsS RX1 49 yX1_cellOf wsX1_cellOf) := goodIn_app (goodIn_of _ (by decide +kernel)) ggX1_spread_X1_cellOf
set_option maxRecDepth 20000 in
theorem ggX1_spread_X1_at : GoodIn wsX1_spread wsX1_at := goodIn_r _ [22, 14, 15, 7, 16] (by decide +kernel) (by decide +kernel)
set_option maxRecDepth 20000 in
theorem gX1_spread_X1_at : GoodIn wsX1_spread (va_wsS RX1 53 yX1_at wsX1_at) := goodIn_app (goodIn_of _ (by decide +kernel)) ggX1_spread_X1_at
set_option maxRecDepth 20000 in
theorem ggX1_spread_X1_put : GoodIn wsX1_spread wsX1_put := goodIn_r _ [25, 14, 15, 7, 16] (by decide +kernel) (by decide +kernel)
set_option maxRecDepth 20000 in
theorem gX1_spread_X1_put : GoodIn wsX1_spread (va_wsS RX1 57 yX1_put wsX1_put) := goodIn_app (goodIn_of _ (by decide +kernel)) ggX1_spread_X1_put
theorem dX1_spread_0 : decode cX1_spread 0 = .ok (.iload_n 1, 1) := by decide +kernel
theorem dX1_spread_1 : decode cX1_spread 1 = .ok (.iload_n 2, 1) := by decide +kernel
theorem dX1_spread_2 : decode cX1_spread 2 = .ok (.invokestatic 34, 3) := by decide +kernel
theorem dX1_spread_5 : decode cX1_spread 5 = .ok (.iload_n 3, 1) := by decide +kernel
theorem dX1_spread_6 : decode cX1_spread 6 = .ok (.iconst 1, 1) := by decide +kernel
theorem dX1_spread_7 : decode cX1_spread 7 = .ok (.bipush 10, 2) := by decide +kernel
theorem dX1_spread_9 : decode cX1_spread 9 = .ok (.iload_n 1, 1) := by decide +kernel
theorem dX1_spread_10 : decode cX1_spread 10 = .ok (.isub, 1) := by decide +kernel
theorem dX1_spread_11 : decode cX1_spread 11 = .ok (.invokestatic 38, 3) := by decide +kernel
theorem dX1_spread_14 : decode cX1_spread 14 = .ok (.ifCond .eq 16, 3) := by decide +kernel
theorem dX1_spread_17 : decode cX1_spread 17 = .ok (.iload 4, 2) := by decide +kernel
theorem dX1_spread_19 : decode cX1_spread 19 = .ok (.iconst 1, 1) := by decide +kernel
theorem dX1_spread_20 : decode cX1_spread 20 = .ok (.bipush 8, 2) := by decide +kernel
theorem dX1_spread_22 : decode cX1_spread 22 = .ok (.iload_n 2, 1) := by decide +kernel
theorem dX1_spread_23 : decode cX1_spread 23 = .ok (.isub, 1) := by decide +kernel
theorem dX1_spread_24 : decode cX1_spread 24 = .ok (.invokestatic 38, 3) := by decide +kernel
theorem dX1_spread_27 : decode cX1_spread 27 = .ok (.ifCond .ne 13, 3) := by decide +kernel
theorem dX1_spread_30 : decode cX1_spread 30 = .ok (.new 42, 3) := by decide +kernel
theorem dX1_spread_33 : decode cX1_spread 33 = .ok (.dup, 1) := by decide +kernel
theorem dX1_spread_34 : decode cX1_spread 34 = .ok (.ldc 44, 2) := by decide +kernel
theorem dX1_spread_36 : decode cX1_spread 36 = .ok (.invokespecial 46, 3) := by decide +kernel
theorem dX1_spread_39 : decode cX1_spread 39 = .ok (.athrow, 1) := by decide +kernel
theorem dX1_spread_40 : decode cX1_spread 40 = .ok (.iconst 0, 1) := by decide +kernel
theorem dX1_spread_41 : decode cX1_spread 41 = .ok (.istore 5, 2) := by decide +kernel
theorem dX1_spread_43 : decode cX1_spread 43 = .ok (.iconst 0, 1) := by decide +kernel
theorem dX1_spread_44 : decode cX1_spread 44 = .ok (.istore 6, 2) := by decide +kernel
theorem dX1_spread_46 : decode cX1_spread 46 = .ok (.iload 6, 2) := by decide +kernel
theorem dX1_spread_48 : decode cX1_spread 48 = .ok (.iload 4, 2) := by decide +kernel
theorem dX1_spread_50 : decode cX1_spread 50 = .ok (.if_icmp .ge 64, 3) := by decide +kernel
theorem dX1_spread_53 : decode cX1_spread 53 = .ok (.iconst 0, 1) := by decide +kernel
theorem dX1_spread_54 : decode cX1_spread 54 = .ok (.istore 7, 2) := by decide +kernel
theorem dX1_spread_56 : decode cX1_spread 56 = .ok (.iload 7, 2) := by decide +kernel
theorem dX1_spread_58 : decode cX1_spread 58 = .ok (.iload_n 3, 1) := by decide +kernel
theorem dX1_spread_59 : decode cX1_spread 59 = .ok (.if_icmp .ge 49, 3) := by decide +kernel
theorem dX1_spread_62 : decode cX1_spread 62 = .ok (.iload_n 1, 1) := by decide +kernel
theorem dX1_spread_63 : decode cX1_spread 63 = .ok (.iload 7, 2) := by decide +kernel
theorem dX1_spread_65 : decode cX1_spread 65 = .ok (.iadd, 1) := by decide +kernel
theorem dX1_spread_66 : decode cX1_spread 66 = .ok (.iload_n 2, 1) := by decide +kernel
theorem dX1_spread_67 : decode cX1_spread 67 = .ok (.iload 6, 2) := by decide +kernel
theorem dX1_spread_69 : decode cX1_spread 69 = .ok (.iadd, 1) := by decide +kernel
theorem dX1_spread_70 : decode cX1_spread 70 = .ok (.invokestatic 49, 3) := by decide +kernel
theorem dX1_spread_73 : decode cX1_spread 73 = .ok (.istore 8, 2) := by decide +kernel
theorem dX1_spread_75 : decode cX1_spread 75 = .ok (.aload_n 0, 1) := by decide +kernel
theorem dX1_spread_76 : decode cX1_spread 76 = .ok (.getfield 13, 3) := by decide +kernel
theorem dX1_spread_79 : decode cX1_spread 79 = .ok (.iload 8, 2) := by decide +kernel
theorem dX1_spread_81 : decode cX1_spread 81 = .ok (.invokestatic 53, 3) := by decide +kernel
theorem dX1_spread_84 : decode cX1_spread 84 = .ok (.iconst (-1), 1) := by decide +kernel
theorem dX1_spread_85 : decode cX1_spread 85 = .ok (.if_icmp .ne 17, 3) := by decide +kernel
theorem dX1_spread_88 : decode cX1_spread 88 = .ok (.aload_n 0, 1) := by decide +kernel
theorem dX1_spread_89 : decode cX1_spread 89 = .ok (.getfield 9, 3) := by decide +kernel
theorem dX1_spread_92 : decode cX1_spread 92 = .ok (.iload 8, 2) := by decide +kernel
theorem dX1_spread_94 : decode cX1_spread 94 = .ok (.bipush 12, 2) := by decide +kernel
theorem dX1_spread_96 : decode cX1_spread 96 = .ok (.invokestatic 57, 3) := by decide +kernel
theorem dX1_spread_99 : decode cX1_spread 99 = .ok (.iinc 5 1, 3) := by decide +kernel
theorem dX1_spread_102 : decode cX1_spread 102 = .ok (.iinc 7 1, 3) := by decide +kernel
theorem dX1_spread_105 : decode cX1_spread 105 = .ok (.goto (-49), 3) := by decide +kernel
theorem dX1_spread_108 : decode cX1_spread 108 = .ok (.iinc 6 1, 3) := by decide +kernel
theorem dX1_spread_111 : decode cX1_spread 111 = .ok (.goto (-65), 3) := by decide +kernel
theorem dX1_spread_114 : decode cX1_spread 114 = .ok (.iload 5, 2) := by decide +kernel
theorem dX1_spread_116 : decode cX1_spread 116 = .ok (.ireturn, 1) := by decide +kernel
set_option maxRecDepth 20000 in
theorem ggX1_setSun_X1_within : GoodIn wsX1_setSun wsX1_within := goodIn_r _ [9] (by decide +kernel) (by decide +kernel)
set_option maxRecDepth 20000 in
theorem gX1_setSun_X1_within : GoodIn wsX1_setSun (va_wsS RX1 38 yX1_within wsX1_within) := goodIn_app (goodIn_of _ (by decide +kernel)) ggX1_setSun_X1_within
set_option maxRecDepth 20000 in
theorem ggX1_setSun_X1_at : GoodIn wsX1_setSun wsX1_at := goodIn_r _ [12, 6, 7, 8, 9] (by decide +kernel) (by decide +kernel)
set_option maxRecDepth 20000 in
theorem gX1_setSun_X1_at : GoodIn wsX1_setSun (va_wsS RX1 53 yX1_at wsX1_at) := goodIn_app (goodIn_of _ (by decide +kernel)) ggX1_setSun_X1_at
set_option maxRecDepth 20000 in
theorem ggX1_setSun_X1_put : GoodIn wsX1_setSun wsX1_put := goodIn_r _ [15, 6, 7, 8, 9] (by decide +kernel) (by decide +kernel)
set_option maxRecDepth 20000 in
theorem gX1_setSun_X1_put : GoodIn wsX1_setSun (va_wsS RX1 57 yX1_put wsX1_put) := goodIn_app (goodIn_of _ (by decide +kernel)) ggX1_setSun_X1_put
theorem dX1_setSun_0 : decode cX1_setSun 0 = .ok (.iload_n 1, 1) := by decide +kernel
theorem dX1_setSun_1 : decode cX1_setSun 1 = .ok (.iconst 0, 1) := by decide +kernel
theorem dX1_setSun_2 : decode cX1_setSun 2 = .ok (.bipush 7, 2) := by decide +kernel
theorem dX1_setSun_4 : decode cX1_setSun 4 = .ok (.invokestatic 38, 3) := by decide +kernel
theorem dX1_setSun_7 : decode cX1_setSun 7 = .ok (.ifCond .ne 13, 3) := by decide +kernel
theorem dX1_setSun_10 : decode cX1_setSun 10 = .ok (.new 61, 3) := by decide +kernel
theorem dX1_setSun_13 : decode cX1_setSun 13 = .ok (.dup, 1) := by decide +kernel
theorem dX1_setSun_14 : decode cX1_setSun 14 = .ok (.ldc 63, 2) := by decide +kernel
theorem dX1_setSun_16 : decode cX1_setSun 16 = .ok (.invokespecial 65, 3) := by decide +kernel
theorem dX1_setSun_19 : decode cX1_setSun 19 = .ok (.athrow, 1) := by decide +kernel
theorem dX1_setSun_20 : decode cX1_setSun 20 = .ok (.iload_n 2, 1) := by decide +kernel
theorem dX1_setSun_21 : decode cX1_setSun 21 = .ok (.iconst 0, 1) := by decide +kernel
theorem dX1_setSun_22 : decode cX1_setSun 22 = .ok (.iconst 4, 1) := by decide +kernel
theorem dX1_setSun_23 : decode cX1_setSun 23 = .ok (.invokestatic 38, 3) := by decide +kernel
theorem dX1_setSun_26 : decode cX1_setSun 26 = .ok (.ifCond .ne 13, 3) := by decide +kernel
theorem dX1_setSun_29 : decode cX1_setSun 29 = .ok (.new 42, 3) := by decide +kernel
theorem dX1_setSun_32 : decode cX1_setSun 32 = .ok (.dup, 1) := by decide +kernel
theorem dX1_setSun_33 : decode cX1_setSun 33 = .ok (.ldc 66, 2) := by decide +kernel
theorem dX1_setSun_35 : decode cX1_setSun 35 = .ok (.invokespecial 46, 3) := by decide +kernel
theorem dX1_setSun_38 : decode cX1_setSun 38 = .ok (.athrow, 1) := by decide +kernel
theorem dX1_setSun_39 : decode cX1_setSun 39 = .ok (.aload_n 0, 1) := by decide +kernel
theorem dX1_setSun_40 : decode cX1_setSun 40 = .ok (.getfield 16, 3) := by decide +kernel
theorem dX1_setSun_43 : decode cX1_setSun 43 = .ok (.iload_n 1, 1) := by decide +kernel
theorem dX1_setSun_44 : decode cX1_setSun 44 = .ok (.invokestatic 53, 3) := by decide +kernel
theorem dX1_setSun_47 : decode cX1_setSun 47 = .ok (.istore_n 3, 1) := by decide +kernel
theorem dX1_setSun_48 : decode cX1_setSun 48 = .ok (.aload_n 0, 1) := by decide +kernel
theorem dX1_setSun_49 : decode cX1_setSun 49 = .ok (.getfield 16, 3) := by decide +kernel
theorem dX1_setSun_52 : decode cX1_setSun 52 = .ok (.iload_n 1, 1) := by decide +kernel
theorem dX1_setSun_53 : decode cX1_setSun 53 = .ok (.iload_n 2, 1) := by decide +kernel
theorem dX1_setSun_54 : decode cX1_setSun 54 = .ok (.invokestatic 57, 3) := by decide +kernel
theorem dX1_setSun_57 : decode cX1_setSun 57 = .ok (.iload_n 3, 1) := by decide +kernel
theorem dX1_setSun_58 : decode cX1_setSun 58 = .ok (.ireturn, 1) := by decide +kernel
set_option maxRecDepth 20000 in
theorem ggX1_press_X1_refuseOutside : GoodIn wsX1_press wsX1_refuseOutside := goodIn_ca (goodIn_r _ [13, 14, 15, 16, 17, 12, 18, 19, 20, 21] (by decide +kernel) (by decide +kernel)) (goodIn_sub (fun _ h => List.mem_cons_of_mem _ (List.mem_append_right _ h)) (by decide +kernel))
set_option maxRecDepth 20000 in
theorem gX1_press_X1_refuseOutside : GoodIn wsX1_press (va_wsS RX1 34 yX1_refuseOutside wsX1_refuseOutside) := goodIn_app (goodIn_of _ (by decide +kernel)) ggX1_press_X1_refuseOutside
set_option maxRecDepth 20000 in
theorem ggX1_press_X1_within : GoodIn wsX1_press wsX1_within := goodIn_r _ [21] (by decide +kernel) (by decide +kernel)
set_option maxRecDepth 20000 in
theorem gX1_press_X1_within : GoodIn wsX1_press (va_wsS RX1 38 yX1_within wsX1_within) := goodIn_app (goodIn_of _ (by decide +kernel)) ggX1_press_X1_within
set_option maxRecDepth 20000 in
theorem ggX1_press_X1_isColour : GoodIn wsX1_press wsX1_isColour := goodIn_r _ [24, 19, 20, 12, 21] (by decide +kernel) (by decide +kernel)
set_option maxRecDepth 20000 in
theorem gX1_press_X1_isColour : GoodIn wsX1_press (va_wsS RX1 68 yX1_isColour wsX1_isColour) := goodIn_app (goodIn_of _ (by decide +kernel)) ggX1_press_X1_isColour
set_option maxRecDepth 20000 in
theorem ggX1_press_X1_hasRoom : GoodIn wsX1_press wsX1_hasRoom := goodIn_r _ [28, 16, 17, 12, 18, 19, 20, 21, 29, 30, 31, 32, 33, 34, 35, 36, 37, 38, 39, 40, 65, 66, 67, 68, 69, 70, 71, 72, 73] (by decide +kernel) (by decide +kernel)
set_option maxRecDepth 20000 in
theorem gX1_press_X1_hasRoom : GoodIn wsX1_press (wsV RX1 78 RX1 yX1_hasRoom wsX1_hasRoom) := goodIn_app (goodIn_of _ (by decide +kernel)) ggX1_press_X1_hasRoom
set_option maxRecDepth 20000 in
theorem ggX1_press_X0_init : GoodIn wsX1_press wsX0_init := goodIn_r _ [43, 44, 45, 46, 47, 48, 49, 50, 51, 52, 74, 75, 76, 77, 78, 79, 80, 81] (by decide +kernel) (by decide +kernel)
set_option maxRecDepth 20000 in
theorem gX1_press_X0_init : GoodIn wsX1_press (wsX0_init) := ggX1_press_X0_init
set_option maxRecDepth 20000 in
theorem ggX1_press_X1_setCover : GoodIn wsX1_press wsX1_setCover := goodIn_r _ [56, 57, 36, 58, 59, 60, 9, 61, 50, 47, 48, 30, 12, 31, 62, 63, 64, 19, 20, 21, 74, 75, 76, 77, 78, 79, 80, 81, 65, 66, 67, 68, 69, 70, 71, 72, 73] (by decide +kernel) (by decide +kernel)
set_option maxRecDepth 20000 in
theorem gX1_press_X1_setCover : GoodIn wsX1_press (wsV RX1 90 RX1 yX1_setCover wsX1_setCover) := goodIn_app (goodIn_of _ (by decide +kernel)) ggX1_press_X1_setCover
theorem dX1_press_0 : decode cX1_press 0 = .ok (.iload_n 1, 1) := by decide +kernel
theorem dX1_press_1 : decode cX1_press 1 = .ok (.iload_n 2, 1) := by decide +kernel
theorem dX1_press_2 : decode cX1_press 2 = .ok (.invokestatic 34, 3) := by decide +kernel
theorem dX1_press_5 : decode cX1_press 5 = .ok (.iload_n 3, 1) := by decide +kernel
theorem dX1_press_6 : decode cX1_press 6 = .ok (.iconst 1, 1) := by decide +kernel
theorem dX1_press_7 : decode cX1_press 7 = .ok (.iconst 3, 1) := by decide +kernel
theorem dX1_press_8 : decode cX1_press 8 = .ok (.invokestatic 38, 3) := by decide +kernel
theorem dX1_press_11 : decode cX1_press 11 = .ok (.ifCond .eq 19, 3) := by decide +kernel
theorem dX1_press_14 : decode cX1_press 14 = .ok (.iload 5, 2) := by decide +kernel
theorem dX1_press_16 : decode cX1_press 16 = .ok (.invokestatic 68, 3) := by decide +kernel
theorem dX1_press_19 : decode cX1_press 19 = .ok (.ifCond .eq 11, 3) := by decide +kernel
theorem dX1_press_22 : decode cX1_press 22 = .ok (.iload 6, 2) := by decide +kernel
theorem dX1_press_24 : decode cX1_press 24 = .ok (.invokestatic 68, 3) := by decide +kernel
theorem dX1_press_27 : decode cX1_press 27 = .ok (.ifCond .ne 13, 3) := by decide +kernel
theorem dX1_press_30 : decode cX1_press 30 = .ok (.new 42, 3) := by decide +kernel
theorem dX1_press_33 : decode cX1_press 33 = .ok (.dup, 1) := by decide +kernel
theorem dX1_press_34 : decode cX1_press 34 = .ok (.ldc 72, 2) := by decide +kernel
theorem dX1_press_36 : decode cX1_press 36 = .ok (.invokespecial 46, 3) := by decide +kernel
theorem dX1_press_39 : decode cX1_press 39 = .ok (.athrow, 1) := by decide +kernel
theorem dX1_press_40 : decode cX1_press 40 = .ok (.aload_n 0, 1) := by decide +kernel
theorem dX1_press_41 : decode cX1_press 41 = .ok (.getfield 74, 3) := by decide +kernel
theorem dX1_press_44 : decode cX1_press 44 = .ok (.istore 7, 2) := by decide +kernel
theorem dX1_press_46 : decode cX1_press 46 = .ok (.iload 7, 2) := by decide +kernel
theorem dX1_press_48 : decode cX1_press 48 = .ok (.iconst 0, 1) := by decide +kernel
theorem dX1_press_49 : decode cX1_press 49 = .ok (.aload_n 0, 1) := by decide +kernel
theorem dX1_press_50 : decode cX1_press 50 = .ok (.getfield 21, 3) := by decide +kernel
theorem dX1_press_53 : decode cX1_press 53 = .ok (.arraylength, 1) := by decide +kernel
theorem dX1_press_54 : decode cX1_press 54 = .ok (.iconst 1, 1) := by decide +kernel
theorem dX1_press_55 : decode cX1_press 55 = .ok (.isub, 1) := by decide +kernel
theorem dX1_press_56 : decode cX1_press 56 = .ok (.invokestatic 38, 3) := by decide +kernel
theorem dX1_press_59 : decode cX1_press 59 = .ok (.ifCond .eq 16, 3) := by decide +kernel
theorem dX1_press_62 : decode cX1_press 62 = .ok (.aload_n 0, 1) := by decide +kernel
theorem dX1_press_63 : decode cX1_press 63 = .ok (.iload_n 1, 1) := by decide +kernel
theorem dX1_press_64 : decode cX1_press 64 = .ok (.iload_n 2, 1) := by decide +kernel
theorem dX1_press_65 : decode cX1_press 65 = .ok (.iload_n 3, 1) := by decide +kernel
theorem dX1_press_66 : decode cX1_press 66 = .ok (.iload 4, 2) := by decide +kernel
theorem dX1_press_68 : decode cX1_press 68 = .ok (.iconst (-1), 1) := by decide +kernel
theorem dX1_press_69 : decode cX1_press 69 = .ok (.invokevirtual 78, 3) := by decide +kernel
theorem dX1_press_72 : decode cX1_press 72 = .ok (.ifCond .ne 13, 3) := by decide +kernel
theorem dX1_press_75 : decode cX1_press 75 = .ok (.new 82, 3) := by decide +kernel
theorem dX1_press_78 : decode cX1_press 78 = .ok (.dup, 1) := by decide +kernel
theorem dX1_press_79 : decode cX1_press 79 = .ok (.ldc 84, 2) := by decide +kernel
theorem dX1_press_81 : decode cX1_press 81 = .ok (.invokespecial 86, 3) := by decide +kernel
theorem dX1_press_84 : decode cX1_press 84 = .ok (.athrow, 1) := by decide +kernel
theorem dX1_press_85 : decode cX1_press 85 = .ok (.new 19, 3) := by decide +kernel
theorem dX1_press_88 : decode cX1_press 88 = .ok (.dup, 1) := by decide +kernel
theorem dX1_press_89 : decode cX1_press 89 = .ok (.iload_n 1, 1) := by decide +kernel
theorem dX1_press_90 : decode cX1_press 90 = .ok (.iload_n 2, 1) := by decide +kernel
theorem dX1_press_91 : decode cX1_press 91 = .ok (.iload_n 3, 1) := by decide +kernel
theorem dX1_press_92 : decode cX1_press 92 = .ok (.iload 4, 2) := by decide +kernel
theorem dX1_press_94 : decode cX1_press 94 = .ok (.iload 5, 2) := by decide +kernel
theorem dX1_press_96 : decode cX1_press 96 = .ok (.iload 6, 2) := by decide +kernel
theorem dX1_press_98 : decode cX1_press 98 = .ok (.invokespecial 87, 3) := by decide +kernel
theorem dX1_press_101 : decode cX1_press 101 = .ok (.astore 8, 2) := by decide +kernel
theorem dX1_press_103 : decode cX1_press 103 = .ok (.aload_n 0, 1) := by decide +kernel
theorem dX1_press_104 : decode cX1_press 104 = .ok (.getfield 21, 3) := by decide +kernel
theorem dX1_press_107 : decode cX1_press 107 = .ok (.iload 7, 2) := by decide +kernel
theorem dX1_press_109 : decode cX1_press 109 = .ok (.aload 8, 2) := by decide +kernel
theorem dX1_press_111 : decode cX1_press 111 = .ok (.aastore, 1) := by decide +kernel
theorem dX1_press_112 : decode cX1_press 112 = .ok (.aload_n 0, 1) := by decide +kernel
theorem dX1_press_113 : decode cX1_press 113 = .ok (.iload 7, 2) := by decide +kernel
theorem dX1_press_115 : decode cX1_press 115 = .ok (.iconst 1, 1) := by decide +kernel
theorem dX1_press_116 : decode cX1_press 116 = .ok (.iadd, 1) := by decide +kernel
theorem dX1_press_117 : decode cX1_press 117 = .ok (.putfield 74, 3) := by decide +kernel
theorem dX1_press_120 : decode cX1_press 120 = .ok (.aload_n 0, 1) := by decide +kernel
theorem dX1_press_121 : decode cX1_press 121 = .ok (.aload 8, 2) := by decide +kernel
theorem dX1_press_123 : decode cX1_press 123 = .ok (.iload 7, 2) := by decide +kernel
theorem dX1_press_125 : decode cX1_press 125 = .ok (.invokevirtual 90, 3) := by decide +kernel
theorem dX1_press_128 : decode cX1_press 128 = .ok (.iload 7, 2) := by decide +kernel
theorem dX1_press_130 : decode cX1_press 130 = .ok (.ireturn, 1) := by decide +kernel
set_option maxRecDepth 20000 in
theorem ggX1_flip_X1_find : GoodIn wsX1_flip wsX1_find := goodIn_r _ [12, 13, 14, 15, 16, 11, 17, 45, 46, 47, 48, 49, 50, 51, 52, 53] (by decide +kernel) (by decide +kernel)
set_option maxRecDepth 20000 in
theorem gX1_flip_X1_find : GoodIn wsX1_flip (wsV RX1 94 RX1 yX1_find wsX1_find) := goodIn_app (goodIn_of _ (by decide +kernel)) ggX1_flip_X1_find
set_option maxRecDepth 20000 in
theorem ggX1_flip_X1_isLoose : GoodIn wsX1_flip wsX1_isLoose := goodIn_r _ [20, 21, 7, 22, 23, 24, 25, 26, 27, 28, 29, 30, 11, 31, 32, 33, 34, 15, 16, 17, 54, 55, 56, 57, 58, 59, 60, 61] (by decide +kernel) (by decide +kernel)
set_option maxRecDepth 20000 in
theorem gX1_flip_X1_isLoose : GoodIn wsX1_flip (va_wsS RX1 100 yX1_isLoose wsX1_isLoose) := goodIn_app (goodIn_of _ (by decide +kernel)) ggX1_flip_X1_isLoose
set_option maxRecDepth 20000 in
theorem ggX1_flip_X0_cellAt : GoodIn wsX1_flip wsX0_cellAt := goodIn_r _ [26, 27, 28, 29, 30, 11, 31, 54, 55, 56, 57, 58, 59, 60, 61] (by decide +kernel) (by decide +kernel)
set_option maxRecDepth 20000 in
theorem gX1_flip_X0_cellAt : GoodIn wsX1_flip (wsV RX1 113 RX0 yX0_cellAt wsX0_cellAt) := goodIn_app (goodIn_of _ (by decide +kernel)) ggX1_flip_X0_cellAt
set_option maxRecDepth 20000 in
theorem ggX1_flip_X1_at : GoodIn wsX1_flip wsX1_at := goodIn_r _ [34, 15, 16, 11, 17] (by decide +kernel) (by decide +kernel)
set_option maxRecDepth 20000 in
theorem gX1_flip_X1_at : GoodIn wsX1_flip (va_wsS RX1 53 yX1_at wsX1_at) := goodIn_app (goodIn_of _ (by decide +kernel)) ggX1_flip_X1_at
set_option maxRecDepth 20000 in
theorem ggX1_flip_X1_put : GoodIn wsX1_flip wsX1_put := goodIn_r _ [37, 15, 16, 11, 17] (by decide +kernel) (by decide +kernel)
set_option maxRecDepth 20000 in
theorem gX1_flip_X1_put : GoodIn wsX1_flip (va_wsS RX1 57 yX1_put wsX1_put) := goodIn_app (goodIn_of _ (by decide +kernel)) ggX1_flip_X1_put
set_option maxRecDepth 20000 in
theorem ggX1_flip_X0_shownColour : GoodIn wsX1_flip wsX0_shownColour := goodIn_r _ [41, 42, 43, 44, 54, 55, 56, 57, 58, 59, 60, 61] (by decide +kernel) (by decide +kernel)
set_option maxRecDepth 20000 in
theorem gX1_flip_X0_shownColour : GoodIn wsX1_flip (wsV RX1 117 RX0 yX0_shownColour wsX0_shownColour) := goodIn_app (goodIn_of _ (by decide +kernel)) ggX1_flip_X0_shownColour
theorem dX1_flip_0 : decode cX1_flip 0 = .ok (.aload_n 0, 1) := by decide +kernel
theorem dX1_flip_1 : decode cX1_flip 1 = .ok (.iload_n 1, 1) := by decide +kernel
theorem dX1_flip_2 : decode cX1_flip 2 = .ok (.invokevirtual 94, 3) := by decide +kernel
theorem dX1_flip_5 : decode cX1_flip 5 = .ok (.astore_n 2, 1) := by decide +kernel
theorem dX1_flip_6 : decode cX1_flip 6 = .ok (.aload_n 2, 1) := by decide +kernel
theorem dX1_flip_7 : decode cX1_flip 7 = .ok (.ifnonnull 13, 3) := by decide +kernel
theorem dX1_flip_10 : decode cX1_flip 10 = .ok (.new 61, 3) := by decide +kernel
theorem dX1_flip_13 : decode cX1_flip 13 = .ok (.dup, 1) := by decide +kernel
theorem dX1_flip_14 : decode cX1_flip 14 = .ok (.ldc 98, 2) := by decide +kernel
theorem dX1_flip_16 : decode cX1_flip 16 = .ok (.invokespecial 65, 3) := by decide +kernel
theorem dX1_flip_19 : decode cX1_flip 19 = .ok (.athrow, 1) := by decide +kernel
theorem dX1_flip_20 : decode cX1_flip 20 = .ok (.aload_n 2, 1) := by decide +kernel
theorem dX1_flip_21 : decode cX1_flip 21 = .ok (.aload_n 0, 1) := by decide +kernel
theorem dX1_flip_22 : decode cX1_flip 22 = .ok (.getfield 9, 3) := by decide +kernel
theorem dX1_flip_25 : decode cX1_flip 25 = .ok (.invokestatic 100, 3) := by decide +kernel
theorem dX1_flip_28 : decode cX1_flip 28 = .ok (.ifCond .ne 13, 3) := by decide +kernel
theorem dX1_flip_31 : decode cX1_flip 31 = .ok (.new 82, 3) := by decide +kernel
theorem dX1_flip_34 : decode cX1_flip 34 = .ok (.dup, 1) := by decide +kernel
theorem dX1_flip_35 : decode cX1_flip 35 = .ok (.ldc 104, 2) := by decide +kernel
theorem dX1_flip_37 : decode cX1_flip 37 = .ok (.invokespecial 86, 3) := by decide +kernel
theorem dX1_flip_40 : decode cX1_flip 40 = .ok (.athrow, 1) := by decide +kernel
theorem dX1_flip_41 : decode cX1_flip 41 = .ok (.aload_n 2, 1) := by decide +kernel
theorem dX1_flip_42 : decode cX1_flip 42 = .ok (.aload_n 2, 1) := by decide +kernel
theorem dX1_flip_43 : decode cX1_flip 43 = .ok (.getfield 106, 3) := by decide +kernel
theorem dX1_flip_46 : decode cX1_flip 46 = .ok (.ifCond .ne 7, 3) := by decide +kernel
theorem dX1_flip_49 : decode cX1_flip 49 = .ok (.iconst 1, 1) := by decide +kernel
theorem dX1_flip_50 : decode cX1_flip 50 = .ok (.goto 4, 3) := by decide +kernel
theorem dX1_flip_53 : decode cX1_flip 53 = .ok (.iconst 0, 1) := by decide +kernel
theorem dX1_flip_54 : decode cX1_flip 54 = .ok (.putfield 106, 3) := by decide +kernel
theorem dX1_flip_57 : decode cX1_flip 57 = .ok (.iconst 0, 1) := by decide +kernel
theorem dX1_flip_58 : decode cX1_flip 58 = .ok (.istore_n 3, 1) := by decide +kernel
theorem dX1_flip_59 : decode cX1_flip 59 = .ok (.iload_n 3, 1) := by decide +kernel
theorem dX1_flip_60 : decode cX1_flip 60 = .ok (.aload_n 2, 1) := by decide +kernel
theorem dX1_flip_61 : decode cX1_flip 61 = .ok (.getfield 110, 3) := by decide +kernel
theorem dX1_flip_64 : decode cX1_flip 64 = .ok (.if_icmp .ge 36, 3) := by decide +kernel
theorem dX1_flip_67 : decode cX1_flip 67 = .ok (.aload_n 2, 1) := by decide +kernel
theorem dX1_flip_68 : decode cX1_flip 68 = .ok (.iload_n 3, 1) := by decide +kernel
theorem dX1_flip_69 : decode cX1_flip 69 = .ok (.invokevirtual 113, 3) := by decide +kernel
theorem dX1_flip_72 : decode cX1_flip 72 = .ok (.istore 4, 2) := by decide +kernel
theorem dX1_flip_74 : decode cX1_flip 74 = .ok (.aload_n 0, 1) := by decide +kernel
theorem dX1_flip_75 : decode cX1_flip 75 = .ok (.getfield 9, 3) := by decide +kernel
theorem dX1_flip_78 : decode cX1_flip 78 = .ok (.iload 4, 2) := by decide +kernel
theorem dX1_flip_80 : decode cX1_flip 80 = .ok (.aload_n 0, 1) := by decide +kernel
theorem dX1_flip_81 : decode cX1_flip 81 = .ok (.getfield 9, 3) := by decide +kernel
theorem dX1_flip_84 : decode cX1_flip 84 = .ok (.iload 4, 2) := by decide +kernel
theorem dX1_flip_86 : decode cX1_flip 86 = .ok (.invokestatic 53, 3) := by decide +kernel
theorem dX1_flip_89 : decode cX1_flip 89 = .ok (.iconst 1, 1) := by decide +kernel
theorem dX1_flip_90 : decode cX1_flip 90 = .ok (.isub, 1) := by decide +kernel
theorem dX1_flip_91 : decode cX1_flip 91 = .ok (.invokestatic 57, 3) := by decide +kernel
theorem dX1_flip_94 : decode cX1_flip 94 = .ok (.iinc 3 1, 3) := by decide +kernel
theorem dX1_flip_97 : decode cX1_flip 97 = .ok (.goto (-38), 3) := by decide +kernel
theorem dX1_flip_100 : decode cX1_flip 100 = .ok (.aload_n 2, 1) := by decide +kernel
theorem dX1_flip_101 : decode cX1_flip 101 = .ok (.invokevirtual 117, 3) := by decide +kernel
theorem dX1_flip_104 : decode cX1_flip 104 = .ok (.ireturn, 1) := by decide +kernel
set_option maxRecDepth 20000 in
theorem ggX1_turn_X1_find : GoodIn wsX1_turn wsX1_find := goodIn_r _ [14, 15, 16, 17, 18, 13, 19, 57, 58, 59, 60, 61, 62, 63, 64, 65] (by decide +kernel) (by decide +kernel)
set_option maxRecDepth 20000 in
theorem gX1_turn_X1_find : GoodIn wsX1_turn (wsV RX1 94 RX1 yX1_find wsX1_find) := goodIn_app (goodIn_of _ (by decide +kernel)) ggX1_turn_X1_find
set_option maxRecDepth 20000 in
theorem ggX1_turn_X1_isLoose : GoodIn wsX1_turn wsX1_isLoose := goodIn_r _ [22, 23, 8, 24, 25, 26, 27, 28, 29, 30, 31, 32, 13, 33, 34, 35, 36, 17, 18, 19, 66, 67, 68, 69, 70, 71, 72, 73] (by decide +kernel) (by decide +kernel)
set_option maxRecDepth 20000 in
theorem gX1_turn_X1_isLoose : GoodIn wsX1_turn (va_wsS RX1 100 yX1_isLoose wsX1_isLoose) := goodIn_app (goodIn_of _ (by decide +kernel)) ggX1_turn_X1_isLoose
set_option maxRecDepth 20000 in
theorem ggX1_turn_X1_hasRoom : GoodIn wsX1_turn wsX1_hasRoom := goodIn_r _ [40, 41, 42, 13, 43, 17, 18, 19, 44, 32, 33, 45, 46, 47, 48, 49, 5, 34, 35, 36, 57, 58, 59, 60, 61, 62, 63, 64, 65] (by decide +kernel) (by decide +kernel)
set_option maxRecDepth 20000 in
theorem gX1_turn_X1_hasRoom : GoodIn wsX1_turn (wsV RX1 78 RX1 yX1_hasRoom wsX1_hasRoom) := goodIn_app (goodIn_of _ (by decide +kernel)) ggX1_turn_X1_hasRoom
set_option maxRecDepth 20000 in
theorem ggX1_turn_X1_setCover : GoodIn wsX1_turn wsX1_setCover := goodIn_r _ [53, 8, 49, 24, 25, 26, 27, 28, 29, 30, 31, 32, 13, 33, 54, 55, 56, 17, 18, 19, 66, 67, 68, 69, 70, 71, 72, 73, 57, 58, 59, 60, 61, 62, 63, 64, 65] (by decide +kernel) (by decide +kernel)
set_option maxRecDepth 20000 in
theorem gX1_turn_X1_setCover : GoodIn wsX1_turn (wsV RX1 90 RX1 yX1_setCover wsX1_setCover) := goodIn_app (goodIn_of _ (by decide +kernel)) ggX1_turn_X1_setCover
theorem dX1_turn_0 : decode cX1_turn 0 = .ok (.aload_n 0, 1) := by decide +kernel
theorem dX1_turn_1 : decode cX1_turn 1 = .ok (.iload_n 1, 1) := by decide +kernel
theorem dX1_turn_2 : decode cX1_turn 2 = .ok (.invokevirtual 94, 3) := by decide +kernel
theorem dX1_turn_5 : decode cX1_turn 5 = .ok (.astore_n 2, 1) := by decide +kernel
theorem dX1_turn_6 : decode cX1_turn 6 = .ok (.aload_n 2, 1) := by decide +kernel
theorem dX1_turn_7 : decode cX1_turn 7 = .ok (.ifnonnull 13, 3) := by decide +kernel
theorem dX1_turn_10 : decode cX1_turn 10 = .ok (.new 61, 3) := by decide +kernel
theorem dX1_turn_13 : decode cX1_turn 13 = .ok (.dup, 1) := by decide +kernel
theorem dX1_turn_14 : decode cX1_turn 14 = .ok (.ldc 98, 2) := by decide +kernel
theorem dX1_turn_16 : decode cX1_turn 16 = .ok (.invokespecial 65, 3) := by decide +kernel
theorem dX1_turn_19 : decode cX1_turn 19 = .ok (.athrow, 1) := by decide +kernel
theorem dX1_turn_20 : decode cX1_turn 20 = .ok (.aload_n 2, 1) := by decide +kernel
theorem dX1_turn_21 : decode cX1_turn 21 = .ok (.aload_n 0, 1) := by decide +kernel
theorem dX1_turn_22 : decode cX1_turn 22 = .ok (.getfield 9, 3) := by decide +kernel
theorem dX1_turn_25 : decode cX1_turn 25 = .ok (.invokestatic 100, 3) := by decide +kernel
theorem dX1_turn_28 : decode cX1_turn 28 = .ok (.ifCond .eq 35, 3) := by decide +kernel
theorem dX1_turn_31 : decode cX1_turn 31 = .ok (.aload_n 0, 1) := by decide +kernel
theorem dX1_turn_32 : decode cX1_turn 32 = .ok (.aload_n 2, 1) := by decide +kernel
theorem dX1_turn_33 : decode cX1_turn 33 = .ok (.getfield 121, 3) := by decide +kernel
theorem dX1_turn_36 : decode cX1_turn 36 = .ok (.aload_n 2, 1) := by decide +kernel
theorem dX1_turn_37 : decode cX1_turn 37 = .ok (.getfield 124, 3) := by decide +kernel
theorem dX1_turn_40 : decode cX1_turn 40 = .ok (.aload_n 2, 1) := by decide +kernel
theorem dX1_turn_41 : decode cX1_turn 41 = .ok (.getfield 110, 3) := by decide +kernel
theorem dX1_turn_44 : decode cX1_turn 44 = .ok (.aload_n 2, 1) := by decide +kernel
theorem dX1_turn_45 : decode cX1_turn 45 = .ok (.getfield 127, 3) := by decide +kernel
theorem dX1_turn_48 : decode cX1_turn 48 = .ok (.ifCond .ne 7, 3) := by decide +kernel
theorem dX1_turn_51 : decode cX1_turn 51 = .ok (.iconst 1, 1) := by decide +kernel
theorem dX1_turn_52 : decode cX1_turn 52 = .ok (.goto 4, 3) := by decide +kernel
theorem dX1_turn_55 : decode cX1_turn 55 = .ok (.iconst 0, 1) := by decide +kernel
theorem dX1_turn_56 : decode cX1_turn 56 = .ok (.iload_n 1, 1) := by decide +kernel
theorem dX1_turn_57 : decode cX1_turn 57 = .ok (.invokevirtual 78, 3) := by decide +kernel
theorem dX1_turn_60 : decode cX1_turn 60 = .ok (.ifCond .ne 13, 3) := by decide +kernel
theorem dX1_turn_63 : decode cX1_turn 63 = .ok (.new 82, 3) := by decide +kernel
theorem dX1_turn_66 : decode cX1_turn 66 = .ok (.dup, 1) := by decide +kernel
theorem dX1_turn_67 : decode cX1_turn 67 = .ok (.ldc 130, 2) := by decide +kernel
theorem dX1_turn_69 : decode cX1_turn 69 = .ok (.invokespecial 86, 3) := by decide +kernel
theorem dX1_turn_72 : decode cX1_turn 72 = .ok (.athrow, 1) := by decide +kernel
theorem dX1_turn_73 : decode cX1_turn 73 = .ok (.aload_n 0, 1) := by decide +kernel
theorem dX1_turn_74 : decode cX1_turn 74 = .ok (.aload_n 2, 1) := by decide +kernel
theorem dX1_turn_75 : decode cX1_turn 75 = .ok (.iconst (-1), 1) := by decide +kernel
theorem dX1_turn_76 : decode cX1_turn 76 = .ok (.invokevirtual 90, 3) := by decide +kernel
theorem dX1_turn_79 : decode cX1_turn 79 = .ok (.aload_n 2, 1) := by decide +kernel
theorem dX1_turn_80 : decode cX1_turn 80 = .ok (.aload_n 2, 1) := by decide +kernel
theorem dX1_turn_81 : decode cX1_turn 81 = .ok (.getfield 127, 3) := by decide +kernel
theorem dX1_turn_84 : decode cX1_turn 84 = .ok (.ifCond .ne 7, 3) := by decide +kernel
theorem dX1_turn_87 : decode cX1_turn 87 = .ok (.iconst 1, 1) := by decide +kernel
theorem dX1_turn_88 : decode cX1_turn 88 = .ok (.goto 4, 3) := by decide +kernel
theorem dX1_turn_91 : decode cX1_turn 91 = .ok (.iconst 0, 1) := by decide +kernel
theorem dX1_turn_92 : decode cX1_turn 92 = .ok (.putfield 127, 3) := by decide +kernel
theorem dX1_turn_95 : decode cX1_turn 95 = .ok (.aload_n 0, 1) := by decide +kernel
theorem dX1_turn_96 : decode cX1_turn 96 = .ok (.aload_n 2, 1) := by decide +kernel
theorem dX1_turn_97 : decode cX1_turn 97 = .ok (.iload_n 1, 1) := by decide +kernel
theorem dX1_turn_98 : decode cX1_turn 98 = .ok (.invokevirtual 90, 3) := by decide +kernel
theorem dX1_turn_101 : decode cX1_turn 101 = .ok (.aload_n 2, 1) := by decide +kernel
theorem dX1_turn_102 : decode cX1_turn 102 = .ok (.getfield 110, 3) := by decide +kernel
theorem dX1_turn_105 : decode cX1_turn 105 = .ok (.ireturn, 1) := by decide +kernel
set_option maxRecDepth 20000 in
theorem ggX1_take_X1_find : GoodIn wsX1_take wsX1_find := goodIn_r _ [11, 12, 13, 14, 15, 10, 16, 54, 55, 56, 57, 58, 59, 60, 61, 62] (by decide +kernel) (by decide +kernel)
set_option maxRecDepth 20000 in
theorem gX1_take_X1_find : GoodIn wsX1_take (wsV RX1 94 RX1 yX1_find wsX1_find) := goodIn_app (goodIn_of _ (by decide +kernel)) ggX1_take_X1_find
set_option maxRecDepth 20000 in
theorem ggX1_take_X1_isLoose : GoodIn wsX1_take wsX1_isLoose := goodIn_r _ [19, 5, 20, 21, 22, 23, 24, 25, 26, 27, 28, 29, 10, 30, 31, 32, 33, 14, 15, 16, 46, 47, 48, 49, 50, 51, 52, 53] (by decide +kernel) (by decide +kernel)
set_option maxRecDepth 20000 in
theorem gX1_take_X1_isLoose : GoodIn wsX1_take (va_wsS RX1 100 yX1_isLoose wsX1_isLoose) := goodIn_app (goodIn_of _ (by decide +kernel)) ggX1_take_X1_isLoose
set_option maxRecDepth 20000 in
theorem ggX1_take_X1_setCover : GoodIn wsX1_take wsX1_setCover := goodIn_r _ [37, 20, 38, 21, 22, 23, 24, 25, 26, 27, 28, 29, 10, 30, 39, 40, 41, 14, 15, 16, 46, 47, 48, 49, 50, 51, 52, 53, 54, 55, 56, 57, 58, 59, 60, 61, 62] (by decide +kernel) (by decide +kernel)
set_option maxRecDepth 20000 in
theorem gX1_take_X1_setCover : GoodIn wsX1_take (wsV RX1 90 RX1 yX1_setCover wsX1_setCover) := goodIn_app (goodIn_of _ (by decide +kernel)) ggX1_take_X1_setCover
set_option maxRecDepth 20000 in
theorem ggX1_take_X1_removeMortar : GoodIn wsX1_take wsX1_removeMortar := goodIn_r _ [45, 20, 6, 21, 22, 23, 24, 25, 26, 27, 28, 29, 10, 30, 39, 40, 41, 14, 15, 16, 46, 47, 48, 49, 50, 51, 52, 53, 54, 55, 56, 57, 58, 59, 60, 61, 62] (by decide +kernel) (by decide +kernel)
set_option maxRecDepth 20000 in
theorem gX1_take_X1_removeMortar : GoodIn wsX1_take (wsV RX1 137 RX1 yX1_removeMortar wsX1_removeMortar) := goodIn_app (goodIn_of _ (by decide +kernel)) ggX1_take_X1_removeMortar
theorem dX1_take_0 : decode cX1_take 0 = .ok (.aload_n 0, 1) := by decide +kernel
theorem dX1_take_1 : decode cX1_take 1 = .ok (.iload_n 1, 1) := by decide +kernel
theorem dX1_take_2 : decode cX1_take 2 = .ok (.invokevirtual 94, 3) := by decide +kernel
theorem dX1_take_5 : decode cX1_take 5 = .ok (.astore_n 2, 1) := by decide +kernel
theorem dX1_take_6 : decode cX1_take 6 = .ok (.aload_n 2, 1) := by decide +kernel
theorem dX1_take_7 : decode cX1_take 7 = .ok (.ifnonnull 13, 3) := by decide +kernel
theorem dX1_take_10 : decode cX1_take 10 = .ok (.new 61, 3) := by decide +kernel
theorem dX1_take_13 : decode cX1_take 13 = .ok (.dup, 1) := by decide +kernel
theorem dX1_take_14 : decode cX1_take 14 = .ok (.ldc 98, 2) := by decide +kernel
theorem dX1_take_16 : decode cX1_take 16 = .ok (.invokespecial 65, 3) := by decide +kernel
theorem dX1_take_19 : decode cX1_take 19 = .ok (.athrow, 1) := by decide +kernel
theorem dX1_take_20 : decode cX1_take 20 = .ok (.aload_n 2, 1) := by decide +kernel
theorem dX1_take_21 : decode cX1_take 21 = .ok (.getfield 132, 3) := by decide +kernel
theorem dX1_take_24 : decode cX1_take 24 = .ok (.ifCond .eq 13, 3) := by decide +kernel
theorem dX1_take_27 : decode cX1_take 27 = .ok (.new 82, 3) := by decide +kernel
theorem dX1_take_30 : decode cX1_take 30 = .ok (.dup, 1) := by decide +kernel
theorem dX1_take_31 : decode cX1_take 31 = .ok (.ldc 135, 2) := by decide +kernel
theorem dX1_take_33 : decode cX1_take 33 = .ok (.invokespecial 86, 3) := by decide +kernel
theorem dX1_take_36 : decode cX1_take 36 = .ok (.athrow, 1) := by decide +kernel
theorem dX1_take_37 : decode cX1_take 37 = .ok (.aload_n 2, 1) := by decide +kernel
theorem dX1_take_38 : decode cX1_take 38 = .ok (.aload_n 0, 1) := by decide +kernel
theorem dX1_take_39 : decode cX1_take 39 = .ok (.getfield 9, 3) := by decide +kernel
theorem dX1_take_42 : decode cX1_take 42 = .ok (.invokestatic 100, 3) := by decide +kernel
theorem dX1_take_45 : decode cX1_take 45 = .ok (.istore_n 3, 1) := by decide +kernel
theorem dX1_take_46 : decode cX1_take 46 = .ok (.aload_n 0, 1) := by decide +kernel
theorem dX1_take_47 : decode cX1_take 47 = .ok (.aload_n 2, 1) := by decide +kernel
theorem dX1_take_48 : decode cX1_take 48 = .ok (.iconst (-1), 1) := by decide +kernel
theorem dX1_take_49 : decode cX1_take 49 = .ok (.invokevirtual 90, 3) := by decide +kernel
theorem dX1_take_52 : decode cX1_take 52 = .ok (.aload_n 2, 1) := by decide +kernel
theorem dX1_take_53 : decode cX1_take 53 = .ok (.iconst 1, 1) := by decide +kernel
theorem dX1_take_54 : decode cX1_take 54 = .ok (.putfield 132, 3) := by decide +kernel
theorem dX1_take_57 : decode cX1_take 57 = .ok (.iload_n 3, 1) := by decide +kernel
theorem dX1_take_58 : decode cX1_take 58 = .ok (.ifCond .ne 8, 3) := by decide +kernel
theorem dX1_take_61 : decode cX1_take 61 = .ok (.aload_n 0, 1) := by decide +kernel
theorem dX1_take_62 : decode cX1_take 62 = .ok (.aload_n 2, 1) := by decide +kernel
theorem dX1_take_63 : decode cX1_take 63 = .ok (.invokevirtual 137, 3) := by decide +kernel
theorem dX1_take_66 : decode cX1_take 66 = .ok (.iload_n 3, 1) := by decide +kernel
theorem dX1_take_67 : decode cX1_take 67 = .ok (.ireturn, 1) := by decide +kernel
set_option maxRecDepth 20000 in
theorem ggX1_cell_X1_refuseOutside : GoodIn wsX1_cell wsX1_refuseOutside := goodIn_ca (goodIn_r _ [6, 1, 2, 7, 8, 5, 9, 10, 11, 12] (by decide +kernel) (by decide +kernel)) (goodIn_sub (fun _ h => List.mem_cons_of_mem _ (List.mem_append_right _ h)) (by decide +kernel))
set_option maxRecDepth 20000 in
theorem gX1_cell_X1_refuseOutside : GoodIn wsX1_cell (va_wsS RX1 34 yX1_refuseOutside wsX1_refuseOutside) := goodIn_app (goodIn_of _ (by decide +kernel)) ggX1_cell_X1_refuseOutside
set_option maxRecDepth 20000 in
theorem ggX1_cell_X1_within : GoodIn wsX1_cell wsX1_within := goodIn_r _ [12] (by decide +kernel) (by decide +kernel)
set_option maxRecDepth 20000 in
theorem gX1_cell_X1_within : GoodIn wsX1_cell (va_wsS RX1 38 yX1_within wsX1_within) := goodIn_app (goodIn_of _ (by decide +kernel)) ggX1_cell_X1_within
set_option maxRecDepth 20000 in
theorem ggX1_cell_X1_cellOf : GoodIn wsX1_cell wsX1_cellOf := goodIn_r _ [15] (by decide +kernel) (by decide +kernel)
set_option maxRecDepth 20000 in
theorem gX1_cell_X1_cellOf : GoodIn wsX1_cell (va_wsS RX1 49 yX1_cellOf wsX1_cellOf) := goodIn_app (goodIn_of _ (by decide +kernel)) ggX1_cell_X1_cellOf
set_option maxRecDepth 20000 in
theorem ggX1_cell_X1_cellFact : GoodIn wsX1_cell wsX1_cellFact := goodIn_r _ [19, 20, 21, 22, 23, 5, 24, 10, 11, 12, 25, 26, 27, 28, 29, 30, 31, 32, 33, 34, 35, 36, 37, 38, 39, 40, 41, 42, 43, 44, 45, 46, 47, 48, 49, 50, 51, 52, 53, 54, 55, 56, 57, 58, 59] (by decide +kernel) (by decide +kernel)
set_option maxRecDepth 20000 in
theorem gX1_cell_X1_cellFact : GoodIn wsX1_cell (wsV RX1 143 RX1 yX1_cellFact wsX1_cellFact) := goodIn_app (goodIn_of _ (by decide +kernel)) ggX1_cell_X1_cellFact
theorem dX1_cell_0 : decode cX1_cell 0 = .ok (.iload_n 1, 1) := by decide +kernel
theorem dX1_cell_1 : decode cX1_cell 1 = .ok (.iload_n 2, 1) := by decide +kernel
theorem dX1_cell_2 : decode cX1_cell 2 = .ok (.invokestatic 34, 3) := by decide +kernel
theorem dX1_cell_5 : decode cX1_cell 5 = .ok (.iload_n 3, 1) := by decide +kernel
theorem dX1_cell_6 : decode cX1_cell 6 = .ok (.iconst 0, 1) := by decide +kernel
theorem dX1_cell_7 : decode cX1_cell 7 = .ok (.iconst 2, 1) := by decide +kernel
theorem dX1_cell_8 : decode cX1_cell 8 = .ok (.invokestatic 38, 3) := by decide +kernel
theorem dX1_cell_11 : decode cX1_cell 11 = .ok (.ifCond .ne 13, 3) := by decide +kernel
theorem dX1_cell_14 : decode cX1_cell 14 = .ok (.new 61, 3) := by decide +kernel
theorem dX1_cell_17 : decode cX1_cell 17 = .ok (.dup, 1) := by decide +kernel
theorem dX1_cell_18 : decode cX1_cell 18 = .ok (.ldc 141, 2) := by decide +kernel
theorem dX1_cell_20 : decode cX1_cell 20 = .ok (.invokespecial 65, 3) := by decide +kernel
theorem dX1_cell_23 : decode cX1_cell 23 = .ok (.athrow, 1) := by decide +kernel
theorem dX1_cell_24 : decode cX1_cell 24 = .ok (.aload_n 0, 1) := by decide +kernel
theorem dX1_cell_25 : decode cX1_cell 25 = .ok (.iload_n 1, 1) := by decide +kernel
theorem dX1_cell_26 : decode cX1_cell 26 = .ok (.iload_n 2, 1) := by decide +kernel
theorem dX1_cell_27 : decode cX1_cell 27 = .ok (.invokestatic 49, 3) := by decide +kernel
theorem dX1_cell_30 : decode cX1_cell 30 = .ok (.iload_n 3, 1) := by decide +kernel
theorem dX1_cell_31 : decode cX1_cell 31 = .ok (.invokevirtual 143, 3) := by decide +kernel
theorem dX1_cell_34 : decode cX1_cell 34 = .ok (.ireturn, 1) := by decide +kernel
set_option maxRecDepth 20000 in
theorem ggX1_piece_X1_find : GoodIn wsX1_piece wsX1_find := goodIn_r _ [7, 8, 9, 10, 11, 6, 12, 50, 51, 52, 53, 54, 55, 56, 57, 58] (by decide +kernel) (by decide +kernel)
set_option maxRecDepth 20000 in
theorem gX1_piece_X1_find : GoodIn wsX1_piece (wsV RX1 94 RX1 yX1_find wsX1_find) := goodIn_app (goodIn_of _ (by decide +kernel)) ggX1_piece_X1_find
set_option maxRecDepth 20000 in
theorem ggX1_piece_X1_within : GoodIn wsX1_piece wsX1_within := goodIn_r _ [12] (by decide +kernel) (by decide +kernel)
set_option maxRecDepth 20000 in
theorem gX1_piece_X1_within : GoodIn wsX1_piece (va_wsS RX1 38 yX1_within wsX1_within) := goodIn_app (goodIn_of _ (by decide +kernel)) ggX1_piece_X1_within
set_option maxRecDepth 20000 in
theorem ggX1_piece_X1_pieceFact : GoodIn wsX1_piece wsX1_pieceFact := goodIn_r _ [16, 17, 18, 19, 20, 21, 22, 23, 24, 25, 26, 27, 28, 29, 30, 31, 32, 33, 34, 35, 36, 6, 37, 38, 39, 40, 41, 42, 43, 44, 45, 46, 47, 48, 49, 10, 11, 12, 59, 60, 61, 62, 63, 64, 65, 66, 50, 51, 52, 53, 54, 55, 56, 57, 58] (by decide +kernel) (by decide +kernel)
set_option maxRecDepth 20000 in
theorem gX1_piece_X1_pieceFact : GoodIn wsX1_piece (wsV RX1 148 RX1 yX1_pieceFact wsX1_pieceFact) := goodIn_app (goodIn_of _ (by decide +kernel)) ggX1_piece_X1_pieceFact
theorem dX1_piece_0 : decode cX1_piece 0 = .ok (.aload_n 0, 1) := by decide +kernel
theorem dX1_piece_1 : decode cX1_piece 1 = .ok (.iload_n 1, 1) := by decide +kernel
theorem dX1_piece_2 : decode cX1_piece 2 = .ok (.invokevirtual 94, 3) := by decide +kernel
theorem dX1_piece_5 : decode cX1_piece 5 = .ok (.astore_n 3, 1) := by decide +kernel
theorem dX1_piece_6 : decode cX1_piece 6 = .ok (.aload_n 3, 1) := by decide +kernel
theorem dX1_piece_7 : decode cX1_piece 7 = .ok (.ifnonnull 13, 3) := by decide +kernel
theorem dX1_piece_10 : decode cX1_piece 10 = .ok (.new 61, 3) := by decide +kernel
theorem dX1_piece_13 : decode cX1_piece 13 = .ok (.dup, 1) := by decide +kernel
theorem dX1_piece_14 : decode cX1_piece 14 = .ok (.ldc 98, 2) := by decide +kernel
theorem dX1_piece_16 : decode cX1_piece 16 = .ok (.invokespecial 65, 3) := by decide +kernel
theorem dX1_piece_19 : decode cX1_piece 19 = .ok (.athrow, 1) := by decide +kernel
theorem dX1_piece_20 : decode cX1_piece 20 = .ok (.iload_n 2, 1) := by decide +kernel
theorem dX1_piece_21 : decode cX1_piece 21 = .ok (.iconst 0, 1) := by decide +kernel
theorem dX1_piece_22 : decode cX1_piece 22 = .ok (.bipush 7, 2) := by decide +kernel
theorem dX1_piece_24 : decode cX1_piece 24 = .ok (.invokestatic 38, 3) := by decide +kernel
theorem dX1_piece_27 : decode cX1_piece 27 = .ok (.ifCond .ne 13, 3) := by decide +kernel
theorem dX1_piece_30 : decode cX1_piece 30 = .ok (.new 61, 3) := by decide +kernel
theorem dX1_piece_33 : decode cX1_piece 33 = .ok (.dup, 1) := by decide +kernel
theorem dX1_piece_34 : decode cX1_piece 34 = .ok (.ldc 146, 2) := by decide +kernel
theorem dX1_piece_36 : decode cX1_piece 36 = .ok (.invokespecial 65, 3) := by decide +kernel
theorem dX1_piece_39 : decode cX1_piece 39 = .ok (.athrow, 1) := by decide +kernel
theorem dX1_piece_40 : decode cX1_piece 40 = .ok (.aload_n 0, 1) := by decide +kernel
theorem dX1_piece_41 : decode cX1_piece 41 = .ok (.aload_n 3, 1) := by decide +kernel
theorem dX1_piece_42 : decode cX1_piece 42 = .ok (.iload_n 2, 1) := by decide +kernel
theorem dX1_piece_43 : decode cX1_piece 43 = .ok (.invokevirtual 148, 3) := by decide +kernel
theorem dX1_piece_46 : decode cX1_piece 46 = .ok (.ireturn, 1) := by decide +kernel
set_option maxRecDepth 20000 in
theorem ggX1_count_X1_within : GoodIn wsX1_count wsX1_within := goodIn_r _ [6] (by decide +kernel) (by decide +kernel)
set_option maxRecDepth 20000 in
theorem gX1_count_X1_within : GoodIn wsX1_count (va_wsS RX1 38 yX1_within wsX1_within) := goodIn_app (goodIn_of _ (by decide +kernel)) ggX1_count_X1_within
set_option maxRecDepth 20000 in
theorem ggX1_count_X1_countFact : GoodIn wsX1_count wsX1_countFact := goodIn_r _ [10, 11, 12, 13, 14, 15, 16, 17, 5, 18, 19, 20, 21, 22, 23, 24, 3, 4, 6, 25, 26, 27, 28, 29, 30, 31, 32, 33, 34, 35, 36, 37, 38, 39, 40, 41, 42, 43, 44, 45, 46, 47, 48, 49, 50, 51, 52, 53, 54, 55, 56, 57, 58, 59, 60, 61, 62, 63, 64, 65, 66, 67, 68, 69, 70, 71, 72, 73, 74, 75, 76, 77, 78, 79, 80, 81, 82, 83, 84, 85, 86, 87, 88, 89, 90] (by decide +kernel) (by decide +kernel)
set_option maxRecDepth 20000 in
theorem gX1_count_X1_countFact : GoodIn wsX1_count (wsV RX1 154 RX1 yX1_countFact wsX1_countFact) := goodIn_app (goodIn_of _ (by decide +kernel)) ggX1_count_X1_countFact
theorem dX1_count_0 : decode cX1_count 0 = .ok (.iload_n 1, 1) := by decide +kernel
theorem dX1_count_1 : decode cX1_count 1 = .ok (.iconst 0, 1) := by decide +kernel
theorem dX1_count_2 : decode cX1_count 2 = .ok (.bipush 7, 2) := by decide +kernel
theorem dX1_count_4 : decode cX1_count 4 = .ok (.invokestatic 38, 3) := by decide +kernel
theorem dX1_count_7 : decode cX1_count 7 = .ok (.ifCond .ne 13, 3) := by decide +kernel
theorem dX1_count_10 : decode cX1_count 10 = .ok (.new 61, 3) := by decide +kernel
theorem dX1_count_13 : decode cX1_count 13 = .ok (.dup, 1) := by decide +kernel
theorem dX1_count_14 : decode cX1_count 14 = .ok (.ldc 152, 2) := by decide +kernel
theorem dX1_count_16 : decode cX1_count 16 = .ok (.invokespecial 65, 3) := by decide +kernel
theorem dX1_count_19 : decode cX1_count 19 = .ok (.athrow, 1) := by decide +kernel
theorem dX1_count_20 : decode cX1_count 20 = .ok (.aload_n 0, 1) := by decide +kernel
theorem dX1_count_21 : decode cX1_count 21 = .ok (.iload_n 1, 1) := by decide +kernel
theorem dX1_count_22 : decode cX1_count 22 = .ok (.invokevirtual 154, 3) := by decide +kernel
theorem dX1_count_25 : decode cX1_count 25 = .ok (.ireturn, 1) := by decide +kernel
set_option maxRecDepth 20000 in
theorem ggX1_off_X1_refuseNoPattern : GoodIn wsX1_off wsX1_refuseNoPattern := goodIn_ca (goodIn_r _ [4, 5, 6, 7, 8, 3, 9, 10, 11, 12] (by decide +kernel) (by decide +kernel)) (goodIn_sub (fun _ h => List.mem_cons_of_mem _ (List.mem_append_right _ h)) (by decide +kernel))
set_option maxRecDepth 20000 in
theorem gX1_off_X1_refuseNoPattern : GoodIn wsX1_off (va_wsS RX1 157 yX1_refuseNoPattern wsX1_refuseNoPattern) := goodIn_app (goodIn_of _ (by decide +kernel)) ggX1_off_X1_refuseNoPattern
set_option maxRecDepth 20000 in
theorem ggX1_off_X1_cellsOff : GoodIn wsX1_off wsX1_cellsOff := goodIn_r _ [16, 17, 18, 19, 3, 20, 21, 22, 23, 24, 25, 26, 27, 28, 29, 30, 31, 7, 8, 9, 32, 33, 34, 35, 36, 37, 38, 39, 40, 41, 42, 43, 44, 45, 46, 47, 48, 49, 50, 51, 52, 53, 54, 55, 56, 57, 58, 59, 60, 61, 62] (by decide +kernel) (by decide +kernel)
set_option maxRecDepth 20000 in
theorem gX1_off_X1_cellsOff : GoodIn wsX1_off (wsV RX1 161 RX1 yX1_cellsOff wsX1_cellsOff) := goodIn_app (goodIn_of _ (by decide +kernel)) ggX1_off_X1_cellsOff
theorem dX1_off_0 : decode cX1_off 0 = .ok (.iload_n 1, 1) := by decide +kernel
theorem dX1_off_1 : decode cX1_off 1 = .ok (.iload_n 2, 1) := by decide +kernel
theorem dX1_off_2 : decode cX1_off 2 = .ok (.iload_n 3, 1) := by decide +kernel
theorem dX1_off_3 : decode cX1_off 3 = .ok (.invokestatic 157, 3) := by decide +kernel
theorem dX1_off_6 : decode cX1_off 6 = .ok (.aload_n 0, 1) := by decide +kernel
theorem dX1_off_7 : decode cX1_off 7 = .ok (.iload_n 1, 1) := by decide +kernel
theorem dX1_off_8 : decode cX1_off 8 = .ok (.iload_n 2, 1) := by decide +kernel
theorem dX1_off_9 : decode cX1_off 9 = .ok (.iload_n 3, 1) := by decide +kernel
theorem dX1_off_10 : decode cX1_off 10 = .ok (.invokevirtual 161, 3) := by decide +kernel
theorem dX1_off_13 : decode cX1_off 13 = .ok (.ireturn, 1) := by decide +kernel
set_option maxRecDepth 20000 in
theorem ggX1_advise_X1_refuseNoPattern : GoodIn wsX1_advise wsX1_refuseNoPattern := goodIn_ca (goodIn_r _ [6, 7, 8, 9, 10, 5, 11, 12, 13, 14] (by decide +kernel) (by decide +kernel)) (goodIn_sub (fun _ h => List.mem_cons_of_mem _ (List.mem_append_right _ h)) (by decide +kernel))
set_option maxRecDepth 20000 in
theorem gX1_advise_X1_refuseNoPattern : GoodIn wsX1_advise (va_wsS RX1 157 yX1_refuseNoPattern wsX1_refuseNoPattern) := goodIn_app (goodIn_of _ (by decide +kernel)) ggX1_advise_X1_refuseNoPattern
set_option maxRecDepth 20000 in
theorem ggX1_advise_X1_cellsOff : GoodIn wsX1_advise wsX1_cellsOff := goodIn_r _ [18, 19, 20, 21, 5, 22, 23, 24, 25, 26, 27, 28, 29, 30, 31, 32, 33, 9, 10, 11, 34, 35, 36, 37, 1, 38, 39, 40, 41, 42, 43, 44, 45, 46, 64, 65, 66, 67, 68, 69, 70, 71, 72, 73, 74, 75, 76, 77, 78, 79, 80] (by decide +kernel) (by decide +kernel)
set_option maxRecDepth 20000 in
theorem gX1_advise_X1_cellsOff : GoodIn wsX1_advise (wsV RX1 161 RX1 yX1_cellsOff wsX1_cellsOff) := goodIn_app (goodIn_of _ (by decide +kernel)) ggX1_advise_X1_cellsOff
set_option maxRecDepth 20000 in
theorem ggX1_advise_X1_find : GoodIn wsX1_advise wsX1_find := goodIn_r _ [37, 1, 38, 9, 10, 5, 11, 64, 65, 66, 67, 68, 69, 70, 71, 72] (by decide +kernel) (by decide +kernel)
set_option maxRecDepth 20000 in
theorem gX1_advise_X1_find : GoodIn wsX1_advise (wsV RX1 94 RX1 yX1_find wsX1_find) := goodIn_app (goodIn_of _ (by decide +kernel)) ggX1_advise_X1_find
set_option maxRecDepth 20000 in
theorem ggX1_advise_X1_isLoose : GoodIn wsX1_advise wsX1_isLoose := goodIn_r _ [49, 50, 51, 52, 53, 54, 42, 55, 56, 57, 58, 24, 5, 25, 31, 32, 33, 9, 10, 11, 73, 74, 75, 76, 77, 78, 79, 80] (by decide +kernel) (by decide +kernel)
set_option maxRecDepth 20000 in
theorem gX1_advise_X1_isLoose : GoodIn wsX1_advise (va_wsS RX1 100 yX1_isLoose wsX1_isLoose) := goodIn_app (goodIn_of _ (by decide +kernel)) ggX1_advise_X1_isLoose
set_option maxRecDepth 20000 in
theorem ggX1_advise_X1_cellsOffFlipped : GoodIn wsX1_advise wsX1_cellsOffFlipped := goodIn_r _ [62, 63, 15, 16, 17, 5, 18, 19, 20, 21, 22, 23, 24, 25, 26, 27, 28, 29, 30, 31, 32, 33, 9, 10, 11, 34, 35, 36, 37, 1, 38, 39, 40, 41, 42, 43, 44, 45, 46, 73, 74, 75, 76, 77, 78, 79, 80, 64, 65, 66, 67, 68, 69, 70, 71, 72] (by decide +kernel) (by decide +kernel)
set_option maxRecDepth 20000 in
theorem gX1_advise_X1_cellsOffFlipped : GoodIn wsX1_advise (wsV RX1 165 RX1 yX1_cellsOffFlipped wsX1_cellsOffFlipped) := goodIn_app (goodIn_of _ (by decide +kernel)) ggX1_advise_X1_cellsOffFlipped
theorem dX1_advise_0 : decode cX1_advise 0 = .ok (.iload_n 1, 1) := by decide +kernel
theorem dX1_advise_1 : decode cX1_advise 1 = .ok (.iload_n 2, 1) := by decide +kernel
theorem dX1_advise_2 : decode cX1_advise 2 = .ok (.iload_n 3, 1) := by decide +kernel
theorem dX1_advise_3 : decode cX1_advise 3 = .ok (.invokestatic 157, 3) := by decide +kernel
theorem dX1_advise_6 : decode cX1_advise 6 = .ok (.iconst (-1), 1) := by decide +kernel
theorem dX1_advise_7 : decode cX1_advise 7 = .ok (.istore 4, 2) := by decide +kernel
theorem dX1_advise_9 : decode cX1_advise 9 = .ok (.aload_n 0, 1) := by decide +kernel
theorem dX1_advise_10 : decode cX1_advise 10 = .ok (.iload_n 1, 1) := by decide +kernel
theorem dX1_advise_11 : decode cX1_advise 11 = .ok (.iload_n 2, 1) := by decide +kernel
theorem dX1_advise_12 : decode cX1_advise 12 = .ok (.iload_n 3, 1) := by decide +kernel
theorem dX1_advise_13 : decode cX1_advise 13 = .ok (.invokevirtual 161, 3) := by decide +kernel
theorem dX1_advise_16 : decode cX1_advise 16 = .ok (.istore 5, 2) := by decide +kernel
theorem dX1_advise_18 : decode cX1_advise 18 = .ok (.iconst 0, 1) := by decide +kernel
theorem dX1_advise_19 : decode cX1_advise 19 = .ok (.istore 6, 2) := by decide +kernel
theorem dX1_advise_21 : decode cX1_advise 21 = .ok (.iload 6, 2) := by decide +kernel
theorem dX1_advise_23 : decode cX1_advise 23 = .ok (.aload_n 0, 1) := by decide +kernel
theorem dX1_advise_24 : decode cX1_advise 24 = .ok (.getfield 74, 3) := by decide +kernel
theorem dX1_advise_27 : decode cX1_advise 27 = .ok (.if_icmp .ge 60, 3) := by decide +kernel
theorem dX1_advise_30 : decode cX1_advise 30 = .ok (.aload_n 0, 1) := by decide +kernel
theorem dX1_advise_31 : decode cX1_advise 31 = .ok (.iload 6, 2) := by decide +kernel
theorem dX1_advise_33 : decode cX1_advise 33 = .ok (.invokevirtual 94, 3) := by decide +kernel
theorem dX1_advise_36 : decode cX1_advise 36 = .ok (.astore 7, 2) := by decide +kernel
theorem dX1_advise_38 : decode cX1_advise 38 = .ok (.aload 7, 2) := by decide +kernel
theorem dX1_advise_40 : decode cX1_advise 40 = .ok (.ifnull 41, 3) := by decide +kernel
theorem dX1_advise_43 : decode cX1_advise 43 = .ok (.aload 7, 2) := by decide +kernel
theorem dX1_advise_45 : decode cX1_advise 45 = .ok (.aload_n 0, 1) := by decide +kernel
theorem dX1_advise_46 : decode cX1_advise 46 = .ok (.getfield 9, 3) := by decide +kernel
theorem dX1_advise_49 : decode cX1_advise 49 = .ok (.invokestatic 100, 3) := by decide +kernel
theorem dX1_advise_52 : decode cX1_advise 52 = .ok (.ifCond .eq 29, 3) := by decide +kernel
theorem dX1_advise_55 : decode cX1_advise 55 = .ok (.aload_n 0, 1) := by decide +kernel
theorem dX1_advise_56 : decode cX1_advise 56 = .ok (.aload 7, 2) := by decide +kernel
theorem dX1_advise_58 : decode cX1_advise 58 = .ok (.iload_n 1, 1) := by decide +kernel
theorem dX1_advise_59 : decode cX1_advise 59 = .ok (.iload_n 2, 1) := by decide +kernel
theorem dX1_advise_60 : decode cX1_advise 60 = .ok (.iload_n 3, 1) := by decide +kernel
theorem dX1_advise_61 : decode cX1_advise 61 = .ok (.invokevirtual 165, 3) := by decide +kernel
theorem dX1_advise_64 : decode cX1_advise 64 = .ok (.istore 8, 2) := by decide +kernel
theorem dX1_advise_66 : decode cX1_advise 66 = .ok (.iload 8, 2) := by decide +kernel
theorem dX1_advise_68 : decode cX1_advise 68 = .ok (.iload 5, 2) := by decide +kernel
theorem dX1_advise_70 : decode cX1_advise 70 = .ok (.if_icmp .ge 11, 3) := by decide +kernel
theorem dX1_advise_73 : decode cX1_advise 73 = .ok (.iload 8, 2) := by decide +kernel
theorem dX1_advise_75 : decode cX1_advise 75 = .ok (.istore 5, 2) := by decide +kernel
theorem dX1_advise_77 : decode cX1_advise 77 = .ok (.iload 6, 2) := by decide +kernel
theorem dX1_advise_79 : decode cX1_advise 79 = .ok (.istore 4, 2) := by decide +kernel
theorem dX1_advise_81 : decode cX1_advise 81 = .ok (.iinc 6 1, 3) := by decide +kernel
theorem dX1_advise_84 : decode cX1_advise 84 = .ok (.goto (-63), 3) := by decide +kernel
theorem dX1_advise_87 : decode cX1_advise 87 = .ok (.iload 4, 2) := by decide +kernel
theorem dX1_advise_89 : decode cX1_advise 89 = .ok (.ireturn, 1) := by decide +kernel
set_option maxRecDepth 20000 in
theorem ggX1_mends_X1_refuseOutside : GoodIn wsX1_mends wsX1_refuseOutside := goodIn_ca (goodIn_r _ [4, 5, 6, 7, 8, 3, 9, 10, 11, 12] (by decide +kernel) (by decide +kernel)) (goodIn_sub (fun _ h => List.mem_cons_of_mem _ (List.mem_append_right _ h)) (by decide +kernel))
set_option maxRecDepth 20000 in
theorem gX1_mends_X1_refuseOutside : GoodIn wsX1_mends (va_wsS RX1 34 yX1_refuseOutside wsX1_refuseOutside) := goodIn_app (goodIn_of _ (by decide +kernel)) ggX1_mends_X1_refuseOutside
set_option maxRecDepth 20000 in
theorem ggX1_mends_X1_clearMarks : GoodIn wsX1_mends wsX1_clearMarks := goodIn_r _ [16, 17, 41, 42, 43, 44, 45, 46, 47, 48, 49] (by decide +kernel) (by decide +kernel)
set_option maxRecDepth 20000 in
theorem gX1_mends_X1_clearMarks : GoodIn wsX1_mends (wsV RX1 169 RX1 yX1_clearMarks wsX1_clearMarks) := goodIn_app (goodIn_of _ (by decide +kernel)) ggX1_mends_X1_clearMarks
set_option maxRecDepth 20000 in
theorem ggX1_mends_X1_markGap : GoodIn wsX1_mends wsX1_markGap := goodIn_r _ [21, 22, 23, 24, 25, 3, 26, 27, 17, 28, 29, 30, 7, 8, 9, 10, 11, 12, 31, 32, 33, 34, 35, 36, 41, 42, 43, 44, 45, 46, 47, 48, 49] (by decide +kernel) (by decide +kernel)
set_option maxRecDepth 20000 in
theorem gX1_mends_X1_markGap : GoodIn wsX1_mends (wsV RX1 172 RX1 yX1_markGap wsX1_markGap) := goodIn_app (goodIn_of _ (by decide +kernel)) ggX1_mends_X1_markGap
set_option maxRecDepth 20000 in
theorem ggX1_mends_X1_piecesForMarks : GoodIn wsX1_mends wsX1_piecesForMarks := goodIn_r _ [40, 17, 28, 29, 3, 30, 31, 32, 33, 10, 11, 12, 41, 42, 43, 44, 45, 46, 47, 48, 49] (by decide +kernel) (by decide +kernel)
set_option maxRecDepth 20000 in
theorem gX1_mends_X1_piecesForMarks : GoodIn wsX1_mends (wsV RX1 175 RX1 yX1_piecesForMarks wsX1_piecesForMarks) := goodIn_app (goodIn_of _ (by decide +kernel)) ggX1_mends_X1_piecesForMarks
theorem dX1_mends_0 : decode cX1_mends 0 = .ok (.iload_n 1, 1) := by decide +kernel
theorem dX1_mends_1 : decode cX1_mends 1 = .ok (.iload_n 2, 1) := by decide +kernel
theorem dX1_mends_2 : decode cX1_mends 2 = .ok (.invokestatic 34, 3) := by decide +kernel
theorem dX1_mends_5 : decode cX1_mends 5 = .ok (.aload_n 0, 1) := by decide +kernel
theorem dX1_mends_6 : decode cX1_mends 6 = .ok (.invokevirtual 169, 3) := by decide +kernel
theorem dX1_mends_9 : decode cX1_mends 9 = .ok (.aload_n 0, 1) := by decide +kernel
theorem dX1_mends_10 : decode cX1_mends 10 = .ok (.iload_n 1, 1) := by decide +kernel
theorem dX1_mends_11 : decode cX1_mends 11 = .ok (.iload_n 2, 1) := by decide +kernel
theorem dX1_mends_12 : decode cX1_mends 12 = .ok (.invokevirtual 172, 3) := by decide +kernel
theorem dX1_mends_15 : decode cX1_mends 15 = .ok (.pop, 1) := by decide +kernel
theorem dX1_mends_16 : decode cX1_mends 16 = .ok (.aload_n 0, 1) := by decide +kernel
theorem dX1_mends_17 : decode cX1_mends 17 = .ok (.iload_n 3, 1) := by decide +kernel
theorem dX1_mends_18 : decode cX1_mends 18 = .ok (.invokevirtual 175, 3) := by decide +kernel
theorem dX1_mends_21 : decode cX1_mends 21 = .ok (.ireturn, 1) := by decide +kernel
set_option maxRecDepth 20000 in
theorem ggX1_gap_X1_refuseOutside : GoodIn wsX1_gap wsX1_refuseOutside := goodIn_ca (goodIn_r _ [4, 5, 6, 7, 8, 3, 9, 10, 11, 12] (by decide +kernel) (by decide +kernel)) (goodIn_sub (fun _ h => List.mem_cons_of_mem _ (List.mem_append_right _ h)) (by decide +kernel))
set_option maxRecDepth 20000 in
theorem gX1_gap_X1_refuseOutside : GoodIn wsX1_gap (va_wsS RX1 34 yX1_refuseOutside wsX1_refuseOutside) := goodIn_app (goodIn_of _ (by decide +kernel)) ggX1_gap_X1_refuseOutside
set_option maxRecDepth 20000 in
theorem ggX1_gap_X1_clearMarks : GoodIn wsX1_gap wsX1_clearMarks := goodIn_r _ [16, 17, 37, 38, 39, 40, 41, 42, 43, 44, 45] (by decide +kernel) (by decide +kernel)
set_option maxRecDepth 20000 in
theorem gX1_gap_X1_clearMarks : GoodIn wsX1_gap (wsV RX1 169 RX1 yX1_clearMarks wsX1_clearMarks) := goodIn_app (goodIn_of _ (by decide +kernel)) ggX1_gap_X1_clearMarks
set_option maxRecDepth 20000 in
theorem ggX1_gap_X1_markGap : GoodIn wsX1_gap wsX1_markGap := goodIn_r _ [21, 22, 23, 24, 25, 3, 26, 27, 17, 28, 29, 30, 7, 8, 9, 10, 11, 12, 31, 32, 33, 34, 35, 36, 37, 38, 39, 40, 41, 42, 43, 44, 45] (by decide +kernel) (by decide +kernel)
set_option maxRecDepth 20000 in
theorem gX1_gap_X1_markGap : GoodIn wsX1_gap (wsV RX1 172 RX1 yX1_markGap wsX1_markGap) := goodIn_app (goodIn_of _ (by decide +kernel)) ggX1_gap_X1_markGap
theorem dX1_gap_0 : decode cX1_gap 0 = .ok (.iload_n 1, 1) := by decide +kernel
theorem dX1_gap_1 : decode cX1_gap 1 = .ok (.iload_n 2, 1) := by decide +kernel
theorem dX1_gap_2 : decode cX1_gap 2 = .ok (.invokestatic 34, 3) := by decide +kernel
theorem dX1_gap_5 : decode cX1_gap 5 = .ok (.aload_n 0, 1) := by decide +kernel
theorem dX1_gap_6 : decode cX1_gap 6 = .ok (.invokevirtual 169, 3) := by decide +kernel
theorem dX1_gap_9 : decode cX1_gap 9 = .ok (.aload_n 0, 1) := by decide +kernel
theorem dX1_gap_10 : decode cX1_gap 10 = .ok (.iload_n 1, 1) := by decide +kernel
theorem dX1_gap_11 : decode cX1_gap 11 = .ok (.iload_n 2, 1) := by decide +kernel
theorem dX1_gap_12 : decode cX1_gap 12 = .ok (.invokevirtual 172, 3) := by decide +kernel
theorem dX1_gap_15 : decode cX1_gap 15 = .ok (.ireturn, 1) := by decide +kernel
set_option maxRecDepth 20000 in
theorem ggX1_pass_X1_within : GoodIn wsX1_pass wsX1_within := goodIn_r _ [8] (by decide +kernel) (by decide +kernel)
set_option maxRecDepth 20000 in
theorem gX1_pass_X1_within : GoodIn wsX1_pass (va_wsS RX1 38 yX1_within wsX1_within) := goodIn_app (goodIn_of _ (by decide +kernel)) ggX1_pass_X1_within
set_option maxRecDepth 20000 in
theorem ggX1_pass_X1_dryOneHour : GoodIn wsX1_pass wsX1_dryOneHour := goodIn_r _ [12, 13, 14, 15, 16, 17, 18, 19, 20, 21, 22, 23, 24, 7, 25, 5, 6, 8, 26, 27, 28, 54, 55, 56, 57, 58, 59, 60, 61, 62] (by decide +kernel) (by decide +kernel)
set_option maxRecDepth 20000 in
theorem gX1_pass_X1_dryOneHour : GoodIn wsX1_pass (wsV RX1 184 RX1 yX1_dryOneHour wsX1_dryOneHour) := goodIn_app (goodIn_of _ (by decide +kernel)) ggX1_pass_X1_dryOneHour
set_option maxRecDepth 20000 in
theorem ggX1_pass_X1_loosePieces : GoodIn wsX1_pass wsX1_loosePieces := goodIn_r _ [32, 33, 3, 34, 35, 36, 7, 37, 38, 5, 6, 8, 39, 40, 41, 42, 43, 44, 45, 46, 47, 48, 49, 50, 51, 52, 53, 23, 24, 25, 54, 55, 56, 57, 58, 59, 60, 61, 62, 63, 64, 65, 66, 67, 68, 69, 70] (by decide +kernel) (by decide +kernel)
set_option maxRecDepth 20000 in
theorem gX1_pass_X1_loosePieces : GoodIn wsX1_pass (wsV RX1 188 RX1 yX1_loosePieces wsX1_loosePieces) := goodIn_app (goodIn_of _ (by decide +kernel)) ggX1_pass_X1_loosePieces
theorem dX1_pass_0 : decode cX1_pass 0 = .ok (.iload_n 1, 1) := by decide +kernel
theorem dX1_pass_1 : decode cX1_pass 1 = .ok (.iconst 1, 1) := by decide +kernel
theorem dX1_pass_2 : decode cX1_pass 2 = .ok (.bipush 100, 2) := by decide +kernel
theorem dX1_pass_4 : decode cX1_pass 4 = .ok (.invokestatic 38, 3) := by decide +kernel
theorem dX1_pass_7 : decode cX1_pass 7 = .ok (.ifCond .ne 13, 3) := by decide +kernel
theorem dX1_pass_10 : decode cX1_pass 10 = .ok (.new 42, 3) := by decide +kernel
theorem dX1_pass_13 : decode cX1_pass 13 = .ok (.dup, 1) := by decide +kernel
theorem dX1_pass_14 : decode cX1_pass 14 = .ok (.ldc 179, 2) := by decide +kernel
theorem dX1_pass_16 : decode cX1_pass 16 = .ok (.invokespecial 46, 3) := by decide +kernel
theorem dX1_pass_19 : decode cX1_pass 19 = .ok (.athrow, 1) := by decide +kernel
theorem dX1_pass_20 : decode cX1_pass 20 = .ok (.iconst 0, 1) := by decide +kernel
theorem dX1_pass_21 : decode cX1_pass 21 = .ok (.istore_n 2, 1) := by decide +kernel
theorem dX1_pass_22 : decode cX1_pass 22 = .ok (.iload_n 2, 1) := by decide +kernel
theorem dX1_pass_23 : decode cX1_pass 23 = .ok (.iload_n 1, 1) := by decide +kernel
theorem dX1_pass_24 : decode cX1_pass 24 = .ok (.if_icmp .ge 31, 3) := by decide +kernel
theorem dX1_pass_27 : decode cX1_pass 27 = .ok (.aload_n 0, 1) := by decide +kernel
theorem dX1_pass_28 : decode cX1_pass 28 = .ok (.aload_n 0, 1) := by decide +kernel
theorem dX1_pass_29 : decode cX1_pass 29 = .ok (.getfield 9, 3) := by decide +kernel
theorem dX1_pass_32 : decode cX1_pass 32 = .ok (.aload_n 0, 1) := by decide +kernel
theorem dX1_pass_33 : decode cX1_pass 33 = .ok (.getfield 181, 3) := by decide +kernel
theorem dX1_pass_36 : decode cX1_pass 36 = .ok (.invokevirtual 184, 3) := by decide +kernel
theorem dX1_pass_39 : decode cX1_pass 39 = .ok (.aload_n 0, 1) := by decide +kernel
theorem dX1_pass_40 : decode cX1_pass 40 = .ok (.dup, 1) := by decide +kernel
theorem dX1_pass_41 : decode cX1_pass 41 = .ok (.getfield 181, 3) := by decide +kernel
theorem dX1_pass_44 : decode cX1_pass 44 = .ok (.iconst 1, 1) := by decide +kernel
theorem dX1_pass_45 : decode cX1_pass 45 = .ok (.iadd, 1) := by decide +kernel
theorem dX1_pass_46 : decode cX1_pass 46 = .ok (.putfield 181, 3) := by decide +kernel
theorem dX1_pass_49 : decode cX1_pass 49 = .ok (.iinc 2 1, 3) := by decide +kernel
theorem dX1_pass_52 : decode cX1_pass 52 = .ok (.goto (-30), 3) := by decide +kernel
theorem dX1_pass_55 : decode cX1_pass 55 = .ok (.aload_n 0, 1) := by decide +kernel
theorem dX1_pass_56 : decode cX1_pass 56 = .ok (.invokevirtual 188, 3) := by decide +kernel
theorem dX1_pass_59 : decode cX1_pass 59 = .ok (.ireturn, 1) := by decide +kernel
set_option maxRecDepth 20000 in
theorem ggX1_loose_X1_find : GoodIn wsX1_loose wsX1_find := goodIn_r _ [14, 15, 16, 17, 18, 13, 19, 55, 56, 57, 58, 59, 60, 61, 62, 63] (by decide +kernel) (by decide +kernel)
set_option maxRecDepth 20000 in
theorem gX1_loose_X1_find : GoodIn wsX1_loose (wsV RX1 94 RX1 yX1_find wsX1_find) := goodIn_app (goodIn_of _ (by decide +kernel)) ggX1_loose_X1_find
set_option maxRecDepth 20000 in
theorem ggX1_loose_X1_isLoose : GoodIn wsX1_loose wsX1_isLoose := goodIn_r _ [22, 23, 24, 25, 26, 27, 28, 29, 30, 31, 32, 33, 13, 34, 35, 36, 37, 17, 18, 19, 64, 65, 66, 67, 68, 69, 70, 71] (by decide +kernel) (by decide +kernel)
set_option maxRecDepth 20000 in
theorem gX1_loose_X1_isLoose : GoodIn wsX1_loose (va_wsS RX1 100 yX1_isLoose wsX1_isLoose) := goodIn_app (goodIn_of _ (by decide +kernel)) ggX1_loose_X1_isLoose
set_option maxRecDepth 20000 in
theorem ggX1_loose_X1_dryOneHour : GoodIn wsX1_loose wsX1_dryOneHour := goodIn_r _ [41, 42, 43, 44, 45, 46, 47, 48, 49, 50, 51, 35, 36, 13, 37, 17, 18, 19, 52, 53, 54, 55, 56, 57, 58, 59, 60, 61, 62, 63] (by decide +kernel) (by decide +kernel)
set_option maxRecDepth 20000 in
theorem gX1_loose_X1_dryOneHour : GoodIn wsX1_loose (wsV RX1 184 RX1 yX1_dryOneHour wsX1_dryOneHour) := goodIn_app (goodIn_of _ (by decide +kernel)) ggX1_loose_X1_dryOneHour
theorem dX1_loose_0 : decode cX1_loose 0 = .ok (.aload_n 0, 1) := by decide +kernel
theorem dX1_loose_1 : decode cX1_loose 1 = .ok (.iload_n 1, 1) := by decide +kernel
theorem dX1_loose_2 : decode cX1_loose 2 = .ok (.invokevirtual 94, 3) := by decide +kernel
theorem dX1_loose_5 : decode cX1_loose 5 = .ok (.astore_n 2, 1) := by decide +kernel
theorem dX1_loose_6 : decode cX1_loose 6 = .ok (.aload_n 2, 1) := by decide +kernel
theorem dX1_loose_7 : decode cX1_loose 7 = .ok (.ifnonnull 13, 3) := by decide +kernel
theorem dX1_loose_10 : decode cX1_loose 10 = .ok (.new 61, 3) := by decide +kernel
theorem dX1_loose_13 : decode cX1_loose 13 = .ok (.dup, 1) := by decide +kernel
theorem dX1_loose_14 : decode cX1_loose 14 = .ok (.ldc 98, 2) := by decide +kernel
theorem dX1_loose_16 : decode cX1_loose 16 = .ok (.invokespecial 65, 3) := by decide +kernel
theorem dX1_loose_19 : decode cX1_loose 19 = .ok (.athrow, 1) := by decide +kernel
theorem dX1_loose_20 : decode cX1_loose 20 = .ok (.aload_n 0, 1) := by decide +kernel
theorem dX1_loose_21 : decode cX1_loose 21 = .ok (.getfield 9, 3) := by decide +kernel
theorem dX1_loose_24 : decode cX1_loose 24 = .ok (.iconst 0, 1) := by decide +kernel
theorem dX1_loose_25 : decode cX1_loose 25 = .ok (.aload_n 0, 1) := by decide +kernel
theorem dX1_loose_26 : decode cX1_loose 26 = .ok (.getfield 25, 3) := by decide +kernel
theorem dX1_loose_29 : decode cX1_loose 29 = .ok (.iconst 0, 1) := by decide +kernel
theorem dX1_loose_30 : decode cX1_loose 30 = .ok (.bipush 80, 2) := by decide +kernel
theorem dX1_loose_32 : decode cX1_loose 32 = .ok (.invokestatic 191, 3) := by decide +kernel
theorem dX1_loose_35 : decode cX1_loose 35 = .ok (.iconst 0, 1) := by decide +kernel
theorem dX1_loose_36 : decode cX1_loose 36 = .ok (.istore_n 3, 1) := by decide +kernel
theorem dX1_loose_37 : decode cX1_loose 37 = .ok (.iload_n 3, 1) := by decide +kernel
theorem dX1_loose_38 : decode cX1_loose 38 = .ok (.sipush 200, 3) := by decide +kernel
theorem dX1_loose_41 : decode cX1_loose 41 = .ok (.if_icmp .gt 36, 3) := by decide +kernel
theorem dX1_loose_44 : decode cX1_loose 44 = .ok (.aload_n 2, 1) := by decide +kernel
theorem dX1_loose_45 : decode cX1_loose 45 = .ok (.aload_n 0, 1) := by decide +kernel
theorem dX1_loose_46 : decode cX1_loose 46 = .ok (.getfield 25, 3) := by decide +kernel
theorem dX1_loose_49 : decode cX1_loose 49 = .ok (.invokestatic 100, 3) := by decide +kernel
theorem dX1_loose_52 : decode cX1_loose 52 = .ok (.ifCond .ne 5, 3) := by decide +kernel
theorem dX1_loose_55 : decode cX1_loose 55 = .ok (.iload_n 3, 1) := by decide +kernel
theorem dX1_loose_56 : decode cX1_loose 56 = .ok (.ireturn, 1) := by decide +kernel
theorem dX1_loose_57 : decode cX1_loose 57 = .ok (.aload_n 0, 1) := by decide +kernel
theorem dX1_loose_58 : decode cX1_loose 58 = .ok (.aload_n 0, 1) := by decide +kernel
theorem dX1_loose_59 : decode cX1_loose 59 = .ok (.getfield 25, 3) := by decide +kernel
theorem dX1_loose_62 : decode cX1_loose 62 = .ok (.aload_n 0, 1) := by decide +kernel
theorem dX1_loose_63 : decode cX1_loose 63 = .ok (.getfield 181, 3) := by decide +kernel
theorem dX1_loose_66 : decode cX1_loose 66 = .ok (.iload_n 3, 1) := by decide +kernel
theorem dX1_loose_67 : decode cX1_loose 67 = .ok (.iadd, 1) := by decide +kernel
theorem dX1_loose_68 : decode cX1_loose 68 = .ok (.invokevirtual 184, 3) := by decide +kernel
theorem dX1_loose_71 : decode cX1_loose 71 = .ok (.iinc 3 1, 3) := by decide +kernel
theorem dX1_loose_74 : decode cX1_loose 74 = .ok (.goto (-37), 3) := by decide +kernel
theorem dX1_loose_77 : decode cX1_loose 77 = .ok (.iconst (-1), 1) := by decide +kernel
theorem dX1_loose_78 : decode cX1_loose 78 = .ok (.ireturn, 1) := by decide +kernel
set_option maxRecDepth 20000 in
theorem ggX1_dry_X1_cellsFrom : GoodIn wsX1_dry wsX1_cellsFrom := goodIn_r _ [11] (by decide +kernel) (by decide +kernel)
set_option maxRecDepth 20000 in
theorem gX1_dry_X1_cellsFrom : GoodIn wsX1_dry (va_wsS RX1 197 yX1_cellsFrom wsX1_cellsFrom) := goodIn_app (goodIn_of _ (by decide +kernel)) ggX1_dry_X1_cellsFrom
set_option maxRecDepth 20000 in
theorem ggX1_dry_X1_dryOneHour : GoodIn wsX1_dry wsX1_dryOneHour := goodIn_r _ [15, 16, 17, 18, 19, 20, 21, 22, 23, 24, 25, 26, 27, 10, 28, 29, 30, 31, 32, 33, 34, 35, 36, 37, 38, 39, 40, 41, 42, 43] (by decide +kernel) (by decide +kernel)
set_option maxRecDepth 20000 in
theorem gX1_dry_X1_dryOneHour : GoodIn wsX1_dry (wsV RX1 184 RX1 yX1_dryOneHour wsX1_dryOneHour) := goodIn_app (goodIn_of _ (by decide +kernel)) ggX1_dry_X1_dryOneHour
theorem dX1_dry_0 : decode cX1_dry 0 = .ok (.aload_n 0, 1) := by decide +kernel
theorem dX1_dry_1 : decode cX1_dry 1 = .ok (.getfield 9, 3) := by decide +kernel
theorem dX1_dry_4 : decode cX1_dry 4 = .ok (.iconst 0, 1) := by decide +kernel
theorem dX1_dry_5 : decode cX1_dry 5 = .ok (.aload_n 0, 1) := by decide +kernel
theorem dX1_dry_6 : decode cX1_dry 6 = .ok (.getfield 25, 3) := by decide +kernel
theorem dX1_dry_9 : decode cX1_dry 9 = .ok (.iconst 0, 1) := by decide +kernel
theorem dX1_dry_10 : decode cX1_dry 10 = .ok (.bipush 80, 2) := by decide +kernel
theorem dX1_dry_12 : decode cX1_dry 12 = .ok (.invokestatic 191, 3) := by decide +kernel
theorem dX1_dry_15 : decode cX1_dry 15 = .ok (.iconst 0, 1) := by decide +kernel
theorem dX1_dry_16 : decode cX1_dry 16 = .ok (.istore_n 1, 1) := by decide +kernel
theorem dX1_dry_17 : decode cX1_dry 17 = .ok (.iload_n 1, 1) := by decide +kernel
theorem dX1_dry_18 : decode cX1_dry 18 = .ok (.sipush 200, 3) := by decide +kernel
theorem dX1_dry_21 : decode cX1_dry 21 = .ok (.if_icmp .gt 36, 3) := by decide +kernel
