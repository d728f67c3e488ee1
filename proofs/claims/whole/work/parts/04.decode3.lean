theorem dX3_flip_0 : decode cX3_flip 0 = .ok (.aload_n 0, 1) := by decide +kernel
theorem dX3_flip_1 : decode cX3_flip 1 = .ok (.iconst 0, 1) := by decide +kernel
theorem dX3_flip_2 : decode cX3_flip 2 = .ok (.putfield 55, 3) := by decide +kernel
theorem dX3_flip_5 : decode cX3_flip 5 = .ok (.aload_n 0, 1) := by decide +kernel
theorem dX3_flip_6 : decode cX3_flip 6 = .ok (.iload_n 1, 1) := by decide +kernel
theorem dX3_flip_7 : decode cX3_flip 7 = .ok (.invokevirtual 86, 3) := by decide +kernel
theorem dX3_flip_10 : decode cX3_flip 10 = .ok (.ifCond .ne 9, 3) := by decide +kernel
theorem dX3_flip_13 : decode cX3_flip 13 = .ok (.aload_n 0, 1) := by decide +kernel
theorem dX3_flip_14 : decode cX3_flip 14 = .ok (.iconst 1, 1) := by decide +kernel
theorem dX3_flip_15 : decode cX3_flip 15 = .ok (.invokevirtual 70, 3) := by decide +kernel
theorem dX3_flip_18 : decode cX3_flip 18 = .ok (.ireturn, 1) := by decide +kernel
theorem dX3_flip_19 : decode cX3_flip 19 = .ok (.aload_n 0, 1) := by decide +kernel
theorem dX3_flip_20 : decode cX3_flip 20 = .ok (.getfield 45, 3) := by decide +kernel
theorem dX3_flip_23 : decode cX3_flip 23 = .ok (.iload_n 1, 1) := by decide +kernel
theorem dX3_flip_24 : decode cX3_flip 24 = .ok (.invokevirtual 89, 3) := by decide +kernel
theorem dX3_flip_27 : decode cX3_flip 27 = .ok (.ifCond .ne 9, 3) := by decide +kernel
theorem dX3_flip_30 : decode cX3_flip 30 = .ok (.aload_n 0, 1) := by decide +kernel
theorem dX3_flip_31 : decode cX3_flip 31 = .ok (.iconst 2, 1) := by decide +kernel
theorem dX3_flip_32 : decode cX3_flip 32 = .ok (.invokevirtual 70, 3) := by decide +kernel
theorem dX3_flip_35 : decode cX3_flip 35 = .ok (.ireturn, 1) := by decide +kernel
theorem dX3_flip_36 : decode cX3_flip 36 = .ok (.aload_n 0, 1) := by decide +kernel
theorem dX3_flip_37 : decode cX3_flip 37 = .ok (.iload_n 1, 1) := by decide +kernel
theorem dX3_flip_38 : decode cX3_flip 38 = .ok (.invokevirtual 92, 3) := by decide +kernel
theorem dX3_flip_41 : decode cX3_flip 41 = .ok (.aload_n 0, 1) := by decide +kernel
theorem dX3_flip_42 : decode cX3_flip 42 = .ok (.iload_n 1, 1) := by decide +kernel
theorem dX3_flip_43 : decode cX3_flip 43 = .ok (.iconst 0, 1) := by decide +kernel
theorem dX3_flip_44 : decode cX3_flip 44 = .ok (.invokevirtual 96, 3) := by decide +kernel
theorem dX3_flip_47 : decode cX3_flip 47 = .ok (.aload_n 0, 1) := by decide +kernel
theorem dX3_flip_48 : decode cX3_flip 48 = .ok (.getfield 19, 3) := by decide +kernel
theorem dX3_flip_51 : decode cX3_flip 51 = .ok (.iload_n 1, 1) := by decide +kernel
theorem dX3_flip_52 : decode cX3_flip 52 = .ok (.iaload, 1) := by decide +kernel
theorem dX3_flip_53 : decode cX3_flip 53 = .ok (.ireturn, 1) := by decide +kernel
set_option maxRecDepth 20000 in
theorem ggX3_turn_X3_isPiece : GoodIn wsX3_turn wsX3_isPiece := goodIn_r _ [10, 11, 12, 13, 9, 14, 35, 36, 37, 38, 39, 40, 41, 42, 43, 44, 45, 46, 47, 48] (by decide +kernel) (by decide +kernel)
set_option maxRecDepth 20000 in
theorem gX3_turn_X3_isPiece : GoodIn wsX3_turn (wsV RX3 86 RX3 yX3_isPiece wsX3_isPiece) := goodIn_app (goodIn_of _ (by decide +kernel)) ggX3_turn_X3_isPiece
set_option maxRecDepth 20000 in
theorem ggX3_turn_X3_no : GoodIn wsX3_turn wsX3_no := goodIn_r _ [18, 1, 35, 36, 37, 38, 39, 40, 41, 42, 43, 44, 45, 46, 47, 48] (by decide +kernel) (by decide +kernel)
set_option maxRecDepth 20000 in
theorem gX3_turn_X3_no : GoodIn wsX3_turn (wsV RX3 70 RX3 yX3_no wsX3_no) := goodIn_app (goodIn_of _ (by decide +kernel)) ggX3_turn_X3_no
set_option maxRecDepth 20000 in
theorem ggX3_turn_X2_isLoose : GoodIn wsX3_turn wsX2_isLoose := goodIn_r _ [23, 24, 25, 49, 50, 51, 35, 36, 37, 38, 39, 40, 41, 42, 43, 44, 45, 46, 47, 48] (by decide +kernel) (by decide +kernel)
set_option maxRecDepth 20000 in
theorem gX3_turn_X2_isLoose : GoodIn wsX3_turn (wsV RX3 89 RX2 yX2_isLoose wsX2_isLoose) := goodIn_app (goodIn_of _ (by decide +kernel)) ggX3_turn_X2_isLoose
set_option maxRecDepth 20000 in
theorem ggX3_turn_X3_canLie : GoodIn wsX3_turn wsX3_canLie := goodIn_r _ [29, 2, 30, 35, 36, 37, 38, 39, 40, 41, 42, 43, 44, 45, 46, 47, 48, 49, 50, 51] (by decide +kernel) (by decide +kernel)
set_option maxRecDepth 20000 in
theorem gX3_turn_X3_canLie : GoodIn wsX3_turn (wsV RX3 78 RX3 yX3_canLie wsX3_canLie) := goodIn_app (goodIn_of _ (by decide +kernel)) ggX3_turn_X3_canLie
set_option maxRecDepth 20000 in
theorem ggX3_turn_X3_coverBy : GoodIn wsX3_turn wsX3_coverBy := goodIn_r _ [34, 5, 4, 30, 3, 35, 36, 37, 38, 39, 40, 41, 42, 43, 44, 45, 46, 47, 48] (by decide +kernel) (by decide +kernel)
set_option maxRecDepth 20000 in
theorem gX3_turn_X3_coverBy : GoodIn wsX3_turn (wsV RX3 82 RX3 yX3_coverBy wsX3_coverBy) := goodIn_app (goodIn_of _ (by decide +kernel)) ggX3_turn_X3_coverBy
theorem dX3_turn_0 : decode cX3_turn 0 = .ok (.aload_n 0, 1) := by decide +kernel
theorem dX3_turn_1 : decode cX3_turn 1 = .ok (.iconst 0, 1) := by decide +kernel
theorem dX3_turn_2 : decode cX3_turn 2 = .ok (.putfield 55, 3) := by decide +kernel
theorem dX3_turn_5 : decode cX3_turn 5 = .ok (.aload_n 0, 1) := by decide +kernel
theorem dX3_turn_6 : decode cX3_turn 6 = .ok (.iload_n 1, 1) := by decide +kernel
theorem dX3_turn_7 : decode cX3_turn 7 = .ok (.invokevirtual 86, 3) := by decide +kernel
theorem dX3_turn_10 : decode cX3_turn 10 = .ok (.ifCond .ne 9, 3) := by decide +kernel
theorem dX3_turn_13 : decode cX3_turn 13 = .ok (.aload_n 0, 1) := by decide +kernel
theorem dX3_turn_14 : decode cX3_turn 14 = .ok (.iconst 1, 1) := by decide +kernel
theorem dX3_turn_15 : decode cX3_turn 15 = .ok (.invokevirtual 70, 3) := by decide +kernel
theorem dX3_turn_18 : decode cX3_turn 18 = .ok (.ireturn, 1) := by decide +kernel
theorem dX3_turn_19 : decode cX3_turn 19 = .ok (.aload_n 0, 1) := by decide +kernel
theorem dX3_turn_20 : decode cX3_turn 20 = .ok (.getfield 45, 3) := by decide +kernel
theorem dX3_turn_23 : decode cX3_turn 23 = .ok (.iload_n 1, 1) := by decide +kernel
theorem dX3_turn_24 : decode cX3_turn 24 = .ok (.invokevirtual 89, 3) := by decide +kernel
theorem dX3_turn_27 : decode cX3_turn 27 = .ok (.ifCond .eq 37, 3) := by decide +kernel
theorem dX3_turn_30 : decode cX3_turn 30 = .ok (.aload_n 0, 1) := by decide +kernel
theorem dX3_turn_31 : decode cX3_turn 31 = .ok (.aload_n 0, 1) := by decide +kernel
theorem dX3_turn_32 : decode cX3_turn 32 = .ok (.getfield 9, 3) := by decide +kernel
theorem dX3_turn_35 : decode cX3_turn 35 = .ok (.iload_n 1, 1) := by decide +kernel
theorem dX3_turn_36 : decode cX3_turn 36 = .ok (.iaload, 1) := by decide +kernel
theorem dX3_turn_37 : decode cX3_turn 37 = .ok (.aload_n 0, 1) := by decide +kernel
theorem dX3_turn_38 : decode cX3_turn 38 = .ok (.getfield 13, 3) := by decide +kernel
theorem dX3_turn_41 : decode cX3_turn 41 = .ok (.iload_n 1, 1) := by decide +kernel
theorem dX3_turn_42 : decode cX3_turn 42 = .ok (.iaload, 1) := by decide +kernel
theorem dX3_turn_43 : decode cX3_turn 43 = .ok (.aload_n 0, 1) := by decide +kernel
theorem dX3_turn_44 : decode cX3_turn 44 = .ok (.getfield 16, 3) := by decide +kernel
theorem dX3_turn_47 : decode cX3_turn 47 = .ok (.iload_n 1, 1) := by decide +kernel
theorem dX3_turn_48 : decode cX3_turn 48 = .ok (.iaload, 1) := by decide +kernel
theorem dX3_turn_49 : decode cX3_turn 49 = .ok (.ifCond .ne 7, 3) := by decide +kernel
theorem dX3_turn_52 : decode cX3_turn 52 = .ok (.iconst 1, 1) := by decide +kernel
theorem dX3_turn_53 : decode cX3_turn 53 = .ok (.goto 4, 3) := by decide +kernel
theorem dX3_turn_56 : decode cX3_turn 56 = .ok (.iconst 0, 1) := by decide +kernel
theorem dX3_turn_57 : decode cX3_turn 57 = .ok (.iload_n 1, 1) := by decide +kernel
theorem dX3_turn_58 : decode cX3_turn 58 = .ok (.invokevirtual 78, 3) := by decide +kernel
theorem dX3_turn_61 : decode cX3_turn 61 = .ok (.ifCond .ne 9, 3) := by decide +kernel
theorem dX3_turn_64 : decode cX3_turn 64 = .ok (.aload_n 0, 1) := by decide +kernel
theorem dX3_turn_65 : decode cX3_turn 65 = .ok (.iconst 2, 1) := by decide +kernel
theorem dX3_turn_66 : decode cX3_turn 66 = .ok (.invokevirtual 70, 3) := by decide +kernel
theorem dX3_turn_69 : decode cX3_turn 69 = .ok (.ireturn, 1) := by decide +kernel
theorem dX3_turn_70 : decode cX3_turn 70 = .ok (.aload_n 0, 1) := by decide +kernel
theorem dX3_turn_71 : decode cX3_turn 71 = .ok (.iload_n 1, 1) := by decide +kernel
theorem dX3_turn_72 : decode cX3_turn 72 = .ok (.iconst (-1), 1) := by decide +kernel
theorem dX3_turn_73 : decode cX3_turn 73 = .ok (.invokevirtual 82, 3) := by decide +kernel
theorem dX3_turn_76 : decode cX3_turn 76 = .ok (.aload_n 0, 1) := by decide +kernel
theorem dX3_turn_77 : decode cX3_turn 77 = .ok (.getfield 16, 3) := by decide +kernel
theorem dX3_turn_80 : decode cX3_turn 80 = .ok (.iload_n 1, 1) := by decide +kernel
theorem dX3_turn_81 : decode cX3_turn 81 = .ok (.iconst 1, 1) := by decide +kernel
theorem dX3_turn_82 : decode cX3_turn 82 = .ok (.aload_n 0, 1) := by decide +kernel
theorem dX3_turn_83 : decode cX3_turn 83 = .ok (.getfield 16, 3) := by decide +kernel
theorem dX3_turn_86 : decode cX3_turn 86 = .ok (.iload_n 1, 1) := by decide +kernel
theorem dX3_turn_87 : decode cX3_turn 87 = .ok (.iaload, 1) := by decide +kernel
theorem dX3_turn_88 : decode cX3_turn 88 = .ok (.isub, 1) := by decide +kernel
theorem dX3_turn_89 : decode cX3_turn 89 = .ok (.iastore, 1) := by decide +kernel
theorem dX3_turn_90 : decode cX3_turn 90 = .ok (.aload_n 0, 1) := by decide +kernel
theorem dX3_turn_91 : decode cX3_turn 91 = .ok (.iload_n 1, 1) := by decide +kernel
theorem dX3_turn_92 : decode cX3_turn 92 = .ok (.iload_n 1, 1) := by decide +kernel
theorem dX3_turn_93 : decode cX3_turn 93 = .ok (.invokevirtual 82, 3) := by decide +kernel
theorem dX3_turn_96 : decode cX3_turn 96 = .ok (.aload_n 0, 1) := by decide +kernel
theorem dX3_turn_97 : decode cX3_turn 97 = .ok (.getfield 13, 3) := by decide +kernel
theorem dX3_turn_100 : decode cX3_turn 100 = .ok (.iload_n 1, 1) := by decide +kernel
theorem dX3_turn_101 : decode cX3_turn 101 = .ok (.iaload, 1) := by decide +kernel
theorem dX3_turn_102 : decode cX3_turn 102 = .ok (.ireturn, 1) := by decide +kernel
set_option maxRecDepth 20000 in
theorem ggX3_take_X3_isPiece : GoodIn wsX3_take wsX3_isPiece := goodIn_r _ [8, 9, 10, 11, 7, 12, 36, 37, 38, 39, 40, 41, 42, 43, 44, 45, 46, 47, 48, 49] (by decide +kernel) (by decide +kernel)
set_option maxRecDepth 20000 in
theorem gX3_take_X3_isPiece : GoodIn wsX3_take (wsV RX3 86 RX3 yX3_isPiece wsX3_isPiece) := goodIn_app (goodIn_of _ (by decide +kernel)) ggX3_take_X3_isPiece
set_option maxRecDepth 20000 in
theorem ggX3_take_X3_no : GoodIn wsX3_take wsX3_no := goodIn_r _ [16, 1, 36, 37, 38, 39, 40, 41, 42, 43, 44, 45, 46, 47, 48, 49] (by decide +kernel) (by decide +kernel)
set_option maxRecDepth 20000 in
theorem gX3_take_X3_no : GoodIn wsX3_take (wsV RX3 70 RX3 yX3_no wsX3_no) := goodIn_app (goodIn_of _ (by decide +kernel)) ggX3_take_X3_no
set_option maxRecDepth 20000 in
theorem ggX3_take_X2_isLoose : GoodIn wsX3_take wsX2_isLoose := goodIn_r _ [21, 22, 23, 50, 51, 52, 36, 37, 38, 39, 40, 41, 42, 43, 44, 45, 46, 47, 48, 49] (by decide +kernel) (by decide +kernel)
set_option maxRecDepth 20000 in
theorem gX3_take_X2_isLoose : GoodIn wsX3_take (wsV RX3 89 RX2 yX2_isLoose wsX2_isLoose) := goodIn_app (goodIn_of _ (by decide +kernel)) ggX3_take_X2_isLoose
set_option maxRecDepth 20000 in
theorem ggX3_take_X3_change : GoodIn wsX3_take wsX3_change := goodIn_r _ [27, 28, 29, 30, 3, 36, 37, 38, 39, 40, 41, 42, 43, 44, 45, 46, 47, 48, 49, 50, 51, 52] (by decide +kernel) (by decide +kernel)
set_option maxRecDepth 20000 in
theorem gX3_take_X3_change : GoodIn wsX3_take (wsV RX3 96 RX3 yX3_change wsX3_change) := goodIn_app (goodIn_of _ (by decide +kernel)) ggX3_take_X3_change
set_option maxRecDepth 20000 in
theorem ggX3_take_X3_coverBy : GoodIn wsX3_take wsX3_coverBy := goodIn_r _ [34, 28, 29, 35, 30, 36, 37, 38, 39, 40, 41, 42, 43, 44, 45, 46, 47, 48, 49] (by decide +kernel) (by decide +kernel)
set_option maxRecDepth 20000 in
theorem gX3_take_X3_coverBy : GoodIn wsX3_take (wsV RX3 82 RX3 yX3_coverBy wsX3_coverBy) := goodIn_app (goodIn_of _ (by decide +kernel)) ggX3_take_X3_coverBy
theorem dX3_take_0 : decode cX3_take 0 = .ok (.aload_n 0, 1) := by decide +kernel
theorem dX3_take_1 : decode cX3_take 1 = .ok (.iconst 0, 1) := by decide +kernel
theorem dX3_take_2 : decode cX3_take 2 = .ok (.putfield 55, 3) := by decide +kernel
theorem dX3_take_5 : decode cX3_take 5 = .ok (.aload_n 0, 1) := by decide +kernel
theorem dX3_take_6 : decode cX3_take 6 = .ok (.iload_n 1, 1) := by decide +kernel
theorem dX3_take_7 : decode cX3_take 7 = .ok (.invokevirtual 86, 3) := by decide +kernel
theorem dX3_take_10 : decode cX3_take 10 = .ok (.ifCond .ne 17, 3) := by decide +kernel
theorem dX3_take_13 : decode cX3_take 13 = .ok (.aload_n 0, 1) := by decide +kernel
theorem dX3_take_14 : decode cX3_take 14 = .ok (.iconst 1, 1) := by decide +kernel
theorem dX3_take_15 : decode cX3_take 15 = .ok (.invokevirtual 70, 3) := by decide +kernel
theorem dX3_take_18 : decode cX3_take 18 = .ok (.ifCond .eq 7, 3) := by decide +kernel
theorem dX3_take_21 : decode cX3_take 21 = .ok (.iconst 1, 1) := by decide +kernel
theorem dX3_take_22 : decode cX3_take 22 = .ok (.goto 4, 3) := by decide +kernel
theorem dX3_take_25 : decode cX3_take 25 = .ok (.iconst 0, 1) := by decide +kernel
theorem dX3_take_26 : decode cX3_take 26 = .ok (.ireturn, 1) := by decide +kernel
theorem dX3_take_27 : decode cX3_take 27 = .ok (.aload_n 0, 1) := by decide +kernel
theorem dX3_take_28 : decode cX3_take 28 = .ok (.getfield 25, 3) := by decide +kernel
theorem dX3_take_31 : decode cX3_take 31 = .ok (.iload_n 1, 1) := by decide +kernel
theorem dX3_take_32 : decode cX3_take 32 = .ok (.iaload, 1) := by decide +kernel
theorem dX3_take_33 : decode cX3_take 33 = .ok (.iconst 1, 1) := by decide +kernel
theorem dX3_take_34 : decode cX3_take 34 = .ok (.if_icmp .ne 17, 3) := by decide +kernel
theorem dX3_take_37 : decode cX3_take 37 = .ok (.aload_n 0, 1) := by decide +kernel
theorem dX3_take_38 : decode cX3_take 38 = .ok (.iconst 2, 1) := by decide +kernel
theorem dX3_take_39 : decode cX3_take 39 = .ok (.invokevirtual 70, 3) := by decide +kernel
theorem dX3_take_42 : decode cX3_take 42 = .ok (.ifCond .eq 7, 3) := by decide +kernel
theorem dX3_take_45 : decode cX3_take 45 = .ok (.iconst 1, 1) := by decide +kernel
theorem dX3_take_46 : decode cX3_take 46 = .ok (.goto 4, 3) := by decide +kernel
theorem dX3_take_49 : decode cX3_take 49 = .ok (.iconst 0, 1) := by decide +kernel
theorem dX3_take_50 : decode cX3_take 50 = .ok (.ireturn, 1) := by decide +kernel
theorem dX3_take_51 : decode cX3_take 51 = .ok (.aload_n 0, 1) := by decide +kernel
theorem dX3_take_52 : decode cX3_take 52 = .ok (.getfield 45, 3) := by decide +kernel
theorem dX3_take_55 : decode cX3_take 55 = .ok (.iload_n 1, 1) := by decide +kernel
theorem dX3_take_56 : decode cX3_take 56 = .ok (.invokevirtual 89, 3) := by decide +kernel
theorem dX3_take_59 : decode cX3_take 59 = .ok (.istore_n 2, 1) := by decide +kernel
theorem dX3_take_60 : decode cX3_take 60 = .ok (.iload_n 2, 1) := by decide +kernel
theorem dX3_take_61 : decode cX3_take 61 = .ok (.ifCond .ne 9, 3) := by decide +kernel
theorem dX3_take_64 : decode cX3_take 64 = .ok (.aload_n 0, 1) := by decide +kernel
theorem dX3_take_65 : decode cX3_take 65 = .ok (.iload_n 1, 1) := by decide +kernel
theorem dX3_take_66 : decode cX3_take 66 = .ok (.iconst 1, 1) := by decide +kernel
theorem dX3_take_67 : decode cX3_take 67 = .ok (.invokevirtual 96, 3) := by decide +kernel
theorem dX3_take_70 : decode cX3_take 70 = .ok (.aload_n 0, 1) := by decide +kernel
theorem dX3_take_71 : decode cX3_take 71 = .ok (.iload_n 1, 1) := by decide +kernel
theorem dX3_take_72 : decode cX3_take 72 = .ok (.iconst (-1), 1) := by decide +kernel
theorem dX3_take_73 : decode cX3_take 73 = .ok (.invokevirtual 82, 3) := by decide +kernel
theorem dX3_take_76 : decode cX3_take 76 = .ok (.aload_n 0, 1) := by decide +kernel
theorem dX3_take_77 : decode cX3_take 77 = .ok (.getfield 25, 3) := by decide +kernel
theorem dX3_take_80 : decode cX3_take 80 = .ok (.iload_n 1, 1) := by decide +kernel
theorem dX3_take_81 : decode cX3_take 81 = .ok (.iconst 1, 1) := by decide +kernel
theorem dX3_take_82 : decode cX3_take 82 = .ok (.iastore, 1) := by decide +kernel
theorem dX3_take_83 : decode cX3_take 83 = .ok (.iload_n 2, 1) := by decide +kernel
theorem dX3_take_84 : decode cX3_take 84 = .ok (.ireturn, 1) := by decide +kernel
theorem dX3_shown_0 : decode cX3_shown 0 = .ok (.aload_n 0, 1) := by decide +kernel
theorem dX3_shown_1 : decode cX3_shown 1 = .ok (.getfield 28, 3) := by decide +kernel
theorem dX3_shown_4 : decode cX3_shown 4 = .ok (.iload_n 1, 1) := by decide +kernel
theorem dX3_shown_5 : decode cX3_shown 5 = .ok (.iaload, 1) := by decide +kernel
theorem dX3_shown_6 : decode cX3_shown 6 = .ok (.iconst (-1), 1) := by decide +kernel
theorem dX3_shown_7 : decode cX3_shown 7 = .ok (.if_icmp .ne 7, 3) := by decide +kernel
theorem dX3_shown_10 : decode cX3_shown 10 = .ok (.iconst (-1), 1) := by decide +kernel
theorem dX3_shown_11 : decode cX3_shown 11 = .ok (.goto 14, 3) := by decide +kernel
theorem dX3_shown_14 : decode cX3_shown 14 = .ok (.aload_n 0, 1) := by decide +kernel
theorem dX3_shown_15 : decode cX3_shown 15 = .ok (.getfield 19, 3) := by decide +kernel
theorem dX3_shown_18 : decode cX3_shown 18 = .ok (.aload_n 0, 1) := by decide +kernel
theorem dX3_shown_19 : decode cX3_shown 19 = .ok (.getfield 28, 3) := by decide +kernel
theorem dX3_shown_22 : decode cX3_shown 22 = .ok (.iload_n 1, 1) := by decide +kernel
theorem dX3_shown_23 : decode cX3_shown 23 = .ok (.iaload, 1) := by decide +kernel
theorem dX3_shown_24 : decode cX3_shown 24 = .ok (.iaload, 1) := by decide +kernel
theorem dX3_shown_25 : decode cX3_shown 25 = .ok (.ireturn, 1) := by decide +kernel
set_option maxRecDepth 20000 in
theorem ggX3_cellTold_X3_shown : GoodIn wsX3_cellTold wsX3_shown := goodIn_r _ [7, 2, 8, 9, 10, 11, 12, 13, 14, 15, 16, 17, 18, 19, 20, 21, 22] (by decide +kernel) (by decide +kernel)
set_option maxRecDepth 20000 in
theorem gX3_cellTold_X3_shown : GoodIn wsX3_cellTold (wsV RX3 100 RX3 yX3_shown wsX3_shown) := goodIn_app (goodIn_of _ (by decide +kernel)) ggX3_cellTold_X3_shown
theorem dX3_cellTold_0 : decode cX3_cellTold 0 = .ok (.iload_n 2, 1) := by decide +kernel
theorem dX3_cellTold_1 : decode cX3_cellTold 1 = .ok (.ifCond .ne 15, 3) := by decide +kernel
theorem dX3_cellTold_4 : decode cX3_cellTold 4 = .ok (.aload_n 0, 1) := by decide +kernel
theorem dX3_cellTold_5 : decode cX3_cellTold 5 = .ok (.getfield 45, 3) := by decide +kernel
theorem dX3_cellTold_8 : decode cX3_cellTold 8 = .ok (.getfield 52, 3) := by decide +kernel
theorem dX3_cellTold_11 : decode cX3_cellTold 11 = .ok (.iload_n 1, 1) := by decide +kernel
theorem dX3_cellTold_12 : decode cX3_cellTold 12 = .ok (.iaload, 1) := by decide +kernel
theorem dX3_cellTold_13 : decode cX3_cellTold 13 = .ok (.goto 22, 3) := by decide +kernel
theorem dX3_cellTold_16 : decode cX3_cellTold 16 = .ok (.iload_n 2, 1) := by decide +kernel
theorem dX3_cellTold_17 : decode cX3_cellTold 17 = .ok (.iconst 1, 1) := by decide +kernel
theorem dX3_cellTold_18 : decode cX3_cellTold 18 = .ok (.if_icmp .ne 12, 3) := by decide +kernel
theorem dX3_cellTold_21 : decode cX3_cellTold 21 = .ok (.aload_n 0, 1) := by decide +kernel
theorem dX3_cellTold_22 : decode cX3_cellTold 22 = .ok (.getfield 28, 3) := by decide +kernel
theorem dX3_cellTold_25 : decode cX3_cellTold 25 = .ok (.iload_n 1, 1) := by decide +kernel
theorem dX3_cellTold_26 : decode cX3_cellTold 26 = .ok (.iaload, 1) := by decide +kernel
theorem dX3_cellTold_27 : decode cX3_cellTold 27 = .ok (.goto 8, 3) := by decide +kernel
theorem dX3_cellTold_30 : decode cX3_cellTold 30 = .ok (.aload_n 0, 1) := by decide +kernel
theorem dX3_cellTold_31 : decode cX3_cellTold 31 = .ok (.iload_n 1, 1) := by decide +kernel
theorem dX3_cellTold_32 : decode cX3_cellTold 32 = .ok (.invokevirtual 100, 3) := by decide +kernel
theorem dX3_cellTold_35 : decode cX3_cellTold 35 = .ok (.ireturn, 1) := by decide +kernel
set_option maxRecDepth 20000 in
theorem ggX3_cell_X3_isCell : GoodIn wsX3_cell wsX3_isCell := goodIn_r _ [5, 6, 7, 4, 8] (by decide +kernel) (by decide +kernel)
set_option maxRecDepth 20000 in
theorem gX3_cell_X3_isCell : GoodIn wsX3_cell (va_wsS RX3 66 yX3_isCell wsX3_isCell) := goodIn_app (goodIn_of _ (by decide +kernel)) ggX3_cell_X3_isCell
set_option maxRecDepth 20000 in
theorem ggX3_cell_X3_isIn : GoodIn wsX3_cell wsX3_isIn := goodIn_r _ [8] (by decide +kernel) (by decide +kernel)
set_option maxRecDepth 20000 in
theorem gX3_cell_X3_isIn : GoodIn wsX3_cell (va_wsS RX3 59 yX3_isIn wsX3_isIn) := goodIn_app (goodIn_of _ (by decide +kernel)) ggX3_cell_X3_isIn
set_option maxRecDepth 20000 in
theorem ggX3_cell_X3_cellTold : GoodIn wsX3_cell wsX3_cellTold := goodIn_r _ [12, 13, 14, 15, 16, 17, 4, 18, 19, 24, 25, 26, 27, 28, 29, 30, 31, 32, 33, 34, 35, 36, 37, 38, 39, 40] (by decide +kernel) (by decide +kernel)
set_option maxRecDepth 20000 in
theorem gX3_cell_X3_cellTold : GoodIn wsX3_cell (wsV RX3 103 RX3 yX3_cellTold wsX3_cellTold) := goodIn_app (goodIn_of _ (by decide +kernel)) ggX3_cell_X3_cellTold
set_option maxRecDepth 20000 in
theorem ggX3_cell_X3_no : GoodIn wsX3_cell wsX3_no := goodIn_r _ [23, 1, 24, 25, 26, 27, 28, 29, 30, 31, 32, 33, 34, 35, 36, 37] (by decide +kernel) (by decide +kernel)
set_option maxRecDepth 20000 in
theorem gX3_cell_X3_no : GoodIn wsX3_cell (wsV RX3 70 RX3 yX3_no wsX3_no) := goodIn_app (goodIn_of _ (by decide +kernel)) ggX3_cell_X3_no
theorem dX3_cell_0 : decode cX3_cell 0 = .ok (.aload_n 0, 1) := by decide +kernel
theorem dX3_cell_1 : decode cX3_cell 1 = .ok (.iconst 0, 1) := by decide +kernel
theorem dX3_cell_2 : decode cX3_cell 2 = .ok (.putfield 55, 3) := by decide +kernel
theorem dX3_cell_5 : decode cX3_cell 5 = .ok (.iload_n 1, 1) := by decide +kernel
theorem dX3_cell_6 : decode cX3_cell 6 = .ok (.iload_n 2, 1) := by decide +kernel
theorem dX3_cell_7 : decode cX3_cell 7 = .ok (.invokestatic 66, 3) := by decide +kernel
theorem dX3_cell_10 : decode cX3_cell 10 = .ok (.ifCond .eq 26, 3) := by decide +kernel
theorem dX3_cell_13 : decode cX3_cell 13 = .ok (.iload_n 3, 1) := by decide +kernel
theorem dX3_cell_14 : decode cX3_cell 14 = .ok (.iconst 0, 1) := by decide +kernel
theorem dX3_cell_15 : decode cX3_cell 15 = .ok (.iconst 2, 1) := by decide +kernel
theorem dX3_cell_16 : decode cX3_cell 16 = .ok (.invokestatic 59, 3) := by decide +kernel
theorem dX3_cell_19 : decode cX3_cell 19 = .ok (.ifCond .eq 17, 3) := by decide +kernel
theorem dX3_cell_22 : decode cX3_cell 22 = .ok (.aload_n 0, 1) := by decide +kernel
theorem dX3_cell_23 : decode cX3_cell 23 = .ok (.bipush 10, 2) := by decide +kernel
theorem dX3_cell_25 : decode cX3_cell 25 = .ok (.iload_n 2, 1) := by decide +kernel
theorem dX3_cell_26 : decode cX3_cell 26 = .ok (.imul, 1) := by decide +kernel
theorem dX3_cell_27 : decode cX3_cell 27 = .ok (.iload_n 1, 1) := by decide +kernel
theorem dX3_cell_28 : decode cX3_cell 28 = .ok (.iadd, 1) := by decide +kernel
theorem dX3_cell_29 : decode cX3_cell 29 = .ok (.iload_n 3, 1) := by decide +kernel
theorem dX3_cell_30 : decode cX3_cell 30 = .ok (.invokevirtual 103, 3) := by decide +kernel
theorem dX3_cell_33 : decode cX3_cell 33 = .ok (.goto 8, 3) := by decide +kernel
theorem dX3_cell_36 : decode cX3_cell 36 = .ok (.aload_n 0, 1) := by decide +kernel
theorem dX3_cell_37 : decode cX3_cell 37 = .ok (.iconst 1, 1) := by decide +kernel
theorem dX3_cell_38 : decode cX3_cell 38 = .ok (.invokevirtual 70, 3) := by decide +kernel
theorem dX3_cell_41 : decode cX3_cell 41 = .ok (.ireturn, 1) := by decide +kernel
set_option maxRecDepth 20000 in
theorem ggX3_pieceTold_X2_isLoose : GoodIn wsX3_pieceTold wsX2_isLoose := goodIn_r _ [12, 13, 14, 29, 30, 31, 15, 16, 17, 18, 19, 20, 21, 22, 23, 24, 25, 26, 27, 28] (by decide +kernel) (by decide +kernel)
set_option maxRecDepth 20000 in
theorem gX3_pieceTold_X2_isLoose : GoodIn wsX3_pieceTold (wsV RX3 89 RX2 yX2_isLoose wsX2_isLoose) := goodIn_app (goodIn_of _ (by decide +kernel)) ggX3_pieceTold_X2_isLoose
theorem dX3_pieceTold_0 : decode cX3_pieceTold 0 = .ok (.iload_n 2, 1) := by decide +kernel
theorem dX3_pieceTold_1 : decode cX3_pieceTold 1 = .ok (.tableswitch 108 0 6 #[43, 53, 63, 70, 77, 84, 91], 43) := by decide +kernel
theorem dX3_pieceTold_44 : decode cX3_pieceTold 44 = .ok (.aload_n 0, 1) := by decide +kernel
theorem dX3_pieceTold_45 : decode cX3_pieceTold 45 = .ok (.getfield 9, 3) := by decide +kernel
theorem dX3_pieceTold_48 : decode cX3_pieceTold 48 = .ok (.iload_n 1, 1) := by decide +kernel
theorem dX3_pieceTold_49 : decode cX3_pieceTold 49 = .ok (.iaload, 1) := by decide +kernel
theorem dX3_pieceTold_50 : decode cX3_pieceTold 50 = .ok (.bipush 10, 2) := by decide +kernel
theorem dX3_pieceTold_52 : decode cX3_pieceTold 52 = .ok (.irem, 1) := by decide +kernel
theorem dX3_pieceTold_53 : decode cX3_pieceTold 53 = .ok (.ireturn, 1) := by decide +kernel
theorem dX3_pieceTold_54 : decode cX3_pieceTold 54 = .ok (.aload_n 0, 1) := by decide +kernel
theorem dX3_pieceTold_55 : decode cX3_pieceTold 55 = .ok (.getfield 9, 3) := by decide +kernel
theorem dX3_pieceTold_58 : decode cX3_pieceTold 58 = .ok (.iload_n 1, 1) := by decide +kernel
theorem dX3_pieceTold_59 : decode cX3_pieceTold 59 = .ok (.iaload, 1) := by decide +kernel
theorem dX3_pieceTold_60 : decode cX3_pieceTold 60 = .ok (.bipush 10, 2) := by decide +kernel
theorem dX3_pieceTold_62 : decode cX3_pieceTold 62 = .ok (.idiv, 1) := by decide +kernel
theorem dX3_pieceTold_63 : decode cX3_pieceTold 63 = .ok (.ireturn, 1) := by decide +kernel
theorem dX3_pieceTold_64 : decode cX3_pieceTold 64 = .ok (.aload_n 0, 1) := by decide +kernel
theorem dX3_pieceTold_65 : decode cX3_pieceTold 65 = .ok (.getfield 13, 3) := by decide +kernel
theorem dX3_pieceTold_68 : decode cX3_pieceTold 68 = .ok (.iload_n 1, 1) := by decide +kernel
theorem dX3_pieceTold_69 : decode cX3_pieceTold 69 = .ok (.iaload, 1) := by decide +kernel
theorem dX3_pieceTold_70 : decode cX3_pieceTold 70 = .ok (.ireturn, 1) := by decide +kernel
theorem dX3_pieceTold_71 : decode cX3_pieceTold 71 = .ok (.aload_n 0, 1) := by decide +kernel
theorem dX3_pieceTold_72 : decode cX3_pieceTold 72 = .ok (.getfield 16, 3) := by decide +kernel
theorem dX3_pieceTold_75 : decode cX3_pieceTold 75 = .ok (.iload_n 1, 1) := by decide +kernel
theorem dX3_pieceTold_76 : decode cX3_pieceTold 76 = .ok (.iaload, 1) := by decide +kernel
theorem dX3_pieceTold_77 : decode cX3_pieceTold 77 = .ok (.ireturn, 1) := by decide +kernel
theorem dX3_pieceTold_78 : decode cX3_pieceTold 78 = .ok (.aload_n 0, 1) := by decide +kernel
theorem dX3_pieceTold_79 : decode cX3_pieceTold 79 = .ok (.getfield 19, 3) := by decide +kernel
theorem dX3_pieceTold_82 : decode cX3_pieceTold 82 = .ok (.iload_n 1, 1) := by decide +kernel
theorem dX3_pieceTold_83 : decode cX3_pieceTold 83 = .ok (.iaload, 1) := by decide +kernel
theorem dX3_pieceTold_84 : decode cX3_pieceTold 84 = .ok (.ireturn, 1) := by decide +kernel
theorem dX3_pieceTold_85 : decode cX3_pieceTold 85 = .ok (.aload_n 0, 1) := by decide +kernel
theorem dX3_pieceTold_86 : decode cX3_pieceTold 86 = .ok (.getfield 22, 3) := by decide +kernel
theorem dX3_pieceTold_89 : decode cX3_pieceTold 89 = .ok (.iload_n 1, 1) := by decide +kernel
theorem dX3_pieceTold_90 : decode cX3_pieceTold 90 = .ok (.iaload, 1) := by decide +kernel
theorem dX3_pieceTold_91 : decode cX3_pieceTold 91 = .ok (.ireturn, 1) := by decide +kernel
theorem dX3_pieceTold_92 : decode cX3_pieceTold 92 = .ok (.aload_n 0, 1) := by decide +kernel
theorem dX3_pieceTold_93 : decode cX3_pieceTold 93 = .ok (.getfield 45, 3) := by decide +kernel
theorem dX3_pieceTold_96 : decode cX3_pieceTold 96 = .ok (.iload_n 1, 1) := by decide +kernel
theorem dX3_pieceTold_97 : decode cX3_pieceTold 97 = .ok (.invokevirtual 89, 3) := by decide +kernel
theorem dX3_pieceTold_100 : decode cX3_pieceTold 100 = .ok (.ifCond .eq 7, 3) := by decide +kernel
theorem dX3_pieceTold_103 : decode cX3_pieceTold 103 = .ok (.iconst 1, 1) := by decide +kernel
theorem dX3_pieceTold_104 : decode cX3_pieceTold 104 = .ok (.goto 4, 3) := by decide +kernel
theorem dX3_pieceTold_107 : decode cX3_pieceTold 107 = .ok (.iconst 0, 1) := by decide +kernel
theorem dX3_pieceTold_108 : decode cX3_pieceTold 108 = .ok (.ireturn, 1) := by decide +kernel
theorem dX3_pieceTold_109 : decode cX3_pieceTold 109 = .ok (.aload_n 0, 1) := by decide +kernel
theorem dX3_pieceTold_110 : decode cX3_pieceTold 110 = .ok (.getfield 25, 3) := by decide +kernel
theorem dX3_pieceTold_113 : decode cX3_pieceTold 113 = .ok (.iload_n 1, 1) := by decide +kernel
theorem dX3_pieceTold_114 : decode cX3_pieceTold 114 = .ok (.iaload, 1) := by decide +kernel
theorem dX3_pieceTold_115 : decode cX3_pieceTold 115 = .ok (.ireturn, 1) := by decide +kernel
set_option maxRecDepth 20000 in
theorem ggX3_piece_X3_isPiece : GoodIn wsX3_piece wsX3_isPiece := goodIn_r _ [6, 7, 8, 9, 5, 10, 33, 34, 35, 36, 37, 38, 39, 40, 41, 42, 43, 44, 45, 46] (by decide +kernel) (by decide +kernel)
set_option maxRecDepth 20000 in
theorem gX3_piece_X3_isPiece : GoodIn wsX3_piece (wsV RX3 86 RX3 yX3_isPiece wsX3_isPiece) := goodIn_app (goodIn_of _ (by decide +kernel)) ggX3_piece_X3_isPiece
set_option maxRecDepth 20000 in
theorem ggX3_piece_X3_isIn : GoodIn wsX3_piece wsX3_isIn := goodIn_r _ [10] (by decide +kernel) (by decide +kernel)
set_option maxRecDepth 20000 in
theorem gX3_piece_X3_isIn : GoodIn wsX3_piece (va_wsS RX3 59 yX3_isIn wsX3_isIn) := goodIn_app (goodIn_of _ (by decide +kernel)) ggX3_piece_X3_isIn
set_option maxRecDepth 20000 in
theorem ggX3_piece_X3_pieceTold : GoodIn wsX3_piece wsX3_pieceTold := goodIn_r _ [14, 15, 16, 17, 18, 19, 20, 21, 22, 23, 24, 25, 26, 27, 28, 33, 34, 35, 36, 37, 38, 39, 40, 41, 42, 43, 44, 45, 46, 47, 48, 49] (by decide +kernel) (by decide +kernel)
set_option maxRecDepth 20000 in
theorem gX3_piece_X3_pieceTold : GoodIn wsX3_piece (wsV RX3 107 RX3 yX3_pieceTold wsX3_pieceTold) := goodIn_app (goodIn_of _ (by decide +kernel)) ggX3_piece_X3_pieceTold
set_option maxRecDepth 20000 in
theorem ggX3_piece_X3_no : GoodIn wsX3_piece wsX3_no := goodIn_r _ [32, 1, 33, 34, 35, 36, 37, 38, 39, 40, 41, 42, 43, 44, 45, 46] (by decide +kernel) (by decide +kernel)
set_option maxRecDepth 20000 in
theorem gX3_piece_X3_no : GoodIn wsX3_piece (wsV RX3 70 RX3 yX3_no wsX3_no) := goodIn_app (goodIn_of _ (by decide +kernel)) ggX3_piece_X3_no
theorem dX3_piece_0 : decode cX3_piece 0 = .ok (.aload_n 0, 1) := by decide +kernel
theorem dX3_piece_1 : decode cX3_piece 1 = .ok (.iconst 0, 1) := by decide +kernel
theorem dX3_piece_2 : decode cX3_piece 2 = .ok (.putfield 55, 3) := by decide +kernel
theorem dX3_piece_5 : decode cX3_piece 5 = .ok (.aload_n 0, 1) := by decide +kernel
theorem dX3_piece_6 : decode cX3_piece 6 = .ok (.iload_n 1, 1) := by decide +kernel
theorem dX3_piece_7 : decode cX3_piece 7 = .ok (.invokevirtual 86, 3) := by decide +kernel
theorem dX3_piece_10 : decode cX3_piece 10 = .ok (.ifCond .eq 22, 3) := by decide +kernel
theorem dX3_piece_13 : decode cX3_piece 13 = .ok (.iload_n 2, 1) := by decide +kernel
theorem dX3_piece_14 : decode cX3_piece 14 = .ok (.iconst 0, 1) := by decide +kernel
theorem dX3_piece_15 : decode cX3_piece 15 = .ok (.bipush 7, 2) := by decide +kernel
theorem dX3_piece_17 : decode cX3_piece 17 = .ok (.invokestatic 59, 3) := by decide +kernel
theorem dX3_piece_20 : decode cX3_piece 20 = .ok (.ifCond .eq 12, 3) := by decide +kernel
theorem dX3_piece_23 : decode cX3_piece 23 = .ok (.aload_n 0, 1) := by decide +kernel
theorem dX3_piece_24 : decode cX3_piece 24 = .ok (.iload_n 1, 1) := by decide +kernel
theorem dX3_piece_25 : decode cX3_piece 25 = .ok (.iload_n 2, 1) := by decide +kernel
theorem dX3_piece_26 : decode cX3_piece 26 = .ok (.invokevirtual 107, 3) := by decide +kernel
theorem dX3_piece_29 : decode cX3_piece 29 = .ok (.goto 8, 3) := by decide +kernel
theorem dX3_piece_32 : decode cX3_piece 32 = .ok (.aload_n 0, 1) := by decide +kernel
theorem dX3_piece_33 : decode cX3_piece 33 = .ok (.iconst 1, 1) := by decide +kernel
theorem dX3_piece_34 : decode cX3_piece 34 = .ok (.invokevirtual 70, 3) := by decide +kernel
theorem dX3_piece_37 : decode cX3_piece 37 = .ok (.ireturn, 1) := by decide +kernel
set_option maxRecDepth 20000 in
theorem ggX3_looseOnes_X2_isLoose : GoodIn wsX3_looseOnes wsX2_isLoose := goodIn_r _ [7, 8, 9, 24, 25, 26, 10, 11, 12, 13, 14, 15, 16, 17, 18, 19, 20, 21, 22, 23] (by decide +kernel) (by decide +kernel)
set_option maxRecDepth 20000 in
theorem gX3_looseOnes_X2_isLoose : GoodIn wsX3_looseOnes (wsV RX3 89 RX2 yX2_isLoose wsX2_isLoose) := goodIn_app (goodIn_of _ (by decide +kernel)) ggX3_looseOnes_X2_isLoose
theorem dX3_looseOnes_0 : decode cX3_looseOnes 0 = .ok (.iconst 0, 1) := by decide +kernel
theorem dX3_looseOnes_1 : decode cX3_looseOnes 1 = .ok (.istore_n 1, 1) := by decide +kernel
theorem dX3_looseOnes_2 : decode cX3_looseOnes 2 = .ok (.iconst 0, 1) := by decide +kernel
theorem dX3_looseOnes_3 : decode cX3_looseOnes 3 = .ok (.istore_n 2, 1) := by decide +kernel
theorem dX3_looseOnes_4 : decode cX3_looseOnes 4 = .ok (.iload_n 2, 1) := by decide +kernel
theorem dX3_looseOnes_5 : decode cX3_looseOnes 5 = .ok (.aload_n 0, 1) := by decide +kernel
theorem dX3_looseOnes_6 : decode cX3_looseOnes 6 = .ok (.getfield 63, 3) := by decide +kernel
theorem dX3_looseOnes_9 : decode cX3_looseOnes 9 = .ok (.if_icmp .ge 28, 3) := by decide +kernel
theorem dX3_looseOnes_12 : decode cX3_looseOnes 12 = .ok (.iload_n 1, 1) := by decide +kernel
theorem dX3_looseOnes_13 : decode cX3_looseOnes 13 = .ok (.aload_n 0, 1) := by decide +kernel
theorem dX3_looseOnes_14 : decode cX3_looseOnes 14 = .ok (.getfield 45, 3) := by decide +kernel
theorem dX3_looseOnes_17 : decode cX3_looseOnes 17 = .ok (.iload_n 2, 1) := by decide +kernel
theorem dX3_looseOnes_18 : decode cX3_looseOnes 18 = .ok (.invokevirtual 89, 3) := by decide +kernel
theorem dX3_looseOnes_21 : decode cX3_looseOnes 21 = .ok (.ifCond .eq 7, 3) := by decide +kernel
theorem dX3_looseOnes_24 : decode cX3_looseOnes 24 = .ok (.iconst 1, 1) := by decide +kernel
theorem dX3_looseOnes_25 : decode cX3_looseOnes 25 = .ok (.goto 4, 3) := by decide +kernel
theorem dX3_looseOnes_28 : decode cX3_looseOnes 28 = .ok (.iconst 0, 1) := by decide +kernel
theorem dX3_looseOnes_29 : decode cX3_looseOnes 29 = .ok (.iadd, 1) := by decide +kernel
theorem dX3_looseOnes_30 : decode cX3_looseOnes 30 = .ok (.istore_n 1, 1) := by decide +kernel
theorem dX3_looseOnes_31 : decode cX3_looseOnes 31 = .ok (.iinc 2 1, 3) := by decide +kernel
theorem dX3_looseOnes_34 : decode cX3_looseOnes 34 = .ok (.goto (-30), 3) := by decide +kernel
theorem dX3_looseOnes_37 : decode cX3_looseOnes 37 = .ok (.iload_n 1, 1) := by decide +kernel
theorem dX3_looseOnes_38 : decode cX3_looseOnes 38 = .ok (.ireturn, 1) := by decide +kernel
theorem dX3_covered_0 : decode cX3_covered 0 = .ok (.iconst 0, 1) := by decide +kernel
theorem dX3_covered_1 : decode cX3_covered 1 = .ok (.istore_n 1, 1) := by decide +kernel
theorem dX3_covered_2 : decode cX3_covered 2 = .ok (.aload_n 0, 1) := by decide +kernel
theorem dX3_covered_3 : decode cX3_covered 3 = .ok (.getfield 28, 3) := by decide +kernel
theorem dX3_covered_6 : decode cX3_covered 6 = .ok (.astore_n 2, 1) := by decide +kernel
theorem dX3_covered_7 : decode cX3_covered 7 = .ok (.aload_n 2, 1) := by decide +kernel
theorem dX3_covered_8 : decode cX3_covered 8 = .ok (.arraylength, 1) := by decide +kernel
theorem dX3_covered_9 : decode cX3_covered 9 = .ok (.istore_n 3, 1) := by decide +kernel
theorem dX3_covered_10 : decode cX3_covered 10 = .ok (.iconst 0, 1) := by decide +kernel
theorem dX3_covered_11 : decode cX3_covered 11 = .ok (.istore 4, 2) := by decide +kernel
theorem dX3_covered_13 : decode cX3_covered 13 = .ok (.iload 4, 2) := by decide +kernel
theorem dX3_covered_15 : decode cX3_covered 15 = .ok (.iload_n 3, 1) := by decide +kernel
theorem dX3_covered_16 : decode cX3_covered 16 = .ok (.if_icmp .ge 29, 3) := by decide +kernel
theorem dX3_covered_19 : decode cX3_covered 19 = .ok (.aload_n 2, 1) := by decide +kernel
theorem dX3_covered_20 : decode cX3_covered 20 = .ok (.iload 4, 2) := by decide +kernel
theorem dX3_covered_22 : decode cX3_covered 22 = .ok (.iaload, 1) := by decide +kernel
theorem dX3_covered_23 : decode cX3_covered 23 = .ok (.istore 5, 2) := by decide +kernel
theorem dX3_covered_25 : decode cX3_covered 25 = .ok (.iload_n 1, 1) := by decide +kernel
theorem dX3_covered_26 : decode cX3_covered 26 = .ok (.iload 5, 2) := by decide +kernel
theorem dX3_covered_28 : decode cX3_covered 28 = .ok (.iconst (-1), 1) := by decide +kernel
theorem dX3_covered_29 : decode cX3_covered 29 = .ok (.if_icmp .ne 7, 3) := by decide +kernel
theorem dX3_covered_32 : decode cX3_covered 32 = .ok (.iconst 0, 1) := by decide +kernel
theorem dX3_covered_33 : decode cX3_covered 33 = .ok (.goto 4, 3) := by decide +kernel
theorem dX3_covered_36 : decode cX3_covered 36 = .ok (.iconst 1, 1) := by decide +kernel
theorem dX3_covered_37 : decode cX3_covered 37 = .ok (.iadd, 1) := by decide +kernel
theorem dX3_covered_38 : decode cX3_covered 38 = .ok (.istore_n 1, 1) := by decide +kernel
theorem dX3_covered_39 : decode cX3_covered 39 = .ok (.iinc 4 1, 3) := by decide +kernel
theorem dX3_covered_42 : decode cX3_covered 42 = .ok (.goto (-29), 3) := by decide +kernel
theorem dX3_covered_45 : decode cX3_covered 45 = .ok (.iload_n 1, 1) := by decide +kernel
theorem dX3_covered_46 : decode cX3_covered 46 = .ok (.ireturn, 1) := by decide +kernel
set_option maxRecDepth 20000 in
theorem ggX3_beside_X3_isCell : GoodIn wsX3_beside wsX3_isCell := goodIn_r _ [4, 5, 6, 3, 7] (by decide +kernel) (by decide +kernel)
set_option maxRecDepth 20000 in
theorem gX3_beside_X3_isCell : GoodIn wsX3_beside (va_wsS RX3 66 yX3_isCell wsX3_isCell) := goodIn_app (goodIn_of _ (by decide +kernel)) ggX3_beside_X3_isCell
theorem dX3_beside_0 : decode cX3_beside 0 = .ok (.iload_n 0, 1) := by decide +kernel
theorem dX3_beside_1 : decode cX3_beside 1 = .ok (.bipush 10, 2) := by decide +kernel
theorem dX3_beside_3 : decode cX3_beside 3 = .ok (.irem, 1) := by decide +kernel
theorem dX3_beside_4 : decode cX3_beside 4 = .ok (.iload_n 1, 1) := by decide +kernel
theorem dX3_beside_5 : decode cX3_beside 5 = .ok (.ifCond .ne 7, 3) := by decide +kernel
theorem dX3_beside_8 : decode cX3_beside 8 = .ok (.iconst 1, 1) := by decide +kernel
theorem dX3_beside_9 : decode cX3_beside 9 = .ok (.goto 13, 3) := by decide +kernel
theorem dX3_beside_12 : decode cX3_beside 12 = .ok (.iload_n 1, 1) := by decide +kernel
theorem dX3_beside_13 : decode cX3_beside 13 = .ok (.iconst 1, 1) := by decide +kernel
theorem dX3_beside_14 : decode cX3_beside 14 = .ok (.if_icmp .ne 7, 3) := by decide +kernel
theorem dX3_beside_17 : decode cX3_beside 17 = .ok (.iconst (-1), 1) := by decide +kernel
theorem dX3_beside_18 : decode cX3_beside 18 = .ok (.goto 4, 3) := by decide +kernel
theorem dX3_beside_21 : decode cX3_beside 21 = .ok (.iconst 0, 1) := by decide +kernel
theorem dX3_beside_22 : decode cX3_beside 22 = .ok (.iadd, 1) := by decide +kernel
theorem dX3_beside_23 : decode cX3_beside 23 = .ok (.istore_n 2, 1) := by decide +kernel
theorem dX3_beside_24 : decode cX3_beside 24 = .ok (.iload_n 0, 1) := by decide +kernel
theorem dX3_beside_25 : decode cX3_beside 25 = .ok (.bipush 10, 2) := by decide +kernel
theorem dX3_beside_27 : decode cX3_beside 27 = .ok (.idiv, 1) := by decide +kernel
theorem dX3_beside_28 : decode cX3_beside 28 = .ok (.iload_n 1, 1) := by decide +kernel
theorem dX3_beside_29 : decode cX3_beside 29 = .ok (.iconst 2, 1) := by decide +kernel
theorem dX3_beside_30 : decode cX3_beside 30 = .ok (.if_icmp .ne 7, 3) := by decide +kernel
theorem dX3_beside_33 : decode cX3_beside 33 = .ok (.iconst 1, 1) := by decide +kernel
theorem dX3_beside_34 : decode cX3_beside 34 = .ok (.goto 13, 3) := by decide +kernel
theorem dX3_beside_37 : decode cX3_beside 37 = .ok (.iload_n 1, 1) := by decide +kernel
theorem dX3_beside_38 : decode cX3_beside 38 = .ok (.iconst 3, 1) := by decide +kernel
theorem dX3_beside_39 : decode cX3_beside 39 = .ok (.if_icmp .ne 7, 3) := by decide +kernel
theorem dX3_beside_42 : decode cX3_beside 42 = .ok (.iconst (-1), 1) := by decide +kernel
theorem dX3_beside_43 : decode cX3_beside 43 = .ok (.goto 4, 3) := by decide +kernel
theorem dX3_beside_46 : decode cX3_beside 46 = .ok (.iconst 0, 1) := by decide +kernel
theorem dX3_beside_47 : decode cX3_beside 47 = .ok (.iadd, 1) := by decide +kernel
theorem dX3_beside_48 : decode cX3_beside 48 = .ok (.istore_n 3, 1) := by decide +kernel
theorem dX3_beside_49 : decode cX3_beside 49 = .ok (.iload_n 2, 1) := by decide +kernel
theorem dX3_beside_50 : decode cX3_beside 50 = .ok (.iload_n 3, 1) := by decide +kernel
theorem dX3_beside_51 : decode cX3_beside 51 = .ok (.invokestatic 66, 3) := by decide +kernel
theorem dX3_beside_54 : decode cX3_beside 54 = .ok (.ifCond .eq 12, 3) := by decide +kernel
theorem dX3_beside_57 : decode cX3_beside 57 = .ok (.bipush 10, 2) := by decide +kernel
theorem dX3_beside_59 : decode cX3_beside 59 = .ok (.iload_n 3, 1) := by decide +kernel
theorem dX3_beside_60 : decode cX3_beside 60 = .ok (.imul, 1) := by decide +kernel
theorem dX3_beside_61 : decode cX3_beside 61 = .ok (.iload_n 2, 1) := by decide +kernel
theorem dX3_beside_62 : decode cX3_beside 62 = .ok (.iadd, 1) := by decide +kernel
theorem dX3_beside_63 : decode cX3_beside 63 = .ok (.goto 4, 3) := by decide +kernel
theorem dX3_beside_66 : decode cX3_beside 66 = .ok (.iconst (-1), 1) := by decide +kernel
theorem dX3_beside_67 : decode cX3_beside 67 = .ok (.ireturn, 1) := by decide +kernel
theorem dX3_clear_0 : decode cX3_clear 0 = .ok (.iconst 0, 1) := by decide +kernel
theorem dX3_clear_1 : decode cX3_clear 1 = .ok (.istore_n 1, 1) := by decide +kernel
theorem dX3_clear_2 : decode cX3_clear 2 = .ok (.iload_n 1, 1) := by decide +kernel
theorem dX3_clear_3 : decode cX3_clear 3 = .ok (.bipush 80, 2) := by decide +kernel
theorem dX3_clear_5 : decode cX3_clear 5 = .ok (.if_icmp .ge 16, 3) := by decide +kernel
theorem dX3_clear_8 : decode cX3_clear 8 = .ok (.aload_n 0, 1) := by decide +kernel
theorem dX3_clear_9 : decode cX3_clear 9 = .ok (.getfield 37, 3) := by decide +kernel
theorem dX3_clear_12 : decode cX3_clear 12 = .ok (.iload_n 1, 1) := by decide +kernel
theorem dX3_clear_13 : decode cX3_clear 13 = .ok (.iconst 0, 1) := by decide +kernel
theorem dX3_clear_14 : decode cX3_clear 14 = .ok (.iastore, 1) := by decide +kernel
theorem dX3_clear_15 : decode cX3_clear 15 = .ok (.iinc 1 1, 3) := by decide +kernel
theorem dX3_clear_18 : decode cX3_clear 18 = .ok (.goto (-16), 3) := by decide +kernel
theorem dX3_clear_21 : decode cX3_clear 21 = .ok (.return_, 1) := by decide +kernel
set_option maxRecDepth 20000 in
theorem ggX3_fill_X3_beside : GoodIn wsX3_fill wsX3_beside := goodIn_r _ [7, 8, 9, 6, 10, 11, 12, 13] (by decide +kernel) (by decide +kernel)
set_option maxRecDepth 20000 in
theorem gX3_fill_X3_beside : GoodIn wsX3_fill (va_wsS RX3 110 yX3_beside wsX3_beside) := goodIn_app (goodIn_of _ (by decide +kernel)) ggX3_fill_X3_beside
theorem dX3_fill_0 : decode cX3_fill 0 = .ok (.aload_n 0, 1) := by decide +kernel
theorem dX3_fill_1 : decode cX3_fill 1 = .ok (.getfield 37, 3) := by decide +kernel
theorem dX3_fill_4 : decode cX3_fill 4 = .ok (.iload_n 1, 1) := by decide +kernel
theorem dX3_fill_5 : decode cX3_fill 5 = .ok (.iconst 1, 1) := by decide +kernel
theorem dX3_fill_6 : decode cX3_fill 6 = .ok (.iastore, 1) := by decide +kernel
theorem dX3_fill_7 : decode cX3_fill 7 = .ok (.aload_n 0, 1) := by decide +kernel
theorem dX3_fill_8 : decode cX3_fill 8 = .ok (.getfield 34, 3) := by decide +kernel
theorem dX3_fill_11 : decode cX3_fill 11 = .ok (.iconst 0, 1) := by decide +kernel
theorem dX3_fill_12 : decode cX3_fill 12 = .ok (.iload_n 1, 1) := by decide +kernel
theorem dX3_fill_13 : decode cX3_fill 13 = .ok (.iastore, 1) := by decide +kernel
theorem dX3_fill_14 : decode cX3_fill 14 = .ok (.iconst 1, 1) := by decide +kernel
theorem dX3_fill_15 : decode cX3_fill 15 = .ok (.istore_n 2, 1) := by decide +kernel
theorem dX3_fill_16 : decode cX3_fill 16 = .ok (.iconst 0, 1) := by decide +kernel
theorem dX3_fill_17 : decode cX3_fill 17 = .ok (.istore_n 3, 1) := by decide +kernel
theorem dX3_fill_18 : decode cX3_fill 18 = .ok (.iload_n 3, 1) := by decide +kernel
theorem dX3_fill_19 : decode cX3_fill 19 = .ok (.iconst 4, 1) := by decide +kernel
theorem dX3_fill_20 : decode cX3_fill 20 = .ok (.iload_n 2, 1) := by decide +kernel
theorem dX3_fill_21 : decode cX3_fill 21 = .ok (.imul, 1) := by decide +kernel
theorem dX3_fill_22 : decode cX3_fill 22 = .ok (.if_icmp .ge 74, 3) := by decide +kernel
theorem dX3_fill_25 : decode cX3_fill 25 = .ok (.aload_n 0, 1) := by decide +kernel
theorem dX3_fill_26 : decode cX3_fill 26 = .ok (.getfield 34, 3) := by decide +kernel
theorem dX3_fill_29 : decode cX3_fill 29 = .ok (.iload_n 3, 1) := by decide +kernel
theorem dX3_fill_30 : decode cX3_fill 30 = .ok (.iconst 4, 1) := by decide +kernel
theorem dX3_fill_31 : decode cX3_fill 31 = .ok (.idiv, 1) := by decide +kernel
theorem dX3_fill_32 : decode cX3_fill 32 = .ok (.iaload, 1) := by decide +kernel
theorem dX3_fill_33 : decode cX3_fill 33 = .ok (.iload_n 3, 1) := by decide +kernel
theorem dX3_fill_34 : decode cX3_fill 34 = .ok (.iconst 4, 1) := by decide +kernel
theorem dX3_fill_35 : decode cX3_fill 35 = .ok (.irem, 1) := by decide +kernel
theorem dX3_fill_36 : decode cX3_fill 36 = .ok (.invokestatic 110, 3) := by decide +kernel
theorem dX3_fill_39 : decode cX3_fill 39 = .ok (.istore 4, 2) := by decide +kernel
theorem dX3_fill_41 : decode cX3_fill 41 = .ok (.iload 4, 2) := by decide +kernel
theorem dX3_fill_43 : decode cX3_fill 43 = .ok (.iconst (-1), 1) := by decide +kernel
theorem dX3_fill_44 : decode cX3_fill 44 = .ok (.if_icmp .eq 46, 3) := by decide +kernel
theorem dX3_fill_47 : decode cX3_fill 47 = .ok (.aload_n 0, 1) := by decide +kernel
theorem dX3_fill_48 : decode cX3_fill 48 = .ok (.getfield 28, 3) := by decide +kernel
theorem dX3_fill_51 : decode cX3_fill 51 = .ok (.iload 4, 2) := by decide +kernel
theorem dX3_fill_53 : decode cX3_fill 53 = .ok (.iaload, 1) := by decide +kernel
theorem dX3_fill_54 : decode cX3_fill 54 = .ok (.iconst (-1), 1) := by decide +kernel
theorem dX3_fill_55 : decode cX3_fill 55 = .ok (.if_icmp .ne 35, 3) := by decide +kernel
theorem dX3_fill_58 : decode cX3_fill 58 = .ok (.aload_n 0, 1) := by decide +kernel
theorem dX3_fill_59 : decode cX3_fill 59 = .ok (.getfield 37, 3) := by decide +kernel
theorem dX3_fill_62 : decode cX3_fill 62 = .ok (.iload 4, 2) := by decide +kernel
theorem dX3_fill_64 : decode cX3_fill 64 = .ok (.iaload, 1) := by decide +kernel
theorem dX3_fill_65 : decode cX3_fill 65 = .ok (.ifCond .eq 6, 3) := by decide +kernel
theorem dX3_fill_68 : decode cX3_fill 68 = .ok (.goto 22, 3) := by decide +kernel
theorem dX3_fill_71 : decode cX3_fill 71 = .ok (.aload_n 0, 1) := by decide +kernel
theorem dX3_fill_72 : decode cX3_fill 72 = .ok (.getfield 37, 3) := by decide +kernel
theorem dX3_fill_75 : decode cX3_fill 75 = .ok (.iload 4, 2) := by decide +kernel
theorem dX3_fill_77 : decode cX3_fill 77 = .ok (.iconst 1, 1) := by decide +kernel
theorem dX3_fill_78 : decode cX3_fill 78 = .ok (.iastore, 1) := by decide +kernel
theorem dX3_fill_79 : decode cX3_fill 79 = .ok (.aload_n 0, 1) := by decide +kernel
theorem dX3_fill_80 : decode cX3_fill 80 = .ok (.getfield 34, 3) := by decide +kernel
theorem dX3_fill_83 : decode cX3_fill 83 = .ok (.iload_n 2, 1) := by decide +kernel
theorem dX3_fill_84 : decode cX3_fill 84 = .ok (.iload 4, 2) := by decide +kernel
theorem dX3_fill_86 : decode cX3_fill 86 = .ok (.iastore, 1) := by decide +kernel
theorem dX3_fill_87 : decode cX3_fill 87 = .ok (.iinc 2 1, 3) := by decide +kernel
theorem dX3_fill_90 : decode cX3_fill 90 = .ok (.iinc 3 1, 3) := by decide +kernel
theorem dX3_fill_93 : decode cX3_fill 93 = .ok (.goto (-75), 3) := by decide +kernel
theorem dX3_fill_96 : decode cX3_fill 96 = .ok (.iload_n 2, 1) := by decide +kernel
theorem dX3_fill_97 : decode cX3_fill 97 = .ok (.ireturn, 1) := by decide +kernel
set_option maxRecDepth 20000 in
theorem ggX3_gaps_X3_clear : GoodIn wsX3_gaps wsX3_clear := goodIn_r _ [7, 2, 22, 23, 24, 25, 26, 27, 28, 29, 30, 31, 32, 33, 34, 35] (by decide +kernel) (by decide +kernel)
set_option maxRecDepth 20000 in
theorem gX3_gaps_X3_clear : GoodIn wsX3_gaps (wsV RX3 113 RX3 yX3_clear wsX3_clear) := goodIn_app (goodIn_of _ (by decide +kernel)) ggX3_gaps_X3_clear
set_option maxRecDepth 20000 in
theorem ggX3_gaps_X3_fill : GoodIn wsX3_gaps wsX3_fill := goodIn_r _ [11, 2, 12, 1, 13, 14, 6, 15, 16, 17, 18, 19, 20, 21, 22, 23, 24, 25, 26, 27, 28, 29, 30, 31, 32, 33, 34, 35] (by decide +kernel) (by decide +kernel)
set_option maxRecDepth 20000 in
theorem gX3_gaps_X3_fill : GoodIn wsX3_gaps (wsV RX3 116 RX3 yX3_fill wsX3_fill) := goodIn_app (goodIn_of _ (by decide +kernel)) ggX3_gaps_X3_fill
theorem dX3_gaps_0 : decode cX3_gaps 0 = .ok (.aload_n 0, 1) := by decide +kernel
theorem dX3_gaps_1 : decode cX3_gaps 1 = .ok (.invokevirtual 113, 3) := by decide +kernel
theorem dX3_gaps_4 : decode cX3_gaps 4 = .ok (.iconst 0, 1) := by decide +kernel
theorem dX3_gaps_5 : decode cX3_gaps 5 = .ok (.istore_n 1, 1) := by decide +kernel
theorem dX3_gaps_6 : decode cX3_gaps 6 = .ok (.iconst 0, 1) := by decide +kernel
theorem dX3_gaps_7 : decode cX3_gaps 7 = .ok (.istore_n 2, 1) := by decide +kernel
theorem dX3_gaps_8 : decode cX3_gaps 8 = .ok (.iload_n 2, 1) := by decide +kernel
theorem dX3_gaps_9 : decode cX3_gaps 9 = .ok (.bipush 80, 2) := by decide +kernel
theorem dX3_gaps_11 : decode cX3_gaps 11 = .ok (.if_icmp .ge 40, 3) := by decide +kernel
theorem dX3_gaps_14 : decode cX3_gaps 14 = .ok (.aload_n 0, 1) := by decide +kernel
theorem dX3_gaps_15 : decode cX3_gaps 15 = .ok (.getfield 28, 3) := by decide +kernel
theorem dX3_gaps_18 : decode cX3_gaps 18 = .ok (.iload_n 2, 1) := by decide +kernel
theorem dX3_gaps_19 : decode cX3_gaps 19 = .ok (.iaload, 1) := by decide +kernel
theorem dX3_gaps_20 : decode cX3_gaps 20 = .ok (.iconst (-1), 1) := by decide +kernel
theorem dX3_gaps_21 : decode cX3_gaps 21 = .ok (.if_icmp .ne 24, 3) := by decide +kernel
theorem dX3_gaps_24 : decode cX3_gaps 24 = .ok (.aload_n 0, 1) := by decide +kernel
theorem dX3_gaps_25 : decode cX3_gaps 25 = .ok (.getfield 37, 3) := by decide +kernel
theorem dX3_gaps_28 : decode cX3_gaps 28 = .ok (.iload_n 2, 1) := by decide +kernel
theorem dX3_gaps_29 : decode cX3_gaps 29 = .ok (.iaload, 1) := by decide +kernel
theorem dX3_gaps_30 : decode cX3_gaps 30 = .ok (.ifCond .eq 6, 3) := by decide +kernel
theorem dX3_gaps_33 : decode cX3_gaps 33 = .ok (.goto 12, 3) := by decide +kernel
theorem dX3_gaps_36 : decode cX3_gaps 36 = .ok (.aload_n 0, 1) := by decide +kernel
theorem dX3_gaps_37 : decode cX3_gaps 37 = .ok (.iload_n 2, 1) := by decide +kernel
theorem dX3_gaps_38 : decode cX3_gaps 38 = .ok (.invokevirtual 116, 3) := by decide +kernel
theorem dX3_gaps_41 : decode cX3_gaps 41 = .ok (.pop, 1) := by decide +kernel
theorem dX3_gaps_42 : decode cX3_gaps 42 = .ok (.iinc 1 1, 3) := by decide +kernel
theorem dX3_gaps_45 : decode cX3_gaps 45 = .ok (.iinc 2 1, 3) := by decide +kernel
theorem dX3_gaps_48 : decode cX3_gaps 48 = .ok (.goto (-40), 3) := by decide +kernel
theorem dX3_gaps_51 : decode cX3_gaps 51 = .ok (.iload_n 1, 1) := by decide +kernel
theorem dX3_gaps_52 : decode cX3_gaps 52 = .ok (.ireturn, 1) := by decide +kernel
set_option maxRecDepth 20000 in
theorem ggX3_counted_X3_looseOnes : GoodIn wsX3_counted wsX3_looseOnes := goodIn_r _ [8, 2, 1, 9, 10, 11, 12, 13, 14, 15, 48, 49, 50, 51, 52, 53, 54, 55, 56, 57, 58, 59, 60, 61, 62, 63, 64] (by decide +kernel) (by decide +kernel)
set_option maxRecDepth 20000 in
theorem gX3_counted_X3_looseOnes : GoodIn wsX3_counted (wsV RX3 122 RX3 yX3_looseOnes wsX3_looseOnes) := goodIn_app (goodIn_of _ (by decide +kernel)) ggX3_counted_X3_looseOnes
set_option maxRecDepth 20000 in
theorem ggX3_counted_X2_wetOnes : GoodIn wsX3_counted wsX2_wetOnes := goodIn_r _ [19, 15, 62, 63, 64] (by decide +kernel) (by decide +kernel)
set_option maxRecDepth 20000 in
theorem gX3_counted_X2_wetOnes : GoodIn wsX3_counted (wsV RX3 126 RX2 yX2_wetOnes wsX2_wetOnes) := goodIn_app (goodIn_of _ (by decide +kernel)) ggX3_counted_X2_wetOnes
set_option maxRecDepth 20000 in
theorem ggX3_counted_X3_covered : GoodIn wsX3_counted wsX3_covered := goodIn_r _ [23, 24, 48, 49, 50, 51, 52, 53, 54, 55, 56, 57, 58, 59, 60, 61] (by decide +kernel) (by decide +kernel)
set_option maxRecDepth 20000 in
theorem gX3_counted_X3_covered : GoodIn wsX3_counted (wsV RX3 129 RX3 yX3_covered wsX3_covered) := goodIn_app (goodIn_of _ (by decide +kernel)) ggX3_counted_X3_covered
set_option maxRecDepth 20000 in
theorem ggX3_counted_X3_gaps : GoodIn wsX3_counted wsX3_gaps := goodIn_r _ [28, 24, 29, 30, 31, 32, 7, 33, 34, 35, 36, 37, 38, 39, 40, 41, 42, 43, 44, 45, 46, 47, 48, 49, 50, 51, 52, 53, 54, 55, 56, 57, 58, 59, 60, 61] (by decide +kernel) (by decide +kernel)
set_option maxRecDepth 20000 in
theorem gX3_counted_X3_gaps : GoodIn wsX3_counted (wsV RX3 132 RX3 yX3_gaps wsX3_gaps) := goodIn_app (goodIn_of _ (by decide +kernel)) ggX3_counted_X3_gaps
theorem dX3_counted_0 : decode cX3_counted 0 = .ok (.iconst 0, 1) := by decide +kernel
theorem dX3_counted_1 : decode cX3_counted 1 = .ok (.istore_n 2, 1) := by decide +kernel
theorem dX3_counted_2 : decode cX3_counted 2 = .ok (.iload_n 1, 1) := by decide +kernel
theorem dX3_counted_3 : decode cX3_counted 3 = .ok (.tableswitch 151 0 6 #[41, 49, 54, 83, 88, 138, 146], 41) := by decide +kernel
theorem dX3_counted_44 : decode cX3_counted 44 = .ok (.aload_n 0, 1) := by decide +kernel
theorem dX3_counted_45 : decode cX3_counted 45 = .ok (.getfield 45, 3) := by decide +kernel
theorem dX3_counted_48 : decode cX3_counted 48 = .ok (.getfield 119, 3) := by decide +kernel
theorem dX3_counted_51 : decode cX3_counted 51 = .ok (.ireturn, 1) := by decide +kernel
theorem dX3_counted_52 : decode cX3_counted 52 = .ok (.aload_n 0, 1) := by decide +kernel
theorem dX3_counted_53 : decode cX3_counted 53 = .ok (.getfield 63, 3) := by decide +kernel
theorem dX3_counted_56 : decode cX3_counted 56 = .ok (.ireturn, 1) := by decide +kernel
theorem dX3_counted_57 : decode cX3_counted 57 = .ok (.iconst 0, 1) := by decide +kernel
theorem dX3_counted_58 : decode cX3_counted 58 = .ok (.istore_n 3, 1) := by decide +kernel
theorem dX3_counted_59 : decode cX3_counted 59 = .ok (.iload_n 3, 1) := by decide +kernel
theorem dX3_counted_60 : decode cX3_counted 60 = .ok (.aload_n 0, 1) := by decide +kernel
theorem dX3_counted_61 : decode cX3_counted 61 = .ok (.getfield 63, 3) := by decide +kernel
theorem dX3_counted_64 : decode cX3_counted 64 = .ok (.if_icmp .ge 20, 3) := by decide +kernel
theorem dX3_counted_67 : decode cX3_counted 67 = .ok (.iload_n 2, 1) := by decide +kernel
theorem dX3_counted_68 : decode cX3_counted 68 = .ok (.iconst 1, 1) := by decide +kernel
theorem dX3_counted_69 : decode cX3_counted 69 = .ok (.aload_n 0, 1) := by decide +kernel
theorem dX3_counted_70 : decode cX3_counted 70 = .ok (.getfield 25, 3) := by decide +kernel
theorem dX3_counted_73 : decode cX3_counted 73 = .ok (.iload_n 3, 1) := by decide +kernel
theorem dX3_counted_74 : decode cX3_counted 74 = .ok (.iaload, 1) := by decide +kernel
theorem dX3_counted_75 : decode cX3_counted 75 = .ok (.isub, 1) := by decide +kernel
theorem dX3_counted_76 : decode cX3_counted 76 = .ok (.iadd, 1) := by decide +kernel
theorem dX3_counted_77 : decode cX3_counted 77 = .ok (.istore_n 2, 1) := by decide +kernel
theorem dX3_counted_78 : decode cX3_counted 78 = .ok (.iinc 3 1, 3) := by decide +kernel
theorem dX3_counted_81 : decode cX3_counted 81 = .ok (.goto (-22), 3) := by decide +kernel
theorem dX3_counted_84 : decode cX3_counted 84 = .ok (.iload_n 2, 1) := by decide +kernel
theorem dX3_counted_85 : decode cX3_counted 85 = .ok (.ireturn, 1) := by decide +kernel
theorem dX3_counted_86 : decode cX3_counted 86 = .ok (.aload_n 0, 1) := by decide +kernel
theorem dX3_counted_87 : decode cX3_counted 87 = .ok (.invokevirtual 122, 3) := by decide +kernel
theorem dX3_counted_90 : decode cX3_counted 90 = .ok (.ireturn, 1) := by decide +kernel
theorem dX3_counted_91 : decode cX3_counted 91 = .ok (.aload_n 0, 1) := by decide +kernel
theorem dX3_counted_92 : decode cX3_counted 92 = .ok (.getfield 45, 3) := by decide +kernel
theorem dX3_counted_95 : decode cX3_counted 95 = .ok (.getfield 52, 3) := by decide +kernel
theorem dX3_counted_98 : decode cX3_counted 98 = .ok (.astore_n 3, 1) := by decide +kernel
theorem dX3_counted_99 : decode cX3_counted 99 = .ok (.aload_n 3, 1) := by decide +kernel
theorem dX3_counted_100 : decode cX3_counted 100 = .ok (.arraylength, 1) := by decide +kernel
theorem dX3_counted_101 : decode cX3_counted 101 = .ok (.istore 4, 2) := by decide +kernel
theorem dX3_counted_103 : decode cX3_counted 103 = .ok (.iconst 0, 1) := by decide +kernel
theorem dX3_counted_104 : decode cX3_counted 104 = .ok (.istore 5, 2) := by decide +kernel
theorem dX3_counted_106 : decode cX3_counted 106 = .ok (.iload 5, 2) := by decide +kernel
theorem dX3_counted_108 : decode cX3_counted 108 = .ok (.iload 4, 2) := by decide +kernel
theorem dX3_counted_110 : decode cX3_counted 110 = .ok (.if_icmp .ge 29, 3) := by decide +kernel
theorem dX3_counted_113 : decode cX3_counted 113 = .ok (.aload_n 3, 1) := by decide +kernel
theorem dX3_counted_114 : decode cX3_counted 114 = .ok (.iload 5, 2) := by decide +kernel
theorem dX3_counted_116 : decode cX3_counted 116 = .ok (.iaload, 1) := by decide +kernel
theorem dX3_counted_117 : decode cX3_counted 117 = .ok (.istore 6, 2) := by decide +kernel
theorem dX3_counted_119 : decode cX3_counted 119 = .ok (.iload_n 2, 1) := by decide +kernel
theorem dX3_counted_120 : decode cX3_counted 120 = .ok (.iload 6, 2) := by decide +kernel
theorem dX3_counted_122 : decode cX3_counted 122 = .ok (.iconst (-1), 1) := by decide +kernel
theorem dX3_counted_123 : decode cX3_counted 123 = .ok (.if_icmp .ne 7, 3) := by decide +kernel
theorem dX3_counted_126 : decode cX3_counted 126 = .ok (.iconst 0, 1) := by decide +kernel
theorem dX3_counted_127 : decode cX3_counted 127 = .ok (.goto 4, 3) := by decide +kernel
theorem dX3_counted_130 : decode cX3_counted 130 = .ok (.iconst 1, 1) := by decide +kernel
theorem dX3_counted_131 : decode cX3_counted 131 = .ok (.iadd, 1) := by decide +kernel
theorem dX3_counted_132 : decode cX3_counted 132 = .ok (.istore_n 2, 1) := by decide +kernel
theorem dX3_counted_133 : decode cX3_counted 133 = .ok (.iinc 5 1, 3) := by decide +kernel
theorem dX3_counted_136 : decode cX3_counted 136 = .ok (.goto (-30), 3) := by decide +kernel
theorem dX3_counted_139 : decode cX3_counted 139 = .ok (.iload_n 2, 1) := by decide +kernel
theorem dX3_counted_140 : decode cX3_counted 140 = .ok (.ireturn, 1) := by decide +kernel
theorem dX3_counted_141 : decode cX3_counted 141 = .ok (.aload_n 0, 1) := by decide +kernel
theorem dX3_counted_142 : decode cX3_counted 142 = .ok (.getfield 45, 3) := by decide +kernel
theorem dX3_counted_145 : decode cX3_counted 145 = .ok (.invokevirtual 126, 3) := by decide +kernel
theorem dX3_counted_148 : decode cX3_counted 148 = .ok (.ireturn, 1) := by decide +kernel
theorem dX3_counted_149 : decode cX3_counted 149 = .ok (.aload_n 0, 1) := by decide +kernel
theorem dX3_counted_150 : decode cX3_counted 150 = .ok (.invokevirtual 129, 3) := by decide +kernel
theorem dX3_counted_153 : decode cX3_counted 153 = .ok (.ireturn, 1) := by decide +kernel
theorem dX3_counted_154 : decode cX3_counted 154 = .ok (.aload_n 0, 1) := by decide +kernel
theorem dX3_counted_155 : decode cX3_counted 155 = .ok (.invokevirtual 132, 3) := by decide +kernel
theorem dX3_counted_158 : decode cX3_counted 158 = .ok (.ireturn, 1) := by decide +kernel
set_option maxRecDepth 20000 in
theorem ggX3_count_X3_isIn : GoodIn wsX3_count wsX3_isIn := goodIn_r _ [5] (by decide +kernel) (by decide +kernel)
set_option maxRecDepth 20000 in
theorem gX3_count_X3_isIn : GoodIn wsX3_count (va_wsS RX3 59 yX3_isIn wsX3_isIn) := goodIn_app (goodIn_of _ (by decide +kernel)) ggX3_count_X3_isIn
set_option maxRecDepth 20000 in
theorem ggX3_count_X3_counted : GoodIn wsX3_count wsX3_counted := goodIn_r _ [9, 10, 11, 12, 13, 14, 15, 4, 16, 17, 18, 19, 20, 21, 22, 23, 24, 25, 26, 27, 28, 29, 30, 31, 32, 33, 34, 35, 36, 37, 38, 39, 40, 41, 42, 43, 44, 45, 46, 47, 48, 49, 50, 51, 52, 2, 3, 5, 57, 58, 59, 60, 61, 62, 63, 64, 65, 66, 67, 68, 69, 70, 71, 72, 73] (by decide +kernel) (by decide +kernel)
set_option maxRecDepth 20000 in
theorem gX3_count_X3_counted : GoodIn wsX3_count (wsV RX3 135 RX3 yX3_counted wsX3_counted) := goodIn_app (goodIn_of _ (by decide +kernel)) ggX3_count_X3_counted
set_option maxRecDepth 20000 in
theorem ggX3_count_X3_no : GoodIn wsX3_count wsX3_no := goodIn_r _ [56, 1, 57, 58, 59, 60, 61, 62, 63, 64, 65, 66, 67, 68, 69, 70] (by decide +kernel) (by decide +kernel)
set_option maxRecDepth 20000 in
theorem gX3_count_X3_no : GoodIn wsX3_count (wsV RX3 70 RX3 yX3_no wsX3_no) := goodIn_app (goodIn_of _ (by decide +kernel)) ggX3_count_X3_no
theorem dX3_count_0 : decode cX3_count 0 = .ok (.aload_n 0, 1) := by decide +kernel
theorem dX3_count_1 : decode cX3_count 1 = .ok (.iconst 0, 1) := by decide +kernel
theorem dX3_count_2 : decode cX3_count 2 = .ok (.putfield 55, 3) := by decide +kernel
theorem dX3_count_5 : decode cX3_count 5 = .ok (.iload_n 1, 1) := by decide +kernel
theorem dX3_count_6 : decode cX3_count 6 = .ok (.iconst 0, 1) := by decide +kernel
theorem dX3_count_7 : decode cX3_count 7 = .ok (.bipush 7, 2) := by decide +kernel
theorem dX3_count_9 : decode cX3_count 9 = .ok (.invokestatic 59, 3) := by decide +kernel
theorem dX3_count_12 : decode cX3_count 12 = .ok (.ifCond .eq 11, 3) := by decide +kernel
theorem dX3_count_15 : decode cX3_count 15 = .ok (.aload_n 0, 1) := by decide +kernel
theorem dX3_count_16 : decode cX3_count 16 = .ok (.iload_n 1, 1) := by decide +kernel
theorem dX3_count_17 : decode cX3_count 17 = .ok (.invokevirtual 135, 3) := by decide +kernel
theorem dX3_count_20 : decode cX3_count 20 = .ok (.goto 8, 3) := by decide +kernel
theorem dX3_count_23 : decode cX3_count 23 = .ok (.aload_n 0, 1) := by decide +kernel
theorem dX3_count_24 : decode cX3_count 24 = .ok (.iconst 1, 1) := by decide +kernel
theorem dX3_count_25 : decode cX3_count 25 = .ok (.invokevirtual 70, 3) := by decide +kernel
theorem dX3_count_28 : decode cX3_count 28 = .ok (.ireturn, 1) := by decide +kernel
set_option maxRecDepth 20000 in
theorem ggX3_fits_X3_shown : GoodIn wsX3_fits wsX3_shown := goodIn_r _ [5, 6, 7, 8, 9, 10, 11, 12, 13, 14, 15, 16, 17, 18, 19, 20, 21] (by decide +kernel) (by decide +kernel)
set_option maxRecDepth 20000 in
theorem gX3_fits_X3_shown : GoodIn wsX3_fits (wsV RX3 100 RX3 yX3_shown wsX3_shown) := goodIn_app (goodIn_of _ (by decide +kernel)) ggX3_fits_X3_shown
theorem dX3_fits_0 : decode cX3_fits 0 = .ok (.iload_n 1, 1) := by decide +kernel
theorem dX3_fits_1 : decode cX3_fits 1 = .ok (.bipush 10, 2) := by decide +kernel
theorem dX3_fits_3 : decode cX3_fits 3 = .ok (.irem, 1) := by decide +kernel
theorem dX3_fits_4 : decode cX3_fits 4 = .ok (.istore 5, 2) := by decide +kernel
theorem dX3_fits_6 : decode cX3_fits 6 = .ok (.iload_n 1, 1) := by decide +kernel
theorem dX3_fits_7 : decode cX3_fits 7 = .ok (.bipush 10, 2) := by decide +kernel
theorem dX3_fits_9 : decode cX3_fits 9 = .ok (.idiv, 1) := by decide +kernel
theorem dX3_fits_10 : decode cX3_fits 10 = .ok (.istore 6, 2) := by decide +kernel
theorem dX3_fits_12 : decode cX3_fits 12 = .ok (.iload_n 2, 1) := by decide +kernel
theorem dX3_fits_13 : decode cX3_fits 13 = .ok (.iconst 3, 1) := by decide +kernel
theorem dX3_fits_14 : decode cX3_fits 14 = .ok (.if_icmp .ne 32, 3) := by decide +kernel
theorem dX3_fits_17 : decode cX3_fits 17 = .ok (.aload_n 0, 1) := by decide +kernel
theorem dX3_fits_18 : decode cX3_fits 18 = .ok (.iload_n 1, 1) := by decide +kernel
theorem dX3_fits_19 : decode cX3_fits 19 = .ok (.invokevirtual 100, 3) := by decide +kernel
theorem dX3_fits_22 : decode cX3_fits 22 = .ok (.aload_n 0, 1) := by decide +kernel
theorem dX3_fits_23 : decode cX3_fits 23 = .ok (.iload_n 1, 1) := by decide +kernel
theorem dX3_fits_24 : decode cX3_fits 24 = .ok (.bipush 10, 2) := by decide +kernel
theorem dX3_fits_26 : decode cX3_fits 26 = .ok (.iadd, 1) := by decide +kernel
theorem dX3_fits_27 : decode cX3_fits 27 = .ok (.iconst 1, 1) := by decide +kernel
theorem dX3_fits_28 : decode cX3_fits 28 = .ok (.isub, 1) := by decide +kernel
theorem dX3_fits_29 : decode cX3_fits 29 = .ok (.iconst 2, 1) := by decide +kernel
theorem dX3_fits_30 : decode cX3_fits 30 = .ok (.iload 5, 2) := by decide +kernel
theorem dX3_fits_32 : decode cX3_fits 32 = .ok (.imul, 1) := by decide +kernel
theorem dX3_fits_33 : decode cX3_fits 33 = .ok (.isub, 1) := by decide +kernel
theorem dX3_fits_34 : decode cX3_fits 34 = .ok (.invokevirtual 100, 3) := by decide +kernel
theorem dX3_fits_37 : decode cX3_fits 37 = .ok (.if_icmp .ne 7, 3) := by decide +kernel
theorem dX3_fits_40 : decode cX3_fits 40 = .ok (.iconst 1, 1) := by decide +kernel
theorem dX3_fits_41 : decode cX3_fits 41 = .ok (.goto 4, 3) := by decide +kernel
theorem dX3_fits_44 : decode cX3_fits 44 = .ok (.iconst 0, 1) := by decide +kernel
theorem dX3_fits_45 : decode cX3_fits 45 = .ok (.ireturn, 1) := by decide +kernel
theorem dX3_fits_46 : decode cX3_fits 46 = .ok (.iload_n 2, 1) := by decide +kernel
theorem dX3_fits_47 : decode cX3_fits 47 = .ok (.ifCond .eq 28, 3) := by decide +kernel
theorem dX3_fits_50 : decode cX3_fits 50 = .ok (.iload_n 2, 1) := by decide +kernel
theorem dX3_fits_51 : decode cX3_fits 51 = .ok (.iconst 1, 1) := by decide +kernel
theorem dX3_fits_52 : decode cX3_fits 52 = .ok (.if_icmp .ne 13, 3) := by decide +kernel
theorem dX3_fits_55 : decode cX3_fits 55 = .ok (.iload 6, 2) := by decide +kernel
theorem dX3_fits_57 : decode cX3_fits 57 = .ok (.iconst 2, 1) := by decide +kernel
theorem dX3_fits_58 : decode cX3_fits 58 = .ok (.irem, 1) := by decide +kernel
theorem dX3_fits_59 : decode cX3_fits 59 = .ok (.ifCond .ne 20, 3) := by decide +kernel
theorem dX3_fits_62 : decode cX3_fits 62 = .ok (.goto 13, 3) := by decide +kernel
theorem dX3_fits_65 : decode cX3_fits 65 = .ok (.iload 5, 2) := by decide +kernel
theorem dX3_fits_67 : decode cX3_fits 67 = .ok (.iload 6, 2) := by decide +kernel
theorem dX3_fits_69 : decode cX3_fits 69 = .ok (.iadd, 1) := by decide +kernel
theorem dX3_fits_70 : decode cX3_fits 70 = .ok (.iconst 2, 1) := by decide +kernel
theorem dX3_fits_71 : decode cX3_fits 71 = .ok (.irem, 1) := by decide +kernel
theorem dX3_fits_72 : decode cX3_fits 72 = .ok (.ifCond .ne 7, 3) := by decide +kernel
theorem dX3_fits_75 : decode cX3_fits 75 = .ok (.iconst 1, 1) := by decide +kernel
theorem dX3_fits_76 : decode cX3_fits 76 = .ok (.goto 4, 3) := by decide +kernel
theorem dX3_fits_79 : decode cX3_fits 79 = .ok (.iconst 0, 1) := by decide +kernel
theorem dX3_fits_80 : decode cX3_fits 80 = .ok (.istore 7, 2) := by decide +kernel
theorem dX3_fits_82 : decode cX3_fits 82 = .ok (.aload_n 0, 1) := by decide +kernel
theorem dX3_fits_83 : decode cX3_fits 83 = .ok (.iload_n 1, 1) := by decide +kernel
theorem dX3_fits_84 : decode cX3_fits 84 = .ok (.invokevirtual 100, 3) := by decide +kernel
theorem dX3_fits_87 : decode cX3_fits 87 = .ok (.iload 7, 2) := by decide +kernel
theorem dX3_fits_89 : decode cX3_fits 89 = .ok (.ifCond .eq 7, 3) := by decide +kernel
theorem dX3_fits_92 : decode cX3_fits 92 = .ok (.iload_n 3, 1) := by decide +kernel
theorem dX3_fits_93 : decode cX3_fits 93 = .ok (.goto 5, 3) := by decide +kernel
theorem dX3_fits_96 : decode cX3_fits 96 = .ok (.iload 4, 2) := by decide +kernel
theorem dX3_fits_98 : decode cX3_fits 98 = .ok (.if_icmp .ne 7, 3) := by decide +kernel
theorem dX3_fits_101 : decode cX3_fits 101 = .ok (.iconst 1, 1) := by decide +kernel
theorem dX3_fits_102 : decode cX3_fits 102 = .ok (.goto 4, 3) := by decide +kernel
theorem dX3_fits_105 : decode cX3_fits 105 = .ok (.iconst 0, 1) := by decide +kernel
theorem dX3_fits_106 : decode cX3_fits 106 = .ok (.ireturn, 1) := by decide +kernel
set_option maxRecDepth 20000 in
theorem ggX3_offBy_X3_fits : GoodIn wsX3_offBy wsX3_fits := goodIn_r _ [5, 6, 7, 8, 4, 9, 10, 11, 12, 13, 14, 15, 16, 17, 18, 19, 20, 21, 22, 23, 24, 25] (by decide +kernel) (by decide +kernel)
set_option maxRecDepth 20000 in
theorem gX3_offBy_X3_fits : GoodIn wsX3_offBy (wsV RX3 138 RX3 yX3_fits wsX3_fits) := goodIn_app (goodIn_of _ (by decide +kernel)) ggX3_offBy_X3_fits
theorem dX3_offBy_0 : decode cX3_offBy 0 = .ok (.iconst 0, 1) := by decide +kernel
theorem dX3_offBy_1 : decode cX3_offBy 1 = .ok (.istore 4, 2) := by decide +kernel
theorem dX3_offBy_3 : decode cX3_offBy 3 = .ok (.iconst 0, 1) := by decide +kernel
theorem dX3_offBy_4 : decode cX3_offBy 4 = .ok (.istore 5, 2) := by decide +kernel
theorem dX3_offBy_6 : decode cX3_offBy 6 = .ok (.iload 5, 2) := by decide +kernel
theorem dX3_offBy_8 : decode cX3_offBy 8 = .ok (.bipush 80, 2) := by decide +kernel
theorem dX3_offBy_10 : decode cX3_offBy 10 = .ok (.if_icmp .ge 31, 3) := by decide +kernel
theorem dX3_offBy_13 : decode cX3_offBy 13 = .ok (.iload 4, 2) := by decide +kernel
theorem dX3_offBy_15 : decode cX3_offBy 15 = .ok (.aload_n 0, 1) := by decide +kernel
theorem dX3_offBy_16 : decode cX3_offBy 16 = .ok (.iload 5, 2) := by decide +kernel
theorem dX3_offBy_18 : decode cX3_offBy 18 = .ok (.iload_n 1, 1) := by decide +kernel
theorem dX3_offBy_19 : decode cX3_offBy 19 = .ok (.iload_n 2, 1) := by decide +kernel
theorem dX3_offBy_20 : decode cX3_offBy 20 = .ok (.iload_n 3, 1) := by decide +kernel
theorem dX3_offBy_21 : decode cX3_offBy 21 = .ok (.invokevirtual 138, 3) := by decide +kernel
theorem dX3_offBy_24 : decode cX3_offBy 24 = .ok (.ifCond .eq 7, 3) := by decide +kernel
theorem dX3_offBy_27 : decode cX3_offBy 27 = .ok (.iconst 0, 1) := by decide +kernel
theorem dX3_offBy_28 : decode cX3_offBy 28 = .ok (.goto 4, 3) := by decide +kernel
theorem dX3_offBy_31 : decode cX3_offBy 31 = .ok (.iconst 1, 1) := by decide +kernel
theorem dX3_offBy_32 : decode cX3_offBy 32 = .ok (.iadd, 1) := by decide +kernel
theorem dX3_offBy_33 : decode cX3_offBy 33 = .ok (.istore 4, 2) := by decide +kernel
theorem dX3_offBy_35 : decode cX3_offBy 35 = .ok (.iinc 5 1, 3) := by decide +kernel
theorem dX3_offBy_38 : decode cX3_offBy 38 = .ok (.goto (-32), 3) := by decide +kernel
theorem dX3_offBy_41 : decode cX3_offBy 41 = .ok (.iload 4, 2) := by decide +kernel
theorem dX3_offBy_43 : decode cX3_offBy 43 = .ok (.ireturn, 1) := by decide +kernel
set_option maxRecDepth 20000 in
theorem ggX3_isPattern_X3_isIn : GoodIn wsX3_isPattern wsX3_isIn := goodIn_r _ [4] (by decide +kernel) (by decide +kernel)
set_option maxRecDepth 20000 in
theorem gX3_isPattern_X3_isIn : GoodIn wsX3_isPattern (va_wsS RX3 59 yX3_isIn wsX3_isIn) := goodIn_app (goodIn_of _ (by decide +kernel)) ggX3_isPattern_X3_isIn
set_option maxRecDepth 20000 in
theorem ggX3_isPattern_X3_isColour : GoodIn wsX3_isPattern wsX3_isColour := goodIn_r _ [7, 1, 2, 3, 4] (by decide +kernel) (by decide +kernel)
set_option maxRecDepth 20000 in
theorem gX3_isPattern_X3_isColour : GoodIn wsX3_isPattern (va_wsS RX3 74 yX3_isColour wsX3_isColour) := goodIn_app (goodIn_of _ (by decide +kernel)) ggX3_isPattern_X3_isColour
theorem dX3_isPattern_0 : decode cX3_isPattern 0 = .ok (.iload_n 0, 1) := by decide +kernel
theorem dX3_isPattern_1 : decode cX3_isPattern 1 = .ok (.iconst 0, 1) := by decide +kernel
theorem dX3_isPattern_2 : decode cX3_isPattern 2 = .ok (.iconst 3, 1) := by decide +kernel
theorem dX3_isPattern_3 : decode cX3_isPattern 3 = .ok (.invokestatic 59, 3) := by decide +kernel
theorem dX3_isPattern_6 : decode cX3_isPattern 6 = .ok (.ifCond .eq 21, 3) := by decide +kernel
theorem dX3_isPattern_9 : decode cX3_isPattern 9 = .ok (.iload_n 1, 1) := by decide +kernel
theorem dX3_isPattern_10 : decode cX3_isPattern 10 = .ok (.invokestatic 74, 3) := by decide +kernel
theorem dX3_isPattern_13 : decode cX3_isPattern 13 = .ok (.ifCond .eq 14, 3) := by decide +kernel
theorem dX3_isPattern_16 : decode cX3_isPattern 16 = .ok (.iload_n 2, 1) := by decide +kernel
theorem dX3_isPattern_17 : decode cX3_isPattern 17 = .ok (.invokestatic 74, 3) := by decide +kernel
theorem dX3_isPattern_20 : decode cX3_isPattern 20 = .ok (.ifCond .eq 7, 3) := by decide +kernel
theorem dX3_isPattern_23 : decode cX3_isPattern 23 = .ok (.iconst 1, 1) := by decide +kernel
theorem dX3_isPattern_24 : decode cX3_isPattern 24 = .ok (.goto 4, 3) := by decide +kernel
theorem dX3_isPattern_27 : decode cX3_isPattern 27 = .ok (.iconst 0, 1) := by decide +kernel
theorem dX3_isPattern_28 : decode cX3_isPattern 28 = .ok (.ireturn, 1) := by decide +kernel
set_option maxRecDepth 20000 in
theorem ggX3_off_X3_isPattern : GoodIn wsX3_off wsX3_isPattern := goodIn_r _ [5, 6, 7, 4, 8, 9, 10, 11] (by decide +kernel) (by decide +kernel)
set_option maxRecDepth 20000 in
theorem gX3_off_X3_isPattern : GoodIn wsX3_off (va_wsS RX3 142 yX3_isPattern wsX3_isPattern) := goodIn_app (goodIn_of _ (by decide +kernel)) ggX3_off_X3_isPattern
set_option maxRecDepth 20000 in
theorem ggX3_off_X3_offBy : GoodIn wsX3_off wsX3_offBy := goodIn_r _ [15, 16, 17, 18, 4, 19, 20, 21, 22, 23, 24, 25, 30, 31, 32, 33, 34, 35, 36, 37, 38, 39, 40, 41, 42, 43] (by decide +kernel) (by decide +kernel)
set_option maxRecDepth 20000 in
theorem gX3_off_X3_offBy : GoodIn wsX3_off (wsV RX3 145 RX3 yX3_offBy wsX3_offBy) := goodIn_app (goodIn_of _ (by decide +kernel)) ggX3_off_X3_offBy
set_option maxRecDepth 20000 in
theorem ggX3_off_X3_no : GoodIn wsX3_off wsX3_no := goodIn_r _ [29, 1, 30, 31, 32, 33, 34, 35, 36, 37, 38, 39, 40, 41, 42, 43] (by decide +kernel) (by decide +kernel)
set_option maxRecDepth 20000 in
theorem gX3_off_X3_no : GoodIn wsX3_off (wsV RX3 70 RX3 yX3_no wsX3_no) := goodIn_app (goodIn_of _ (by decide +kernel)) ggX3_off_X3_no
theorem dX3_off_0 : decode cX3_off 0 = .ok (.aload_n 0, 1) := by decide +kernel
theorem dX3_off_1 : decode cX3_off 1 = .ok (.iconst 0, 1) := by decide +kernel
theorem dX3_off_2 : decode cX3_off 2 = .ok (.putfield 55, 3) := by decide +kernel
theorem dX3_off_5 : decode cX3_off 5 = .ok (.iload_n 1, 1) := by decide +kernel
theorem dX3_off_6 : decode cX3_off 6 = .ok (.iload_n 2, 1) := by decide +kernel
theorem dX3_off_7 : decode cX3_off 7 = .ok (.iload_n 3, 1) := by decide +kernel
theorem dX3_off_8 : decode cX3_off 8 = .ok (.invokestatic 142, 3) := by decide +kernel
theorem dX3_off_11 : decode cX3_off 11 = .ok (.ifCond .eq 13, 3) := by decide +kernel
theorem dX3_off_14 : decode cX3_off 14 = .ok (.aload_n 0, 1) := by decide +kernel
theorem dX3_off_15 : decode cX3_off 15 = .ok (.iload_n 1, 1) := by decide +kernel
theorem dX3_off_16 : decode cX3_off 16 = .ok (.iload_n 2, 1) := by decide +kernel
theorem dX3_off_17 : decode cX3_off 17 = .ok (.iload_n 3, 1) := by decide +kernel
theorem dX3_off_18 : decode cX3_off 18 = .ok (.invokevirtual 145, 3) := by decide +kernel
theorem dX3_off_21 : decode cX3_off 21 = .ok (.goto 8, 3) := by decide +kernel
theorem dX3_off_24 : decode cX3_off 24 = .ok (.aload_n 0, 1) := by decide +kernel
theorem dX3_off_25 : decode cX3_off 25 = .ok (.iconst 1, 1) := by decide +kernel
theorem dX3_off_26 : decode cX3_off 26 = .ok (.invokevirtual 70, 3) := by decide +kernel
theorem dX3_off_29 : decode cX3_off 29 = .ok (.ireturn, 1) := by decide +kernel
set_option maxRecDepth 20000 in
theorem ggX3_advise_X3_isPattern : GoodIn wsX3_advise wsX3_isPattern := goodIn_r _ [7, 8, 9, 6, 10, 11, 12, 13] (by decide +kernel) (by decide +kernel)
set_option maxRecDepth 20000 in
theorem gX3_advise_X3_isPattern : GoodIn wsX3_advise (va_wsS RX3 142 yX3_isPattern wsX3_isPattern) := goodIn_app (goodIn_of _ (by decide +kernel)) ggX3_advise_X3_isPattern
set_option maxRecDepth 20000 in
theorem ggX3_advise_X3_no : GoodIn wsX3_advise wsX3_no := goodIn_r _ [17, 1, 44, 45, 46, 47, 48, 49, 50, 51, 52, 53, 54, 55, 56, 57] (by decide +kernel) (by decide +kernel)
set_option maxRecDepth 20000 in
theorem gX3_advise_X3_no : GoodIn wsX3_advise (wsV RX3 70 RX3 yX3_no wsX3_no) := goodIn_app (goodIn_of _ (by decide +kernel)) ggX3_advise_X3_no
set_option maxRecDepth 20000 in
theorem ggX3_advise_X3_offBy : GoodIn wsX3_advise wsX3_offBy := goodIn_r _ [21, 22, 23, 24, 6, 25, 26, 27, 28, 29, 30, 31, 44, 45, 46, 47, 48, 49, 50, 51, 52, 53, 54, 55, 56, 57] (by decide +kernel) (by decide +kernel)
set_option maxRecDepth 20000 in
theorem gX3_advise_X3_offBy : GoodIn wsX3_advise (wsV RX3 145 RX3 yX3_offBy wsX3_offBy) := goodIn_app (goodIn_of _ (by decide +kernel)) ggX3_advise_X3_offBy
set_option maxRecDepth 20000 in
theorem ggX3_advise_X2_isLoose : GoodIn wsX3_advise wsX2_isLoose := goodIn_r _ [36, 37, 38, 58, 59, 60, 44, 45, 46, 47, 48, 49, 50, 51, 52, 53, 54, 55, 56, 57] (by decide +kernel) (by decide +kernel)
set_option maxRecDepth 20000 in
theorem gX3_advise_X2_isLoose : GoodIn wsX3_advise (wsV RX3 89 RX2 yX2_isLoose wsX2_isLoose) := goodIn_app (goodIn_of _ (by decide +kernel)) ggX3_advise_X2_isLoose
set_option maxRecDepth 20000 in
theorem ggX3_advise_X3_swap : GoodIn wsX3_advise wsX3_swap := goodIn_r _ [42, 31, 43, 44, 45, 46, 47, 48, 49, 50, 51, 52, 53, 54, 55, 56, 57] (by decide +kernel) (by decide +kernel)
set_option maxRecDepth 20000 in
theorem gX3_advise_X3_swap : GoodIn wsX3_advise (wsV RX3 92 RX3 yX3_swap wsX3_swap) := goodIn_app (goodIn_of _ (by decide +kernel)) ggX3_advise_X3_swap
theorem dX3_advise_0 : decode cX3_advise 0 = .ok (.aload_n 0, 1) := by decide +kernel
theorem dX3_advise_1 : decode cX3_advise 1 = .ok (.iconst 0, 1) := by decide +kernel
theorem dX3_advise_2 : decode cX3_advise 2 = .ok (.putfield 55, 3) := by decide +kernel
theorem dX3_advise_5 : decode cX3_advise 5 = .ok (.iload_n 1, 1) := by decide +kernel
theorem dX3_advise_6 : decode cX3_advise 6 = .ok (.iload_n 2, 1) := by decide +kernel
theorem dX3_advise_7 : decode cX3_advise 7 = .ok (.iload_n 3, 1) := by decide +kernel
theorem dX3_advise_8 : decode cX3_advise 8 = .ok (.invokestatic 142, 3) := by decide +kernel
theorem dX3_advise_11 : decode cX3_advise 11 = .ok (.ifCond .ne 9, 3) := by decide +kernel
theorem dX3_advise_14 : decode cX3_advise 14 = .ok (.aload_n 0, 1) := by decide +kernel
theorem dX3_advise_15 : decode cX3_advise 15 = .ok (.iconst 1, 1) := by decide +kernel
theorem dX3_advise_16 : decode cX3_advise 16 = .ok (.invokevirtual 70, 3) := by decide +kernel
theorem dX3_advise_19 : decode cX3_advise 19 = .ok (.ireturn, 1) := by decide +kernel
theorem dX3_advise_20 : decode cX3_advise 20 = .ok (.aload_n 0, 1) := by decide +kernel
theorem dX3_advise_21 : decode cX3_advise 21 = .ok (.iload_n 1, 1) := by decide +kernel
theorem dX3_advise_22 : decode cX3_advise 22 = .ok (.iload_n 2, 1) := by decide +kernel
theorem dX3_advise_23 : decode cX3_advise 23 = .ok (.iload_n 3, 1) := by decide +kernel
theorem dX3_advise_24 : decode cX3_advise 24 = .ok (.invokevirtual 145, 3) := by decide +kernel
theorem dX3_advise_27 : decode cX3_advise 27 = .ok (.istore 4, 2) := by decide +kernel
theorem dX3_advise_29 : decode cX3_advise 29 = .ok (.iconst (-1), 1) := by decide +kernel
theorem dX3_advise_30 : decode cX3_advise 30 = .ok (.istore 5, 2) := by decide +kernel
theorem dX3_advise_32 : decode cX3_advise 32 = .ok (.iconst 0, 1) := by decide +kernel
theorem dX3_advise_33 : decode cX3_advise 33 = .ok (.istore 6, 2) := by decide +kernel
theorem dX3_advise_35 : decode cX3_advise 35 = .ok (.iload 6, 2) := by decide +kernel
theorem dX3_advise_37 : decode cX3_advise 37 = .ok (.aload_n 0, 1) := by decide +kernel
theorem dX3_advise_38 : decode cX3_advise 38 = .ok (.getfield 63, 3) := by decide +kernel
theorem dX3_advise_41 : decode cX3_advise 41 = .ok (.if_icmp .ge 63, 3) := by decide +kernel
theorem dX3_advise_44 : decode cX3_advise 44 = .ok (.aload_n 0, 1) := by decide +kernel
theorem dX3_advise_45 : decode cX3_advise 45 = .ok (.getfield 45, 3) := by decide +kernel
theorem dX3_advise_48 : decode cX3_advise 48 = .ok (.iload 6, 2) := by decide +kernel
theorem dX3_advise_50 : decode cX3_advise 50 = .ok (.invokevirtual 89, 3) := by decide +kernel
theorem dX3_advise_53 : decode cX3_advise 53 = .ok (.ifCond .ne 6, 3) := by decide +kernel
theorem dX3_advise_56 : decode cX3_advise 56 = .ok (.goto 42, 3) := by decide +kernel
theorem dX3_advise_59 : decode cX3_advise 59 = .ok (.aload_n 0, 1) := by decide +kernel
theorem dX3_advise_60 : decode cX3_advise 60 = .ok (.iload 6, 2) := by decide +kernel
theorem dX3_advise_62 : decode cX3_advise 62 = .ok (.invokevirtual 92, 3) := by decide +kernel
theorem dX3_advise_65 : decode cX3_advise 65 = .ok (.aload_n 0, 1) := by decide +kernel
theorem dX3_advise_66 : decode cX3_advise 66 = .ok (.iload_n 1, 1) := by decide +kernel
theorem dX3_advise_67 : decode cX3_advise 67 = .ok (.iload_n 2, 1) := by decide +kernel
theorem dX3_advise_68 : decode cX3_advise 68 = .ok (.iload_n 3, 1) := by decide +kernel
