theorem dX8_ifPlayed_17 : decode cX8_ifPlayed 17 = .ok (.i2l, 1) := by decide +kernel
theorem dX8_ifPlayed_18 : decode cX8_ifPlayed 18 = .ok (.lconst 0, 1) := by decide +kernel
theorem dX8_ifPlayed_19 : decode cX8_ifPlayed 19 = .ok (.ldc2_w 239, 3) := by decide +kernel
theorem dX8_ifPlayed_22 : decode cX8_ifPlayed 22 = .ok (.invokestatic 51, 3) := by decide +kernel
theorem dX8_ifPlayed_25 : decode cX8_ifPlayed 25 = .ok (.ifCond .eq 7, 3) := by decide +kernel
theorem dX8_ifPlayed_28 : decode cX8_ifPlayed 28 = .ok (.iconst 0, 1) := by decide +kernel
theorem dX8_ifPlayed_29 : decode cX8_ifPlayed 29 = .ok (.goto 4, 3) := by decide +kernel
theorem dX8_ifPlayed_32 : decode cX8_ifPlayed 32 = .ok (.iconst 2, 1) := by decide +kernel
theorem dX8_ifPlayed_33 : decode cX8_ifPlayed 33 = .ok (.invokevirtual 163, 3) := by decide +kernel
theorem dX8_ifPlayed_36 : decode cX8_ifPlayed 36 = .ok (.ifCond .eq 5, 3) := by decide +kernel
theorem dX8_ifPlayed_39 : decode cX8_ifPlayed 39 = .ok (.iconst 0, 1) := by decide +kernel
theorem dX8_ifPlayed_40 : decode cX8_ifPlayed 40 = .ok (.ireturn, 1) := by decide +kernel
theorem dX8_ifPlayed_41 : decode cX8_ifPlayed 41 = .ok (.aload_n 0, 1) := by decide +kernel
theorem dX8_ifPlayed_42 : decode cX8_ifPlayed 42 = .ok (.aload_n 0, 1) := by decide +kernel
theorem dX8_ifPlayed_43 : decode cX8_ifPlayed 43 = .ok (.getfield 13, 3) := by decide +kernel
theorem dX8_ifPlayed_46 : decode cX8_ifPlayed 46 = .ok (.iload_n 1, 1) := by decide +kernel
theorem dX8_ifPlayed_47 : decode cX8_ifPlayed 47 = .ok (.invokevirtual 186, 3) := by decide +kernel
theorem dX8_ifPlayed_50 : decode cX8_ifPlayed 50 = .ok (.ifCond .eq 5, 3) := by decide +kernel
theorem dX8_ifPlayed_53 : decode cX8_ifPlayed 53 = .ok (.iconst (-1), 1) := by decide +kernel
theorem dX8_ifPlayed_54 : decode cX8_ifPlayed 54 = .ok (.ireturn, 1) := by decide +kernel
theorem dX8_ifPlayed_55 : decode cX8_ifPlayed 55 = .ok (.aload_n 0, 1) := by decide +kernel
theorem dX8_ifPlayed_56 : decode cX8_ifPlayed 56 = .ok (.getfield 13, 3) := by decide +kernel
theorem dX8_ifPlayed_59 : decode cX8_ifPlayed 59 = .ok (.iconst 0, 1) := by decide +kernel
theorem dX8_ifPlayed_60 : decode cX8_ifPlayed 60 = .ok (.laload, 1) := by decide +kernel
theorem dX8_ifPlayed_61 : decode cX8_ifPlayed 61 = .ok (.l2i, 1) := by decide +kernel
theorem dX8_ifPlayed_62 : decode cX8_ifPlayed 62 = .ok (.istore_n 3, 1) := by decide +kernel
theorem dX8_ifPlayed_63 : decode cX8_ifPlayed 63 = .ok (.iload_n 2, 1) := by decide +kernel
theorem dX8_ifPlayed_64 : decode cX8_ifPlayed 64 = .ok (.ifCond .ne 10, 3) := by decide +kernel
theorem dX8_ifPlayed_67 : decode cX8_ifPlayed 67 = .ok (.aload_n 0, 1) := by decide +kernel
theorem dX8_ifPlayed_68 : decode cX8_ifPlayed 68 = .ok (.getfield 85, 3) := by decide +kernel
theorem dX8_ifPlayed_71 : decode cX8_ifPlayed 71 = .ok (.goto 53, 3) := by decide +kernel
theorem dX8_ifPlayed_74 : decode cX8_ifPlayed 74 = .ok (.iload_n 2, 1) := by decide +kernel
theorem dX8_ifPlayed_75 : decode cX8_ifPlayed 75 = .ok (.iconst 1, 1) := by decide +kernel
theorem dX8_ifPlayed_76 : decode cX8_ifPlayed 76 = .ok (.if_icmp .ne 13, 3) := by decide +kernel
theorem dX8_ifPlayed_79 : decode cX8_ifPlayed 79 = .ok (.aload_n 0, 1) := by decide +kernel
theorem dX8_ifPlayed_80 : decode cX8_ifPlayed 80 = .ok (.getfield 99, 3) := by decide +kernel
theorem dX8_ifPlayed_83 : decode cX8_ifPlayed 83 = .ok (.invokestatic 95, 3) := by decide +kernel
theorem dX8_ifPlayed_86 : decode cX8_ifPlayed 86 = .ok (.goto 38, 3) := by decide +kernel
theorem dX8_ifPlayed_89 : decode cX8_ifPlayed 89 = .ok (.iload_n 2, 1) := by decide +kernel
theorem dX8_ifPlayed_90 : decode cX8_ifPlayed 90 = .ok (.iconst 2, 1) := by decide +kernel
theorem dX8_ifPlayed_91 : decode cX8_ifPlayed 91 = .ok (.if_icmp .ne 20, 3) := by decide +kernel
theorem dX8_ifPlayed_94 : decode cX8_ifPlayed 94 = .ok (.iload_n 3, 1) := by decide +kernel
theorem dX8_ifPlayed_95 : decode cX8_ifPlayed 95 = .ok (.lconst 1, 1) := by decide +kernel
theorem dX8_ifPlayed_96 : decode cX8_ifPlayed 96 = .ok (.iload_n 1, 1) := by decide +kernel
theorem dX8_ifPlayed_97 : decode cX8_ifPlayed 97 = .ok (.lshl, 1) := by decide +kernel
theorem dX8_ifPlayed_98 : decode cX8_ifPlayed 98 = .ok (.aload_n 0, 1) := by decide +kernel
theorem dX8_ifPlayed_99 : decode cX8_ifPlayed 99 = .ok (.getfield 78, 3) := by decide +kernel
theorem dX8_ifPlayed_102 : decode cX8_ifPlayed 102 = .ok (.invokestatic 88, 3) := by decide +kernel
theorem dX8_ifPlayed_105 : decode cX8_ifPlayed 105 = .ok (.invokestatic 95, 3) := by decide +kernel
theorem dX8_ifPlayed_108 : decode cX8_ifPlayed 108 = .ok (.goto 16, 3) := by decide +kernel
theorem dX8_ifPlayed_111 : decode cX8_ifPlayed 111 = .ok (.iload_n 3, 1) := by decide +kernel
theorem dX8_ifPlayed_112 : decode cX8_ifPlayed 112 = .ok (.aload_n 0, 1) := by decide +kernel
theorem dX8_ifPlayed_113 : decode cX8_ifPlayed 113 = .ok (.getfield 82, 3) := by decide +kernel
theorem dX8_ifPlayed_116 : decode cX8_ifPlayed 116 = .ok (.aload_n 0, 1) := by decide +kernel
theorem dX8_ifPlayed_117 : decode cX8_ifPlayed 117 = .ok (.getfield 78, 3) := by decide +kernel
theorem dX8_ifPlayed_120 : decode cX8_ifPlayed 120 = .ok (.iconst 1, 1) := by decide +kernel
theorem dX8_ifPlayed_121 : decode cX8_ifPlayed 121 = .ok (.invokestatic 121, 3) := by decide +kernel
theorem dX8_ifPlayed_124 : decode cX8_ifPlayed 124 = .ok (.ireturn, 1) := by decide +kernel
set_option maxRecDepth 20000 in
theorem ggX8_bestTake_X8_points : GoodIn wsX8_bestTake wsX8_points := goodIn_r _ [7] (by decide +kernel) (by decide +kernel)
set_option maxRecDepth 20000 in
theorem gX8_bestTake_X8_points : GoodIn wsX8_bestTake (va_wsS RX8 47 yX8_points wsX8_points) := goodIn_app (goodIn_of _ (by decide +kernel)) ggX8_bestTake_X8_points
set_option maxRecDepth 20000 in
theorem ggX8_bestTake_X8_whyNot : GoodIn wsX8_bestTake wsX8_whyNot := goodIn_r _ [11, 12, 13, 14, 15, 6, 16, 17, 18, 19, 20, 21, 22, 23, 24, 25, 26, 27, 28, 29, 3, 30, 31, 32, 33, 34, 35, 36, 37, 38, 39, 40, 41, 42, 43, 44, 45, 46, 47, 48, 49, 50, 51, 52, 53, 54, 55, 56, 57, 58, 59, 60, 61, 62, 63, 64, 65, 66, 67, 68, 69, 70, 71, 72, 73, 74] (by decide +kernel) (by decide +kernel)
set_option maxRecDepth 20000 in
theorem gX8_bestTake_X8_whyNot : GoodIn wsX8_bestTake (wsV RX8 186 RX8 yX8_whyNot wsX8_whyNot) := goodIn_app (goodIn_of _ (by decide +kernel)) ggX8_bestTake_X8_whyNot
theorem dX8_bestTake_0 : decode cX8_bestTake 0 = .ok (.aload_n 0, 1) := by decide +kernel
theorem dX8_bestTake_1 : decode cX8_bestTake 1 = .ok (.iconst 0, 1) := by decide +kernel
theorem dX8_bestTake_2 : decode cX8_bestTake 2 = .ok (.putfield 43, 3) := by decide +kernel
theorem dX8_bestTake_5 : decode cX8_bestTake 5 = .ok (.iconst (-1), 1) := by decide +kernel
theorem dX8_bestTake_6 : decode cX8_bestTake 6 = .ok (.istore_n 1, 1) := by decide +kernel
theorem dX8_bestTake_7 : decode cX8_bestTake 7 = .ok (.iconst 0, 1) := by decide +kernel
theorem dX8_bestTake_8 : decode cX8_bestTake 8 = .ok (.istore_n 2, 1) := by decide +kernel
theorem dX8_bestTake_9 : decode cX8_bestTake 9 = .ok (.iconst 0, 1) := by decide +kernel
theorem dX8_bestTake_10 : decode cX8_bestTake 10 = .ok (.istore_n 3, 1) := by decide +kernel
theorem dX8_bestTake_11 : decode cX8_bestTake 11 = .ok (.iload_n 3, 1) := by decide +kernel
theorem dX8_bestTake_12 : decode cX8_bestTake 12 = .ok (.aload_n 0, 1) := by decide +kernel
theorem dX8_bestTake_13 : decode cX8_bestTake 13 = .ok (.getfield 13, 3) := by decide +kernel
theorem dX8_bestTake_16 : decode cX8_bestTake 16 = .ok (.invokestatic 47, 3) := by decide +kernel
theorem dX8_bestTake_19 : decode cX8_bestTake 19 = .ok (.if_icmp .ge 36, 3) := by decide +kernel
theorem dX8_bestTake_22 : decode cX8_bestTake 22 = .ok (.aload_n 0, 1) := by decide +kernel
theorem dX8_bestTake_23 : decode cX8_bestTake 23 = .ok (.aload_n 0, 1) := by decide +kernel
theorem dX8_bestTake_24 : decode cX8_bestTake 24 = .ok (.getfield 13, 3) := by decide +kernel
theorem dX8_bestTake_27 : decode cX8_bestTake 27 = .ok (.iload_n 3, 1) := by decide +kernel
theorem dX8_bestTake_28 : decode cX8_bestTake 28 = .ok (.invokevirtual 186, 3) := by decide +kernel
theorem dX8_bestTake_31 : decode cX8_bestTake 31 = .ok (.ifCond .ne 18, 3) := by decide +kernel
theorem dX8_bestTake_34 : decode cX8_bestTake 34 = .ok (.aload_n 0, 1) := by decide +kernel
theorem dX8_bestTake_35 : decode cX8_bestTake 35 = .ok (.getfield 85, 3) := by decide +kernel
theorem dX8_bestTake_38 : decode cX8_bestTake 38 = .ok (.iload_n 2, 1) := by decide +kernel
theorem dX8_bestTake_39 : decode cX8_bestTake 39 = .ok (.if_icmp .le 10, 3) := by decide +kernel
theorem dX8_bestTake_42 : decode cX8_bestTake 42 = .ok (.iload_n 3, 1) := by decide +kernel
theorem dX8_bestTake_43 : decode cX8_bestTake 43 = .ok (.istore_n 1, 1) := by decide +kernel
theorem dX8_bestTake_44 : decode cX8_bestTake 44 = .ok (.aload_n 0, 1) := by decide +kernel
theorem dX8_bestTake_45 : decode cX8_bestTake 45 = .ok (.getfield 85, 3) := by decide +kernel
theorem dX8_bestTake_48 : decode cX8_bestTake 48 = .ok (.istore_n 2, 1) := by decide +kernel
theorem dX8_bestTake_49 : decode cX8_bestTake 49 = .ok (.iinc 3 1, 3) := by decide +kernel
theorem dX8_bestTake_52 : decode cX8_bestTake 52 = .ok (.goto (-41), 3) := by decide +kernel
theorem dX8_bestTake_55 : decode cX8_bestTake 55 = .ok (.iload_n 1, 1) := by decide +kernel
theorem dX8_bestTake_56 : decode cX8_bestTake 56 = .ok (.ireturn, 1) := by decide +kernel
set_option maxRecDepth 20000 in
theorem ggX8_choices_X8_points : GoodIn wsX8_choices wsX8_points := goodIn_r _ [6] (by decide +kernel) (by decide +kernel)
set_option maxRecDepth 20000 in
theorem gX8_choices_X8_points : GoodIn wsX8_choices (va_wsS RX8 47 yX8_points wsX8_points) := goodIn_app (goodIn_of _ (by decide +kernel)) ggX8_choices_X8_points
set_option maxRecDepth 20000 in
theorem ggX8_choices_X8_whyNot : GoodIn wsX8_choices wsX8_whyNot := goodIn_r _ [10, 11, 12, 13, 14, 5, 15, 16, 17, 18, 19, 20, 21, 22, 23, 24, 25, 26, 27, 28, 29, 30, 31, 32, 33, 34, 35, 36, 37, 38, 39, 40, 41, 42, 43, 44, 45, 46, 47, 48, 49, 50, 51, 52, 53, 54, 55, 56, 57, 58, 59, 60, 61, 62, 63, 64, 65, 66, 67, 68, 69, 70, 71, 72, 73, 74] (by decide +kernel) (by decide +kernel)
set_option maxRecDepth 20000 in
theorem gX8_choices_X8_whyNot : GoodIn wsX8_choices (wsV RX8 186 RX8 yX8_whyNot wsX8_whyNot) := goodIn_app (goodIn_of _ (by decide +kernel)) ggX8_choices_X8_whyNot
theorem dX8_choices_0 : decode cX8_choices 0 = .ok (.aload_n 0, 1) := by decide +kernel
theorem dX8_choices_1 : decode cX8_choices 1 = .ok (.iconst 0, 1) := by decide +kernel
theorem dX8_choices_2 : decode cX8_choices 2 = .ok (.putfield 43, 3) := by decide +kernel
theorem dX8_choices_5 : decode cX8_choices 5 = .ok (.iconst 0, 1) := by decide +kernel
theorem dX8_choices_6 : decode cX8_choices 6 = .ok (.istore_n 1, 1) := by decide +kernel
theorem dX8_choices_7 : decode cX8_choices 7 = .ok (.iconst 0, 1) := by decide +kernel
theorem dX8_choices_8 : decode cX8_choices 8 = .ok (.istore_n 2, 1) := by decide +kernel
theorem dX8_choices_9 : decode cX8_choices 9 = .ok (.iload_n 2, 1) := by decide +kernel
theorem dX8_choices_10 : decode cX8_choices 10 = .ok (.aload_n 0, 1) := by decide +kernel
theorem dX8_choices_11 : decode cX8_choices 11 = .ok (.getfield 13, 3) := by decide +kernel
theorem dX8_choices_14 : decode cX8_choices 14 = .ok (.invokestatic 47, 3) := by decide +kernel
theorem dX8_choices_17 : decode cX8_choices 17 = .ok (.if_icmp .ge 29, 3) := by decide +kernel
theorem dX8_choices_20 : decode cX8_choices 20 = .ok (.iload_n 1, 1) := by decide +kernel
theorem dX8_choices_21 : decode cX8_choices 21 = .ok (.aload_n 0, 1) := by decide +kernel
theorem dX8_choices_22 : decode cX8_choices 22 = .ok (.aload_n 0, 1) := by decide +kernel
theorem dX8_choices_23 : decode cX8_choices 23 = .ok (.getfield 13, 3) := by decide +kernel
theorem dX8_choices_26 : decode cX8_choices 26 = .ok (.iload_n 2, 1) := by decide +kernel
theorem dX8_choices_27 : decode cX8_choices 27 = .ok (.invokevirtual 186, 3) := by decide +kernel
theorem dX8_choices_30 : decode cX8_choices 30 = .ok (.ifCond .ne 7, 3) := by decide +kernel
theorem dX8_choices_33 : decode cX8_choices 33 = .ok (.iconst 1, 1) := by decide +kernel
theorem dX8_choices_34 : decode cX8_choices 34 = .ok (.goto 4, 3) := by decide +kernel
theorem dX8_choices_37 : decode cX8_choices 37 = .ok (.iconst 0, 1) := by decide +kernel
theorem dX8_choices_38 : decode cX8_choices 38 = .ok (.iadd, 1) := by decide +kernel
theorem dX8_choices_39 : decode cX8_choices 39 = .ok (.istore_n 1, 1) := by decide +kernel
theorem dX8_choices_40 : decode cX8_choices 40 = .ok (.iinc 2 1, 3) := by decide +kernel
theorem dX8_choices_43 : decode cX8_choices 43 = .ok (.goto (-34), 3) := by decide +kernel
theorem dX8_choices_46 : decode cX8_choices 46 = .ok (.iload_n 1, 1) := by decide +kernel
theorem dX8_choices_47 : decode cX8_choices 47 = .ok (.ireturn, 1) := by decide +kernel
set_option maxRecDepth 20000 in
theorem ggX8_ladder_X8_isPoint : GoodIn wsX8_ladder wsX8_isPoint := goodIn_r _ [5, 6, 7, 4, 8, 9, 10, 11] (by decide +kernel) (by decide +kernel)
set_option maxRecDepth 20000 in
theorem gX8_ladder_X8_isPoint : GoodIn wsX8_ladder (va_wsS RX8 182 yX8_isPoint wsX8_isPoint) := goodIn_app (goodIn_of _ (by decide +kernel)) ggX8_ladder_X8_isPoint
set_option maxRecDepth 20000 in
theorem ggX8_ladder_X8_in : GoodIn wsX8_ladder wsX8_in := goodIn_r _ [11] (by decide +kernel) (by decide +kernel)
set_option maxRecDepth 20000 in
theorem gX8_ladder_X8_in : GoodIn wsX8_ladder (va_wsS RX8 51 yX8_in wsX8_in) := goodIn_app (goodIn_of _ (by decide +kernel)) ggX8_ladder_X8_in
set_option maxRecDepth 20000 in
theorem ggX8_ladder_X8_refused : GoodIn wsX8_ladder wsX8_refused := goodIn_r _ [15, 16, 83, 84, 85, 86, 87, 88, 89, 90, 91, 92, 93, 94, 95, 96, 97, 98, 99, 100, 101] (by decide +kernel) (by decide +kernel)
set_option maxRecDepth 20000 in
theorem gX8_ladder_X8_refused : GoodIn wsX8_ladder (wsV RX8 163 RX8 yX8_refused wsX8_refused) := goodIn_app (goodIn_of _ (by decide +kernel)) ggX8_ladder_X8_refused
set_option maxRecDepth 20000 in
theorem ggX8_ladder_X8_ladderOn : GoodIn wsX8_ladder wsX8_ladderOn := goodIn_r _ [20, 21, 22, 23, 4, 24, 25, 26, 27, 28, 29, 30, 31, 32, 33, 34, 35, 36, 37, 38, 39, 40, 41, 42, 43, 44, 45, 46, 47, 48, 49, 50, 51, 52, 53, 54, 55, 56, 57, 58, 59, 60, 61, 62, 63, 64, 65, 66, 67, 68, 69, 70, 71, 72, 73, 74, 75, 76, 77, 78, 79, 80, 81, 82, 83, 84, 85, 86, 87, 88, 89, 90, 91, 92, 93, 94, 95, 96, 97, 98, 99, 100, 101] (by decide +kernel) (by decide +kernel)
set_option maxRecDepth 20000 in
theorem gX8_ladder_X8_ladderOn : GoodIn wsX8_ladder (wsV RX8 247 RX8 yX8_ladderOn wsX8_ladderOn) := goodIn_app (goodIn_of _ (by decide +kernel)) ggX8_ladder_X8_ladderOn
theorem dX8_ladder_0 : decode cX8_ladder 0 = .ok (.aload_n 0, 1) := by decide +kernel
theorem dX8_ladder_1 : decode cX8_ladder 1 = .ok (.aload_n 0, 1) := by decide +kernel
theorem dX8_ladder_2 : decode cX8_ladder 2 = .ok (.getfield 13, 3) := by decide +kernel
theorem dX8_ladder_5 : decode cX8_ladder 5 = .ok (.iload_n 1, 1) := by decide +kernel
theorem dX8_ladder_6 : decode cX8_ladder 6 = .ok (.invokestatic 182, 3) := by decide +kernel
theorem dX8_ladder_9 : decode cX8_ladder 9 = .ok (.ifCond .ne 7, 3) := by decide +kernel
theorem dX8_ladder_12 : decode cX8_ladder 12 = .ok (.iconst 1, 1) := by decide +kernel
theorem dX8_ladder_13 : decode cX8_ladder 13 = .ok (.goto 18, 3) := by decide +kernel
theorem dX8_ladder_16 : decode cX8_ladder 16 = .ok (.iload_n 2, 1) := by decide +kernel
theorem dX8_ladder_17 : decode cX8_ladder 17 = .ok (.i2l, 1) := by decide +kernel
theorem dX8_ladder_18 : decode cX8_ladder 18 = .ok (.lconst 0, 1) := by decide +kernel
theorem dX8_ladder_19 : decode cX8_ladder 19 = .ok (.lconst 1, 1) := by decide +kernel
theorem dX8_ladder_20 : decode cX8_ladder 20 = .ok (.invokestatic 51, 3) := by decide +kernel
theorem dX8_ladder_23 : decode cX8_ladder 23 = .ok (.ifCond .eq 7, 3) := by decide +kernel
theorem dX8_ladder_26 : decode cX8_ladder 26 = .ok (.iconst 0, 1) := by decide +kernel
theorem dX8_ladder_27 : decode cX8_ladder 27 = .ok (.goto 4, 3) := by decide +kernel
theorem dX8_ladder_30 : decode cX8_ladder 30 = .ok (.iconst 2, 1) := by decide +kernel
theorem dX8_ladder_31 : decode cX8_ladder 31 = .ok (.invokevirtual 163, 3) := by decide +kernel
theorem dX8_ladder_34 : decode cX8_ladder 34 = .ok (.ifCond .eq 5, 3) := by decide +kernel
theorem dX8_ladder_37 : decode cX8_ladder 37 = .ok (.iconst 0, 1) := by decide +kernel
theorem dX8_ladder_38 : decode cX8_ladder 38 = .ok (.ireturn, 1) := by decide +kernel
theorem dX8_ladder_39 : decode cX8_ladder 39 = .ok (.aload_n 0, 1) := by decide +kernel
theorem dX8_ladder_40 : decode cX8_ladder 40 = .ok (.aload_n 0, 1) := by decide +kernel
theorem dX8_ladder_41 : decode cX8_ladder 41 = .ok (.getfield 13, 3) := by decide +kernel
theorem dX8_ladder_44 : decode cX8_ladder 44 = .ok (.iload_n 1, 1) := by decide +kernel
theorem dX8_ladder_45 : decode cX8_ladder 45 = .ok (.iload_n 2, 1) := by decide +kernel
theorem dX8_ladder_46 : decode cX8_ladder 46 = .ok (.invokevirtual 247, 3) := by decide +kernel
theorem dX8_ladder_49 : decode cX8_ladder 49 = .ok (.ireturn, 1) := by decide +kernel
set_option maxRecDepth 20000 in
theorem ggX8_chase_X8_isPoint : GoodIn wsX8_chase wsX8_isPoint := goodIn_r _ [6, 7, 8, 5, 9, 10, 11, 12] (by decide +kernel) (by decide +kernel)
set_option maxRecDepth 20000 in
theorem gX8_chase_X8_isPoint : GoodIn wsX8_chase (va_wsS RX8 182 yX8_isPoint wsX8_isPoint) := goodIn_app (goodIn_of _ (by decide +kernel)) ggX8_chase_X8_isPoint
set_option maxRecDepth 20000 in
theorem ggX8_chase_X8_refused : GoodIn wsX8_chase wsX8_refused := goodIn_r _ [16, 17, 85, 86, 87, 88, 89, 90, 91, 92, 93, 94, 95, 96, 97, 98, 99, 100, 101, 102, 103] (by decide +kernel) (by decide +kernel)
set_option maxRecDepth 20000 in
theorem gX8_chase_X8_refused : GoodIn wsX8_chase (wsV RX8 163 RX8 yX8_refused wsX8_refused) := goodIn_app (goodIn_of _ (by decide +kernel)) ggX8_chase_X8_refused
set_option maxRecDepth 20000 in
theorem ggX8_chase_X8_groupAt : GoodIn wsX8_chase wsX8_groupAt := goodIn_r _ [20, 21, 22, 5, 23, 24, 25, 26, 27, 28, 29, 30, 31, 32, 33, 34, 35, 36, 37, 38, 39, 40, 41, 42, 43, 44, 45] (by decide +kernel) (by decide +kernel)
set_option maxRecDepth 20000 in
theorem gX8_chase_X8_groupAt : GoodIn wsX8_chase (va_wsS RX8 232 yX8_groupAt wsX8_groupAt) := goodIn_app (goodIn_of _ (by decide +kernel)) ggX8_chase_X8_groupAt
set_option maxRecDepth 20000 in
theorem ggX8_chase_X8_stonesOf : GoodIn wsX8_chase wsX8_stonesOf := goodIn_r _ [23, 24, 25, 5, 26] (by decide +kernel) (by decide +kernel)
set_option maxRecDepth 20000 in
theorem gX8_chase_X8_stonesOf : GoodIn wsX8_chase (va_wsS RX8 105 yX8_stonesOf wsX8_stonesOf) := goodIn_app (goodIn_of _ (by decide +kernel)) ggX8_chase_X8_stonesOf
set_option maxRecDepth 20000 in
theorem ggX8_chase_X8_has : GoodIn wsX8_chase wsX8_has := goodIn_r _ [29] (by decide +kernel) (by decide +kernel)
set_option maxRecDepth 20000 in
theorem gX8_chase_X8_has : GoodIn wsX8_chase (va_wsS RX8 58 yX8_has wsX8_has) := goodIn_app (goodIn_of _ (by decide +kernel)) ggX8_chase_X8_has
set_option maxRecDepth 20000 in
theorem ggX8_chase_X8_freeOf : GoodIn wsX8_chase wsX8_freeOf := goodIn_r _ [48, 21, 22, 5, 23, 24, 25, 26, 49, 50, 51, 39, 33, 34, 35, 36, 37, 38, 40, 41, 42, 43, 44, 45] (by decide +kernel) (by decide +kernel)
set_option maxRecDepth 20000 in
theorem gX8_chase_X8_freeOf : GoodIn wsX8_chase (va_wsS RX8 226 yX8_freeOf wsX8_freeOf) := goodIn_app (goodIn_of _ (by decide +kernel)) ggX8_chase_X8_freeOf
set_option maxRecDepth 20000 in
theorem ggX8_chase_X8_bits : GoodIn wsX8_chase wsX8_bits := goodIn_r _ [54, 27, 28, 5, 29] (by decide +kernel) (by decide +kernel)
set_option maxRecDepth 20000 in
theorem gX8_chase_X8_bits : GoodIn wsX8_chase (va_wsS RX8 95 yX8_bits wsX8_bits) := goodIn_app (goodIn_of _ (by decide +kernel)) ggX8_chase_X8_bits
set_option maxRecDepth 20000 in
theorem ggX8_chase_X8_lowest : GoodIn wsX8_chase wsX8_lowest := goodIn_r _ [57, 27, 28, 5, 29] (by decide +kernel) (by decide +kernel)
set_option maxRecDepth 20000 in
theorem gX8_chase_X8_lowest : GoodIn wsX8_chase (va_wsS RX8 139 yX8_lowest wsX8_lowest) := goodIn_app (goodIn_of _ (by decide +kernel)) ggX8_chase_X8_lowest
set_option maxRecDepth 20000 in
theorem ggX8_chase_X8_chaserLays : GoodIn wsX8_chase wsX8_chaserLays := goodIn_r _ [61, 62, 63, 64, 65, 66, 5, 67, 68, 39, 69, 33, 34, 35, 36, 37, 38, 40, 41, 42, 43, 44, 45, 30, 31, 32, 49, 50, 51, 52, 53, 54, 27, 28, 29, 70, 71, 72, 73, 55, 56, 57, 74, 75, 76, 77, 78, 2, 79, 80, 85, 86, 87, 88, 89, 90, 91, 92, 93, 94, 95, 96, 97, 98, 99, 100, 101, 102, 103] (by decide +kernel) (by decide +kernel)
set_option maxRecDepth 20000 in
theorem gX8_chase_X8_chaserLays : GoodIn wsX8_chase (wsV RX8 150 RX8 yX8_chaserLays wsX8_chaserLays) := goodIn_app (goodIn_of _ (by decide +kernel)) ggX8_chase_X8_chaserLays
set_option maxRecDepth 20000 in
theorem ggX8_chase_X8_works : GoodIn wsX8_chase wsX8_works := goodIn_r _ [84, 2, 78, 79, 80, 30, 31, 5, 32, 33, 34, 35, 36, 37, 38, 39, 40, 41, 42, 43, 44, 45, 49, 50, 51, 52, 53, 54, 27, 28, 29, 55, 56, 57, 58, 59, 60, 61, 62, 63, 64, 65, 66, 67, 68, 69, 70, 71, 72, 73, 74, 75, 76, 77, 85, 86, 87, 88, 89, 90, 91, 92, 93, 94, 95, 96, 97, 98, 99, 100, 101, 102, 103] (by decide +kernel) (by decide +kernel)
set_option maxRecDepth 20000 in
theorem gX8_chase_X8_works : GoodIn wsX8_chase (wsV RX8 154 RX8 yX8_works wsX8_works) := goodIn_app (goodIn_of _ (by decide +kernel)) ggX8_chase_X8_works
theorem dX8_chase_0 : decode cX8_chase 0 = .ok (.aload_n 0, 1) := by decide +kernel
theorem dX8_chase_1 : decode cX8_chase 1 = .ok (.aload_n 0, 1) := by decide +kernel
theorem dX8_chase_2 : decode cX8_chase 2 = .ok (.getfield 13, 3) := by decide +kernel
theorem dX8_chase_5 : decode cX8_chase 5 = .ok (.iload_n 1, 1) := by decide +kernel
theorem dX8_chase_6 : decode cX8_chase 6 = .ok (.invokestatic 182, 3) := by decide +kernel
theorem dX8_chase_9 : decode cX8_chase 9 = .ok (.ifCond .eq 7, 3) := by decide +kernel
theorem dX8_chase_12 : decode cX8_chase 12 = .ok (.iconst 0, 1) := by decide +kernel
theorem dX8_chase_13 : decode cX8_chase 13 = .ok (.goto 4, 3) := by decide +kernel
theorem dX8_chase_16 : decode cX8_chase 16 = .ok (.iconst 1, 1) := by decide +kernel
theorem dX8_chase_17 : decode cX8_chase 17 = .ok (.invokevirtual 163, 3) := by decide +kernel
theorem dX8_chase_20 : decode cX8_chase 20 = .ok (.ifCond .eq 5, 3) := by decide +kernel
theorem dX8_chase_23 : decode cX8_chase 23 = .ok (.iconst 0, 1) := by decide +kernel
theorem dX8_chase_24 : decode cX8_chase 24 = .ok (.ireturn, 1) := by decide +kernel
theorem dX8_chase_25 : decode cX8_chase 25 = .ok (.aload_n 0, 1) := by decide +kernel
theorem dX8_chase_26 : decode cX8_chase 26 = .ok (.getfield 13, 3) := by decide +kernel
theorem dX8_chase_29 : decode cX8_chase 29 = .ok (.iload_n 1, 1) := by decide +kernel
theorem dX8_chase_30 : decode cX8_chase 30 = .ok (.invokestatic 232, 3) := by decide +kernel
theorem dX8_chase_33 : decode cX8_chase 33 = .ok (.lstore_n 2, 1) := by decide +kernel
theorem dX8_chase_34 : decode cX8_chase 34 = .ok (.lload_n 2, 1) := by decide +kernel
theorem dX8_chase_35 : decode cX8_chase 35 = .ok (.lconst 0, 1) := by decide +kernel
theorem dX8_chase_36 : decode cX8_chase 36 = .ok (.lcmp, 1) := by decide +kernel
theorem dX8_chase_37 : decode cX8_chase 37 = .ok (.ifCond .ne 5, 3) := by decide +kernel
theorem dX8_chase_40 : decode cX8_chase 40 = .ok (.iconst (-1), 1) := by decide +kernel
theorem dX8_chase_41 : decode cX8_chase 41 = .ok (.ireturn, 1) := by decide +kernel
theorem dX8_chase_42 : decode cX8_chase 42 = .ok (.aload_n 0, 1) := by decide +kernel
theorem dX8_chase_43 : decode cX8_chase 43 = .ok (.getfield 13, 3) := by decide +kernel
theorem dX8_chase_46 : decode cX8_chase 46 = .ok (.iconst 0, 1) := by decide +kernel
theorem dX8_chase_47 : decode cX8_chase 47 = .ok (.laload, 1) := by decide +kernel
theorem dX8_chase_48 : decode cX8_chase 48 = .ok (.l2i, 1) := by decide +kernel
theorem dX8_chase_49 : decode cX8_chase 49 = .ok (.istore 4, 2) := by decide +kernel
theorem dX8_chase_51 : decode cX8_chase 51 = .ok (.aload_n 0, 1) := by decide +kernel
theorem dX8_chase_52 : decode cX8_chase 52 = .ok (.getfield 13, 3) := by decide +kernel
theorem dX8_chase_55 : decode cX8_chase 55 = .ok (.iconst 0, 1) := by decide +kernel
theorem dX8_chase_56 : decode cX8_chase 56 = .ok (.invokestatic 105, 3) := by decide +kernel
theorem dX8_chase_59 : decode cX8_chase 59 = .ok (.iload_n 1, 1) := by decide +kernel
theorem dX8_chase_60 : decode cX8_chase 60 = .ok (.invokestatic 58, 3) := by decide +kernel
theorem dX8_chase_63 : decode cX8_chase 63 = .ok (.ifCond .eq 7, 3) := by decide +kernel
theorem dX8_chase_66 : decode cX8_chase 66 = .ok (.iconst 0, 1) := by decide +kernel
theorem dX8_chase_67 : decode cX8_chase 67 = .ok (.goto 4, 3) := by decide +kernel
theorem dX8_chase_70 : decode cX8_chase 70 = .ok (.iconst 1, 1) := by decide +kernel
theorem dX8_chase_71 : decode cX8_chase 71 = .ok (.istore 5, 2) := by decide +kernel
theorem dX8_chase_73 : decode cX8_chase 73 = .ok (.aload_n 0, 1) := by decide +kernel
theorem dX8_chase_74 : decode cX8_chase 74 = .ok (.getfield 13, 3) := by decide +kernel
theorem dX8_chase_77 : decode cX8_chase 77 = .ok (.lload_n 2, 1) := by decide +kernel
theorem dX8_chase_78 : decode cX8_chase 78 = .ok (.invokestatic 226, 3) := by decide +kernel
theorem dX8_chase_81 : decode cX8_chase 81 = .ok (.lstore 6, 2) := by decide +kernel
theorem dX8_chase_83 : decode cX8_chase 83 = .ok (.lload 6, 2) := by decide +kernel
theorem dX8_chase_85 : decode cX8_chase 85 = .ok (.invokestatic 95, 3) := by decide +kernel
theorem dX8_chase_88 : decode cX8_chase 88 = .ok (.istore 8, 2) := by decide +kernel
theorem dX8_chase_90 : decode cX8_chase 90 = .ok (.iconst 0, 1) := by decide +kernel
theorem dX8_chase_91 : decode cX8_chase 91 = .ok (.istore 9, 2) := by decide +kernel
theorem dX8_chase_93 : decode cX8_chase 93 = .ok (.iload 9, 2) := by decide +kernel
theorem dX8_chase_95 : decode cX8_chase 95 = .ok (.iload 8, 2) := by decide +kernel
theorem dX8_chase_97 : decode cX8_chase 97 = .ok (.if_icmp .ge 105, 3) := by decide +kernel
theorem dX8_chase_100 : decode cX8_chase 100 = .ok (.iload 8, 2) := by decide +kernel
theorem dX8_chase_102 : decode cX8_chase 102 = .ok (.iconst 3, 1) := by decide +kernel
theorem dX8_chase_103 : decode cX8_chase 103 = .ok (.if_icmp .ge 99, 3) := by decide +kernel
theorem dX8_chase_106 : decode cX8_chase 106 = .ok (.lload 6, 2) := by decide +kernel
theorem dX8_chase_108 : decode cX8_chase 108 = .ok (.invokestatic 139, 3) := by decide +kernel
theorem dX8_chase_111 : decode cX8_chase 111 = .ok (.istore 10, 2) := by decide +kernel
theorem dX8_chase_113 : decode cX8_chase 113 = .ok (.lload 6, 2) := by decide +kernel
theorem dX8_chase_115 : decode cX8_chase 115 = .ok (.lload 6, 2) := by decide +kernel
theorem dX8_chase_117 : decode cX8_chase 117 = .ok (.lconst 1, 1) := by decide +kernel
theorem dX8_chase_118 : decode cX8_chase 118 = .ok (.lsub, 1) := by decide +kernel
theorem dX8_chase_119 : decode cX8_chase 119 = .ok (.land, 1) := by decide +kernel
theorem dX8_chase_120 : decode cX8_chase 120 = .ok (.lstore 6, 2) := by decide +kernel
theorem dX8_chase_122 : decode cX8_chase 122 = .ok (.aload_n 0, 1) := by decide +kernel
theorem dX8_chase_123 : decode cX8_chase 123 = .ok (.iconst 0, 1) := by decide +kernel
theorem dX8_chase_124 : decode cX8_chase 124 = .ok (.putfield 136, 3) := by decide +kernel
theorem dX8_chase_127 : decode cX8_chase 127 = .ok (.aload_n 0, 1) := by decide +kernel
theorem dX8_chase_128 : decode cX8_chase 128 = .ok (.iload 4, 2) := by decide +kernel
theorem dX8_chase_130 : decode cX8_chase 130 = .ok (.iload_n 1, 1) := by decide +kernel
theorem dX8_chase_131 : decode cX8_chase 131 = .ok (.aload_n 0, 1) := by decide +kernel
theorem dX8_chase_132 : decode cX8_chase 132 = .ok (.getfield 13, 3) := by decide +kernel
theorem dX8_chase_135 : decode cX8_chase 135 = .ok (.iload 5, 2) := by decide +kernel
theorem dX8_chase_137 : decode cX8_chase 137 = .ok (.invokestatic 105, 3) := by decide +kernel
theorem dX8_chase_140 : decode cX8_chase 140 = .ok (.aload_n 0, 1) := by decide +kernel
theorem dX8_chase_141 : decode cX8_chase 141 = .ok (.getfield 13, 3) := by decide +kernel
theorem dX8_chase_144 : decode cX8_chase 144 = .ok (.iconst 1, 1) := by decide +kernel
theorem dX8_chase_145 : decode cX8_chase 145 = .ok (.iload 5, 2) := by decide +kernel
theorem dX8_chase_147 : decode cX8_chase 147 = .ok (.isub, 1) := by decide +kernel
theorem dX8_chase_148 : decode cX8_chase 148 = .ok (.invokestatic 105, 3) := by decide +kernel
theorem dX8_chase_151 : decode cX8_chase 151 = .ok (.bipush 12, 2) := by decide +kernel
theorem dX8_chase_153 : decode cX8_chase 153 = .ok (.iload 10, 2) := by decide +kernel
theorem dX8_chase_155 : decode cX8_chase 155 = .ok (.iload 8, 2) := by decide +kernel
theorem dX8_chase_157 : decode cX8_chase 157 = .ok (.iconst 1, 1) := by decide +kernel
theorem dX8_chase_158 : decode cX8_chase 158 = .ok (.if_icmp .ne 7, 3) := by decide +kernel
theorem dX8_chase_161 : decode cX8_chase 161 = .ok (.iconst 1, 1) := by decide +kernel
theorem dX8_chase_162 : decode cX8_chase 162 = .ok (.goto 4, 3) := by decide +kernel
theorem dX8_chase_165 : decode cX8_chase 165 = .ok (.iconst 0, 1) := by decide +kernel
theorem dX8_chase_166 : decode cX8_chase 166 = .ok (.invokevirtual 150, 3) := by decide +kernel
theorem dX8_chase_169 : decode cX8_chase 169 = .ok (.istore 11, 2) := by decide +kernel
theorem dX8_chase_171 : decode cX8_chase 171 = .ok (.iload 11, 2) := by decide +kernel
theorem dX8_chase_173 : decode cX8_chase 173 = .ok (.iconst 1, 1) := by decide +kernel
theorem dX8_chase_174 : decode cX8_chase 174 = .ok (.if_icmp .eq 19, 3) := by decide +kernel
theorem dX8_chase_177 : decode cX8_chase 177 = .ok (.iload 11, 2) := by decide +kernel
theorem dX8_chase_179 : decode cX8_chase 179 = .ok (.iconst (-1), 1) := by decide +kernel
theorem dX8_chase_180 : decode cX8_chase 180 = .ok (.if_icmp .ne 16, 3) := by decide +kernel
theorem dX8_chase_183 : decode cX8_chase 183 = .ok (.aload_n 0, 1) := by decide +kernel
theorem dX8_chase_184 : decode cX8_chase 184 = .ok (.iload 4, 2) := by decide +kernel
theorem dX8_chase_186 : decode cX8_chase 186 = .ok (.iload_n 1, 1) := by decide +kernel
theorem dX8_chase_187 : decode cX8_chase 187 = .ok (.invokevirtual 154, 3) := by decide +kernel
theorem dX8_chase_190 : decode cX8_chase 190 = .ok (.ifCond .eq 6, 3) := by decide +kernel
theorem dX8_chase_193 : decode cX8_chase 193 = .ok (.iload 10, 2) := by decide +kernel
theorem dX8_chase_195 : decode cX8_chase 195 = .ok (.ireturn, 1) := by decide +kernel
theorem dX8_chase_196 : decode cX8_chase 196 = .ok (.iinc 9 1, 3) := by decide +kernel
theorem dX8_chase_199 : decode cX8_chase 199 = .ok (.goto (-106), 3) := by decide +kernel
theorem dX8_chase_202 : decode cX8_chase 202 = .ok (.iconst (-1), 1) := by decide +kernel
theorem dX8_chase_203 : decode cX8_chase 203 = .ok (.ireturn, 1) := by decide +kernel
set_option maxRecDepth 20000 in
theorem ggX8_lead_X8_area : GoodIn wsX8_lead wsX8_area := goodIn_r _ [6, 7, 8, 9, 5, 10, 11, 12, 13, 14, 15, 16, 17, 18, 19, 20, 21, 22, 23, 24, 25, 26, 27, 28, 29, 30, 31, 32, 33, 34, 35, 36, 37, 38, 39, 40] (by decide +kernel) (by decide +kernel)
set_option maxRecDepth 20000 in
theorem gX8_lead_X8_area : GoodIn wsX8_lead (va_wsS RX8 220 yX8_area wsX8_area) := goodIn_app (goodIn_of _ (by decide +kernel)) ggX8_lead_X8_area
theorem dX8_lead_0 : decode cX8_lead 0 = .ok (.aload_n 0, 1) := by decide +kernel
theorem dX8_lead_1 : decode cX8_lead 1 = .ok (.iconst 0, 1) := by decide +kernel
theorem dX8_lead_2 : decode cX8_lead 2 = .ok (.putfield 43, 3) := by decide +kernel
theorem dX8_lead_5 : decode cX8_lead 5 = .ok (.aload_n 0, 1) := by decide +kernel
theorem dX8_lead_6 : decode cX8_lead 6 = .ok (.getfield 13, 3) := by decide +kernel
theorem dX8_lead_9 : decode cX8_lead 9 = .ok (.iconst 0, 1) := by decide +kernel
theorem dX8_lead_10 : decode cX8_lead 10 = .ok (.invokestatic 220, 3) := by decide +kernel
theorem dX8_lead_13 : decode cX8_lead 13 = .ok (.aload_n 0, 1) := by decide +kernel
theorem dX8_lead_14 : decode cX8_lead 14 = .ok (.getfield 13, 3) := by decide +kernel
theorem dX8_lead_17 : decode cX8_lead 17 = .ok (.iconst 1, 1) := by decide +kernel
theorem dX8_lead_18 : decode cX8_lead 18 = .ok (.invokestatic 220, 3) := by decide +kernel
theorem dX8_lead_21 : decode cX8_lead 21 = .ok (.isub, 1) := by decide +kernel
theorem dX8_lead_22 : decode cX8_lead 22 = .ok (.ireturn, 1) := by decide +kernel
set_option maxRecDepth 20000 in
theorem ggX8_plays_X8_isPoint : GoodIn wsX8_plays wsX8_isPoint := goodIn_r _ [5, 6, 7, 4, 8, 9, 10, 11] (by decide +kernel) (by decide +kernel)
set_option maxRecDepth 20000 in
theorem gX8_plays_X8_isPoint : GoodIn wsX8_plays (va_wsS RX8 182 yX8_isPoint wsX8_isPoint) := goodIn_app (goodIn_of _ (by decide +kernel)) ggX8_plays_X8_isPoint
set_option maxRecDepth 20000 in
theorem ggX8_plays_X8_whyNot : GoodIn wsX8_plays wsX8_whyNot := goodIn_r _ [15, 16, 17, 18, 19, 4, 20, 21, 22, 23, 24, 25, 26, 27, 28, 29, 30, 31, 32, 33, 34, 35, 36, 37, 38, 39, 40, 41, 42, 43, 44, 45, 46, 47, 48, 49, 50, 51, 52, 53, 54, 55, 56, 57, 58, 59, 60, 68, 69, 70, 71, 72, 73, 74, 75, 76, 77, 78, 79, 80, 81, 82, 83, 84, 85, 86] (by decide +kernel) (by decide +kernel)
set_option maxRecDepth 20000 in
theorem gX8_plays_X8_whyNot : GoodIn wsX8_plays (wsV RX8 186 RX8 yX8_whyNot wsX8_whyNot) := goodIn_app (goodIn_of _ (by decide +kernel)) ggX8_plays_X8_whyNot
set_option maxRecDepth 20000 in
theorem ggX8_plays_X8_playOn : GoodIn wsX8_plays wsX8_playOn := goodIn_r _ [64, 34, 16, 17, 18, 19, 4, 20, 65, 66, 67, 24, 25, 26, 68, 69, 70, 71, 72, 73, 74, 75, 76, 77, 78, 79, 80, 81, 82, 83, 84, 85, 86] (by decide +kernel) (by decide +kernel)
set_option maxRecDepth 20000 in
theorem gX8_plays_X8_playOn : GoodIn wsX8_plays (wsV RX8 190 RX8 yX8_playOn wsX8_playOn) := goodIn_app (goodIn_of _ (by decide +kernel)) ggX8_plays_X8_playOn
theorem dX8_plays_0 : decode cX8_plays 0 = .ok (.aload_n 0, 1) := by decide +kernel
theorem dX8_plays_1 : decode cX8_plays 1 = .ok (.getfield 17, 3) := by decide +kernel
theorem dX8_plays_4 : decode cX8_plays 4 = .ok (.iload_n 1, 1) := by decide +kernel
theorem dX8_plays_5 : decode cX8_plays 5 = .ok (.invokestatic 182, 3) := by decide +kernel
theorem dX8_plays_8 : decode cX8_plays 8 = .ok (.ifCond .eq 19, 3) := by decide +kernel
theorem dX8_plays_11 : decode cX8_plays 11 = .ok (.aload_n 0, 1) := by decide +kernel
theorem dX8_plays_12 : decode cX8_plays 12 = .ok (.aload_n 0, 1) := by decide +kernel
theorem dX8_plays_13 : decode cX8_plays 13 = .ok (.getfield 17, 3) := by decide +kernel
theorem dX8_plays_16 : decode cX8_plays 16 = .ok (.iload_n 1, 1) := by decide +kernel
theorem dX8_plays_17 : decode cX8_plays 17 = .ok (.invokevirtual 186, 3) := by decide +kernel
theorem dX8_plays_20 : decode cX8_plays 20 = .ok (.ifCond .ne 7, 3) := by decide +kernel
theorem dX8_plays_23 : decode cX8_plays 23 = .ok (.iconst 1, 1) := by decide +kernel
theorem dX8_plays_24 : decode cX8_plays 24 = .ok (.goto 4, 3) := by decide +kernel
theorem dX8_plays_27 : decode cX8_plays 27 = .ok (.iconst 0, 1) := by decide +kernel
theorem dX8_plays_28 : decode cX8_plays 28 = .ok (.istore_n 2, 1) := by decide +kernel
theorem dX8_plays_29 : decode cX8_plays 29 = .ok (.iload_n 2, 1) := by decide +kernel
theorem dX8_plays_30 : decode cX8_plays 30 = .ok (.ifCond .eq 12, 3) := by decide +kernel
theorem dX8_plays_33 : decode cX8_plays 33 = .ok (.aload_n 0, 1) := by decide +kernel
theorem dX8_plays_34 : decode cX8_plays 34 = .ok (.aload_n 0, 1) := by decide +kernel
theorem dX8_plays_35 : decode cX8_plays 35 = .ok (.getfield 17, 3) := by decide +kernel
theorem dX8_plays_38 : decode cX8_plays 38 = .ok (.invokevirtual 190, 3) := by decide +kernel
theorem dX8_plays_41 : decode cX8_plays 41 = .ok (.pop, 1) := by decide +kernel
theorem dX8_plays_42 : decode cX8_plays 42 = .ok (.iload_n 2, 1) := by decide +kernel
theorem dX8_plays_43 : decode cX8_plays 43 = .ok (.ireturn, 1) := by decide +kernel
set_option maxRecDepth 20000 in
theorem ggX8_command_X8_isPoint : GoodIn wsX8_command wsX8_isPoint := goodIn_r _ [5, 6, 7, 4, 8, 9, 10, 11] (by decide +kernel) (by decide +kernel)
set_option maxRecDepth 20000 in
theorem gX8_command_X8_isPoint : GoodIn wsX8_command (va_wsS RX8 182 yX8_isPoint wsX8_isPoint) := goodIn_app (goodIn_of _ (by decide +kernel)) ggX8_command_X8_isPoint
set_option maxRecDepth 20000 in
theorem ggX8_command_X8_plays : GoodIn wsX8_command wsX8_plays := goodIn_r _ [15, 1, 2, 3, 4, 5, 6, 7, 8, 9, 10, 11, 16, 17, 18, 19, 20, 21, 22, 23, 24, 25, 26, 27, 28, 29, 30, 31, 32, 33, 34, 35, 36, 37, 38, 39, 40, 41, 42, 43, 44, 45, 46, 47, 48, 49, 50, 51, 52, 53, 54, 55, 56, 57, 58, 59, 60, 61, 62, 63, 64, 65, 66, 67, 68, 69, 70, 71, 123, 124, 125, 126, 127, 128, 129, 130, 131, 132, 133, 134, 135, 136, 137, 138, 139, 140, 141] (by decide +kernel) (by decide +kernel)
set_option maxRecDepth 20000 in
theorem gX8_command_X8_plays : GoodIn wsX8_command (wsV RX8 250 RX8 yX8_plays wsX8_plays) := goodIn_app (goodIn_of _ (by decide +kernel)) ggX8_command_X8_plays
set_option maxRecDepth 20000 in
theorem ggX8_command_X8_moves : GoodIn wsX8_command wsX8_moves := goodIn_r _ [30] (by decide +kernel) (by decide +kernel)
set_option maxRecDepth 20000 in
theorem gX8_command_X8_moves : GoodIn wsX8_command (va_wsS RX8 55 yX8_moves wsX8_moves) := goodIn_app (goodIn_of _ (by decide +kernel)) ggX8_command_X8_moves
set_option maxRecDepth 20000 in
theorem ggX8_command_X8_passOn : GoodIn wsX8_command wsX8_passOn := goodIn_r _ [74, 25, 26, 4, 27, 28, 29, 30, 69, 70, 71] (by decide +kernel) (by decide +kernel)
set_option maxRecDepth 20000 in
theorem gX8_command_X8_passOn : GoodIn wsX8_command (va_wsS RX8 175 yX8_passOn wsX8_passOn) := goodIn_app (goodIn_of _ (by decide +kernel)) ggX8_command_X8_passOn
set_option maxRecDepth 20000 in
theorem ggX8_command_X8_stonesOf : GoodIn wsX8_command wsX8_stonesOf := goodIn_r _ [27, 28, 29, 4, 30] (by decide +kernel) (by decide +kernel)
set_option maxRecDepth 20000 in
theorem gX8_command_X8_stonesOf : GoodIn wsX8_command (va_wsS RX8 105 yX8_stonesOf wsX8_stonesOf) := goodIn_app (goodIn_of _ (by decide +kernel)) ggX8_command_X8_stonesOf
set_option maxRecDepth 20000 in
theorem ggX8_command_X8_has : GoodIn wsX8_command wsX8_has := goodIn_r _ [33] (by decide +kernel) (by decide +kernel)
set_option maxRecDepth 20000 in
theorem gX8_command_X8_has : GoodIn wsX8_command (va_wsS RX8 58 yX8_has wsX8_has) := goodIn_app (goodIn_of _ (by decide +kernel)) ggX8_command_X8_has
set_option maxRecDepth 20000 in
theorem ggX8_command_X8_groupAt : GoodIn wsX8_command wsX8_groupAt := goodIn_r _ [77, 25, 26, 4, 27, 28, 29, 30, 31, 32, 33, 53, 54, 55, 41, 42, 43, 44, 45, 46, 39, 47, 48, 49, 50, 51, 52] (by decide +kernel) (by decide +kernel)
set_option maxRecDepth 20000 in
theorem gX8_command_X8_groupAt : GoodIn wsX8_command (va_wsS RX8 232 yX8_groupAt wsX8_groupAt) := goodIn_app (goodIn_of _ (by decide +kernel)) ggX8_command_X8_groupAt
set_option maxRecDepth 20000 in
theorem ggX8_command_X8_freeOf : GoodIn wsX8_command wsX8_freeOf := goodIn_r _ [80, 25, 26, 4, 27, 28, 29, 30, 56, 57, 58, 39, 41, 42, 43, 44, 45, 46, 47, 48, 49, 50, 51, 52] (by decide +kernel) (by decide +kernel)
set_option maxRecDepth 20000 in
theorem gX8_command_X8_freeOf : GoodIn wsX8_command (va_wsS RX8 226 yX8_freeOf wsX8_freeOf) := goodIn_app (goodIn_of _ (by decide +kernel)) ggX8_command_X8_freeOf
set_option maxRecDepth 20000 in
theorem ggX8_command_X8_bits : GoodIn wsX8_command wsX8_bits := goodIn_r _ [61, 31, 32, 4, 33] (by decide +kernel) (by decide +kernel)
set_option maxRecDepth 20000 in
theorem gX8_command_X8_bits : GoodIn wsX8_command (va_wsS RX8 95 yX8_bits wsX8_bits) := goodIn_app (goodIn_of _ (by decide +kernel)) ggX8_command_X8_bits
set_option maxRecDepth 20000 in
theorem ggX8_command_X8_whyNot : GoodIn wsX8_command wsX8_whyNot := goodIn_r _ [19, 20, 21, 22, 23, 4, 24, 25, 26, 27, 28, 29, 30, 31, 32, 33, 34, 35, 36, 37, 38, 39, 40, 41, 42, 43, 44, 45, 46, 47, 48, 49, 50, 51, 52, 53, 54, 55, 56, 57, 58, 59, 60, 61, 62, 63, 64, 123, 124, 125, 126, 127, 128, 129, 130, 131, 132, 133, 134, 135, 136, 137, 138, 139, 140, 141] (by decide +kernel) (by decide +kernel)
set_option maxRecDepth 20000 in
theorem gX8_command_X8_whyNot : GoodIn wsX8_command (wsV RX8 186 RX8 yX8_whyNot wsX8_whyNot) := goodIn_app (goodIn_of _ (by decide +kernel)) ggX8_command_X8_whyNot
set_option maxRecDepth 20000 in
theorem ggX8_command_X8_ladderOn : GoodIn wsX8_command wsX8_ladderOn := goodIn_r _ [84, 85, 25, 26, 4, 27, 28, 29, 30, 31, 32, 33, 86, 87, 88, 89, 90, 91, 92, 93, 94, 95, 96, 20, 21, 53, 54, 55, 41, 42, 43, 44, 45, 46, 39, 47, 48, 49, 50, 51, 52, 56, 57, 58, 59, 60, 61, 97, 98, 99, 34, 35, 36, 37, 38, 40, 100, 101, 102, 103, 104, 105, 106, 107, 123, 124, 125, 126, 127, 128, 129, 130, 131, 132, 133, 134, 135, 136, 137, 138, 139, 140, 141] (by decide +kernel) (by decide +kernel)
set_option maxRecDepth 20000 in
theorem gX8_command_X8_ladderOn : GoodIn wsX8_command (wsV RX8 247 RX8 yX8_ladderOn wsX8_ladderOn) := goodIn_app (goodIn_of _ (by decide +kernel)) ggX8_command_X8_ladderOn
set_option maxRecDepth 20000 in
theorem ggX8_command_X8_area : GoodIn wsX8_command wsX8_area := goodIn_r _ [110, 39, 25, 26, 4, 27, 28, 29, 30, 59, 60, 61, 31, 32, 33, 6, 7, 8, 111, 112, 113, 53, 54, 55, 41, 42, 43, 44, 45, 46, 47, 48, 49, 50, 51, 52] (by decide +kernel) (by decide +kernel)
set_option maxRecDepth 20000 in
theorem gX8_command_X8_area : GoodIn wsX8_command (va_wsS RX8 220 yX8_area wsX8_area) := goodIn_app (goodIn_of _ (by decide +kernel)) ggX8_command_X8_area
set_option maxRecDepth 20000 in
theorem ggX8_command_X8_eyeOfAny : GoodIn wsX8_command wsX8_eyeOfAny := goodIn_r _ [116, 117, 118, 4, 119, 39, 41, 42, 43, 44, 45, 46, 47, 48, 49, 50, 51, 52, 25, 26, 27, 28, 29, 30, 31, 32, 33, 120, 121, 122, 59, 60, 61] (by decide +kernel) (by decide +kernel)
set_option maxRecDepth 20000 in
theorem gX8_command_X8_eyeOfAny : GoodIn wsX8_command (va_wsS RX8 229 yX8_eyeOfAny wsX8_eyeOfAny) := goodIn_app (goodIn_of _ (by decide +kernel)) ggX8_command_X8_eyeOfAny
theorem dX8_command_0 : decode cX8_command 0 = .ok (.iload_n 2, 1) := by decide +kernel
theorem dX8_command_1 : decode cX8_command 1 = .ok (.bipush 10, 2) := by decide +kernel
theorem dX8_command_3 : decode cX8_command 3 = .ok (.idiv, 1) := by decide +kernel
theorem dX8_command_4 : decode cX8_command 4 = .ok (.istore_n 3, 1) := by decide +kernel
theorem dX8_command_5 : decode cX8_command 5 = .ok (.iload_n 2, 1) := by decide +kernel
theorem dX8_command_6 : decode cX8_command 6 = .ok (.bipush 10, 2) := by decide +kernel
theorem dX8_command_8 : decode cX8_command 8 = .ok (.irem, 1) := by decide +kernel
theorem dX8_command_9 : decode cX8_command 9 = .ok (.istore 4, 2) := by decide +kernel
theorem dX8_command_11 : decode cX8_command 11 = .ok (.iload_n 2, 1) := by decide +kernel
theorem dX8_command_12 : decode cX8_command 12 = .ok (.bipush 100, 2) := by decide +kernel
theorem dX8_command_14 : decode cX8_command 14 = .ok (.idiv, 1) := by decide +kernel
theorem dX8_command_15 : decode cX8_command 15 = .ok (.istore 5, 2) := by decide +kernel
theorem dX8_command_17 : decode cX8_command 17 = .ok (.iload_n 2, 1) := by decide +kernel
theorem dX8_command_18 : decode cX8_command 18 = .ok (.bipush 100, 2) := by decide +kernel
theorem dX8_command_20 : decode cX8_command 20 = .ok (.irem, 1) := by decide +kernel
theorem dX8_command_21 : decode cX8_command 21 = .ok (.istore 6, 2) := by decide +kernel
theorem dX8_command_23 : decode cX8_command 23 = .ok (.aload_n 0, 1) := by decide +kernel
theorem dX8_command_24 : decode cX8_command 24 = .ok (.getfield 17, 3) := by decide +kernel
theorem dX8_command_27 : decode cX8_command 27 = .ok (.iload_n 3, 1) := by decide +kernel
theorem dX8_command_28 : decode cX8_command 28 = .ok (.invokestatic 182, 3) := by decide +kernel
theorem dX8_command_31 : decode cX8_command 31 = .ok (.istore 7, 2) := by decide +kernel
theorem dX8_command_33 : decode cX8_command 33 = .ok (.iload_n 1, 1) := by decide +kernel
theorem dX8_command_34 : decode cX8_command 34 = .ok (.tableswitch 310 1 9 #[50, 69, 101, 134, 181, 206, 234, 260, 286], 50) := by decide +kernel
theorem dX8_command_84 : decode cX8_command 84 = .ok (.iload 4, 2) := by decide +kernel
theorem dX8_command_86 : decode cX8_command 86 = .ok (.ifCond .ne 15, 3) := by decide +kernel
theorem dX8_command_89 : decode cX8_command 89 = .ok (.aload_n 0, 1) := by decide +kernel
theorem dX8_command_90 : decode cX8_command 90 = .ok (.iload_n 3, 1) := by decide +kernel
theorem dX8_command_91 : decode cX8_command 91 = .ok (.invokevirtual 250, 3) := by decide +kernel
theorem dX8_command_94 : decode cX8_command 94 = .ok (.ifCond .eq 7, 3) := by decide +kernel
theorem dX8_command_97 : decode cX8_command 97 = .ok (.iconst 1, 1) := by decide +kernel
theorem dX8_command_98 : decode cX8_command 98 = .ok (.goto 4, 3) := by decide +kernel
theorem dX8_command_101 : decode cX8_command 101 = .ok (.iconst 0, 1) := by decide +kernel
theorem dX8_command_102 : decode cX8_command 102 = .ok (.ireturn, 1) := by decide +kernel
theorem dX8_command_103 : decode cX8_command 103 = .ok (.iload_n 2, 1) := by decide +kernel
theorem dX8_command_104 : decode cX8_command 104 = .ok (.ifCond .ne 29, 3) := by decide +kernel
theorem dX8_command_107 : decode cX8_command 107 = .ok (.aload_n 0, 1) := by decide +kernel
theorem dX8_command_108 : decode cX8_command 108 = .ok (.getfield 17, 3) := by decide +kernel
theorem dX8_command_111 : decode cX8_command 111 = .ok (.invokestatic 55, 3) := by decide +kernel
theorem dX8_command_114 : decode cX8_command 114 = .ok (.bipush 120, 2) := by decide +kernel
theorem dX8_command_116 : decode cX8_command 116 = .ok (.if_icmp .ge 17, 3) := by decide +kernel
theorem dX8_command_119 : decode cX8_command 119 = .ok (.aload_n 0, 1) := by decide +kernel
theorem dX8_command_120 : decode cX8_command 120 = .ok (.getfield 17, 3) := by decide +kernel
theorem dX8_command_123 : decode cX8_command 123 = .ok (.invokestatic 175, 3) := by decide +kernel
theorem dX8_command_126 : decode cX8_command 126 = .ok (.ifCond .le 7, 3) := by decide +kernel
theorem dX8_command_129 : decode cX8_command 129 = .ok (.iconst 1, 1) := by decide +kernel
theorem dX8_command_130 : decode cX8_command 130 = .ok (.goto 4, 3) := by decide +kernel
theorem dX8_command_133 : decode cX8_command 133 = .ok (.iconst 0, 1) := by decide +kernel
theorem dX8_command_134 : decode cX8_command 134 = .ok (.ireturn, 1) := by decide +kernel
theorem dX8_command_135 : decode cX8_command 135 = .ok (.iload 7, 2) := by decide +kernel
theorem dX8_command_137 : decode cX8_command 137 = .ok (.ifCond .eq 29, 3) := by decide +kernel
theorem dX8_command_140 : decode cX8_command 140 = .ok (.iload 4, 2) := by decide +kernel
theorem dX8_command_142 : decode cX8_command 142 = .ok (.iconst 2, 1) := by decide +kernel
theorem dX8_command_143 : decode cX8_command 143 = .ok (.if_icmp .ge 23, 3) := by decide +kernel
theorem dX8_command_146 : decode cX8_command 146 = .ok (.aload_n 0, 1) := by decide +kernel
theorem dX8_command_147 : decode cX8_command 147 = .ok (.getfield 17, 3) := by decide +kernel
theorem dX8_command_150 : decode cX8_command 150 = .ok (.iload 4, 2) := by decide +kernel
theorem dX8_command_152 : decode cX8_command 152 = .ok (.invokestatic 105, 3) := by decide +kernel
theorem dX8_command_155 : decode cX8_command 155 = .ok (.iload_n 3, 1) := by decide +kernel
theorem dX8_command_156 : decode cX8_command 156 = .ok (.invokestatic 58, 3) := by decide +kernel
theorem dX8_command_159 : decode cX8_command 159 = .ok (.ifCond .eq 7, 3) := by decide +kernel
theorem dX8_command_162 : decode cX8_command 162 = .ok (.iconst 1, 1) := by decide +kernel
theorem dX8_command_163 : decode cX8_command 163 = .ok (.goto 4, 3) := by decide +kernel
theorem dX8_command_166 : decode cX8_command 166 = .ok (.iconst 0, 1) := by decide +kernel
theorem dX8_command_167 : decode cX8_command 167 = .ok (.ireturn, 1) := by decide +kernel
theorem dX8_command_168 : decode cX8_command 168 = .ok (.iload 7, 2) := by decide +kernel
theorem dX8_command_170 : decode cX8_command 170 = .ok (.ifCond .eq 43, 3) := by decide +kernel
theorem dX8_command_173 : decode cX8_command 173 = .ok (.aload_n 0, 1) := by decide +kernel
theorem dX8_command_174 : decode cX8_command 174 = .ok (.getfield 17, 3) := by decide +kernel
theorem dX8_command_177 : decode cX8_command 177 = .ok (.iload_n 3, 1) := by decide +kernel
theorem dX8_command_178 : decode cX8_command 178 = .ok (.invokestatic 232, 3) := by decide +kernel
theorem dX8_command_181 : decode cX8_command 181 = .ok (.lconst 0, 1) := by decide +kernel
theorem dX8_command_182 : decode cX8_command 182 = .ok (.lcmp, 1) := by decide +kernel
theorem dX8_command_183 : decode cX8_command 183 = .ok (.ifCond .eq 30, 3) := by decide +kernel
theorem dX8_command_186 : decode cX8_command 186 = .ok (.aload_n 0, 1) := by decide +kernel
theorem dX8_command_187 : decode cX8_command 187 = .ok (.getfield 17, 3) := by decide +kernel
theorem dX8_command_190 : decode cX8_command 190 = .ok (.aload_n 0, 1) := by decide +kernel
theorem dX8_command_191 : decode cX8_command 191 = .ok (.getfield 17, 3) := by decide +kernel
theorem dX8_command_194 : decode cX8_command 194 = .ok (.iload_n 3, 1) := by decide +kernel
theorem dX8_command_195 : decode cX8_command 195 = .ok (.invokestatic 232, 3) := by decide +kernel
theorem dX8_command_198 : decode cX8_command 198 = .ok (.invokestatic 226, 3) := by decide +kernel
theorem dX8_command_201 : decode cX8_command 201 = .ok (.invokestatic 95, 3) := by decide +kernel
theorem dX8_command_204 : decode cX8_command 204 = .ok (.iload 4, 2) := by decide +kernel
theorem dX8_command_206 : decode cX8_command 206 = .ok (.if_icmp .lt 7, 3) := by decide +kernel
theorem dX8_command_209 : decode cX8_command 209 = .ok (.iconst 1, 1) := by decide +kernel
theorem dX8_command_210 : decode cX8_command 210 = .ok (.goto 4, 3) := by decide +kernel
theorem dX8_command_213 : decode cX8_command 213 = .ok (.iconst 0, 1) := by decide +kernel
theorem dX8_command_214 : decode cX8_command 214 = .ok (.ireturn, 1) := by decide +kernel
theorem dX8_command_215 : decode cX8_command 215 = .ok (.iload 7, 2) := by decide +kernel
theorem dX8_command_217 : decode cX8_command 217 = .ok (.ifCond .eq 21, 3) := by decide +kernel
theorem dX8_command_220 : decode cX8_command 220 = .ok (.aload_n 0, 1) := by decide +kernel
theorem dX8_command_221 : decode cX8_command 221 = .ok (.aload_n 0, 1) := by decide +kernel
theorem dX8_command_222 : decode cX8_command 222 = .ok (.getfield 17, 3) := by decide +kernel
theorem dX8_command_225 : decode cX8_command 225 = .ok (.iload_n 3, 1) := by decide +kernel
theorem dX8_command_226 : decode cX8_command 226 = .ok (.invokevirtual 186, 3) := by decide +kernel
theorem dX8_command_229 : decode cX8_command 229 = .ok (.iload 4, 2) := by decide +kernel
theorem dX8_command_231 : decode cX8_command 231 = .ok (.if_icmp .ne 7, 3) := by decide +kernel
theorem dX8_command_234 : decode cX8_command 234 = .ok (.iconst 1, 1) := by decide +kernel
theorem dX8_command_235 : decode cX8_command 235 = .ok (.goto 4, 3) := by decide +kernel
theorem dX8_command_238 : decode cX8_command 238 = .ok (.iconst 0, 1) := by decide +kernel
theorem dX8_command_239 : decode cX8_command 239 = .ok (.ireturn, 1) := by decide +kernel
theorem dX8_command_240 : decode cX8_command 240 = .ok (.iload 5, 2) := by decide +kernel
theorem dX8_command_242 : decode cX8_command 242 = .ok (.iconst 2, 1) := by decide +kernel
theorem dX8_command_243 : decode cX8_command 243 = .ok (.if_icmp .ge 23, 3) := by decide +kernel
theorem dX8_command_246 : decode cX8_command 246 = .ok (.aload_n 0, 1) := by decide +kernel
theorem dX8_command_247 : decode cX8_command 247 = .ok (.getfield 17, 3) := by decide +kernel
theorem dX8_command_250 : decode cX8_command 250 = .ok (.iconst 5, 1) := by decide +kernel
theorem dX8_command_251 : decode cX8_command 251 = .ok (.iload 5, 2) := by decide +kernel
theorem dX8_command_253 : decode cX8_command 253 = .ok (.iadd, 1) := by decide +kernel
theorem dX8_command_254 : decode cX8_command 254 = .ok (.laload, 1) := by decide +kernel
theorem dX8_command_255 : decode cX8_command 255 = .ok (.iload 6, 2) := by decide +kernel
theorem dX8_command_257 : decode cX8_command 257 = .ok (.i2l, 1) := by decide +kernel
theorem dX8_command_258 : decode cX8_command 258 = .ok (.lcmp, 1) := by decide +kernel
theorem dX8_command_259 : decode cX8_command 259 = .ok (.ifCond .lt 7, 3) := by decide +kernel
theorem dX8_command_262 : decode cX8_command 262 = .ok (.iconst 1, 1) := by decide +kernel
theorem dX8_command_263 : decode cX8_command 263 = .ok (.goto 4, 3) := by decide +kernel
theorem dX8_command_266 : decode cX8_command 266 = .ok (.iconst 0, 1) := by decide +kernel
theorem dX8_command_267 : decode cX8_command 267 = .ok (.ireturn, 1) := by decide +kernel
theorem dX8_command_268 : decode cX8_command 268 = .ok (.iload 7, 2) := by decide +kernel
theorem dX8_command_270 : decode cX8_command 270 = .ok (.ifCond .eq 22, 3) := by decide +kernel
theorem dX8_command_273 : decode cX8_command 273 = .ok (.aload_n 0, 1) := by decide +kernel
theorem dX8_command_274 : decode cX8_command 274 = .ok (.aload_n 0, 1) := by decide +kernel
theorem dX8_command_275 : decode cX8_command 275 = .ok (.getfield 17, 3) := by decide +kernel
theorem dX8_command_278 : decode cX8_command 278 = .ok (.iload_n 3, 1) := by decide +kernel
theorem dX8_command_279 : decode cX8_command 279 = .ok (.iconst 0, 1) := by decide +kernel
theorem dX8_command_280 : decode cX8_command 280 = .ok (.invokevirtual 247, 3) := by decide +kernel
theorem dX8_command_283 : decode cX8_command 283 = .ok (.iload 4, 2) := by decide +kernel
theorem dX8_command_285 : decode cX8_command 285 = .ok (.if_icmp .ne 7, 3) := by decide +kernel
theorem dX8_command_288 : decode cX8_command 288 = .ok (.iconst 1, 1) := by decide +kernel
theorem dX8_command_289 : decode cX8_command 289 = .ok (.goto 4, 3) := by decide +kernel
theorem dX8_command_292 : decode cX8_command 292 = .ok (.iconst 0, 1) := by decide +kernel
theorem dX8_command_293 : decode cX8_command 293 = .ok (.ireturn, 1) := by decide +kernel
theorem dX8_command_294 : decode cX8_command 294 = .ok (.iload 5, 2) := by decide +kernel
theorem dX8_command_296 : decode cX8_command 296 = .ok (.iconst 2, 1) := by decide +kernel
theorem dX8_command_297 : decode cX8_command 297 = .ok (.if_icmp .ge 21, 3) := by decide +kernel
theorem dX8_command_300 : decode cX8_command 300 = .ok (.aload_n 0, 1) := by decide +kernel
theorem dX8_command_301 : decode cX8_command 301 = .ok (.getfield 17, 3) := by decide +kernel
theorem dX8_command_304 : decode cX8_command 304 = .ok (.iload 5, 2) := by decide +kernel
theorem dX8_command_306 : decode cX8_command 306 = .ok (.invokestatic 220, 3) := by decide +kernel
theorem dX8_command_309 : decode cX8_command 309 = .ok (.iload 6, 2) := by decide +kernel
theorem dX8_command_311 : decode cX8_command 311 = .ok (.if_icmp .lt 7, 3) := by decide +kernel
theorem dX8_command_314 : decode cX8_command 314 = .ok (.iconst 1, 1) := by decide +kernel
theorem dX8_command_315 : decode cX8_command 315 = .ok (.goto 4, 3) := by decide +kernel
theorem dX8_command_318 : decode cX8_command 318 = .ok (.iconst 0, 1) := by decide +kernel
theorem dX8_command_319 : decode cX8_command 319 = .ok (.ireturn, 1) := by decide +kernel
theorem dX8_command_320 : decode cX8_command 320 = .ok (.iload 7, 2) := by decide +kernel
theorem dX8_command_322 : decode cX8_command 322 = .ok (.ifCond .eq 20, 3) := by decide +kernel
theorem dX8_command_325 : decode cX8_command 325 = .ok (.aload_n 0, 1) := by decide +kernel
theorem dX8_command_326 : decode cX8_command 326 = .ok (.getfield 17, 3) := by decide +kernel
theorem dX8_command_329 : decode cX8_command 329 = .ok (.iload_n 3, 1) := by decide +kernel
theorem dX8_command_330 : decode cX8_command 330 = .ok (.invokestatic 229, 3) := by decide +kernel
theorem dX8_command_333 : decode cX8_command 333 = .ok (.iload 4, 2) := by decide +kernel
theorem dX8_command_335 : decode cX8_command 335 = .ok (.if_icmp .ne 7, 3) := by decide +kernel
theorem dX8_command_338 : decode cX8_command 338 = .ok (.iconst 1, 1) := by decide +kernel
theorem dX8_command_339 : decode cX8_command 339 = .ok (.goto 4, 3) := by decide +kernel
theorem dX8_command_342 : decode cX8_command 342 = .ok (.iconst 0, 1) := by decide +kernel
theorem dX8_command_343 : decode cX8_command 343 = .ok (.ireturn, 1) := by decide +kernel
theorem dX8_command_344 : decode cX8_command 344 = .ok (.iconst 0, 1) := by decide +kernel
theorem dX8_command_345 : decode cX8_command 345 = .ok (.ireturn, 1) := by decide +kernel
set_option maxRecDepth 20000 in
theorem ggX8_runScript_X8_in : GoodIn wsX8_runScript wsX8_in := goodIn_r _ [8] (by decide +kernel) (by decide +kernel)
set_option maxRecDepth 20000 in
theorem gX8_runScript_X8_in : GoodIn wsX8_runScript (va_wsS RX8 51 yX8_in wsX8_in) := goodIn_app (goodIn_of _ (by decide +kernel)) ggX8_runScript_X8_in
set_option maxRecDepth 20000 in
theorem ggX8_runScript_X8_refused : GoodIn wsX8_runScript wsX8_refused := goodIn_r _ [12, 13, 138, 139, 140, 141, 142, 143, 144, 145, 146, 147, 148, 149, 150, 151, 152, 153, 154, 155, 156] (by decide +kernel) (by decide +kernel)
set_option maxRecDepth 20000 in
theorem gX8_runScript_X8_refused : GoodIn wsX8_runScript (wsV RX8 163 RX8 yX8_refused wsX8_refused) := goodIn_app (goodIn_of _ (by decide +kernel)) ggX8_runScript_X8_refused
set_option maxRecDepth 20000 in
theorem ggX8_runScript_X8_copyState : GoodIn wsX8_runScript wsX8_copyState := goodIn_r _ [16] (by decide +kernel) (by decide +kernel)
set_option maxRecDepth 20000 in
theorem gX8_runScript_X8_copyState : GoodIn wsX8_runScript (va_wsS RX8 200 yX8_copyState wsX8_copyState) := goodIn_app (goodIn_of _ (by decide +kernel)) ggX8_runScript_X8_copyState
set_option maxRecDepth 20000 in
theorem ggX8_runScript_X8_command : GoodIn wsX8_runScript wsX8_command := goodIn_r _ [20, 4, 21, 22, 7, 23, 24, 25, 26, 5, 6, 8, 27, 28, 29, 30, 31, 32, 33, 34, 35, 36, 37, 38, 39, 40, 41, 42, 43, 44, 45, 46, 47, 48, 49, 50, 51, 52, 53, 54, 55, 56, 57, 58, 59, 60, 61, 62, 63, 64, 65, 66, 67, 68, 69, 70, 71, 72, 73, 74, 75, 76, 77, 78, 79, 80, 81, 82, 83, 84, 85, 86, 87, 88, 89, 90, 91, 92, 93, 94, 95, 96, 97, 98, 99, 100, 101, 102, 103, 104, 105, 106, 107, 108, 109, 110, 111, 112, 113, 114, 115, 116, 117, 118, 119, 120, 121, 122, 123, 124, 125, 126, 127, 128, 129, 130, 131, 132, 133, 134, 135, 136, 137, 138, 139, 140, 141, 142, 143, 144, 145, 146, 147, 148, 149, 150, 151, 152, 153, 154, 155, 156] (by decide +kernel) (by decide +kernel)
set_option maxRecDepth 20000 in
theorem gX8_runScript_X8_command : GoodIn wsX8_runScript (wsV RX8 257 RX8 yX8_command wsX8_command) := goodIn_app (goodIn_of _ (by decide +kernel)) ggX8_runScript_X8_command
theorem dX8_runScript_0 : decode cX8_runScript 0 = .ok (.lconst 1, 1) := by decide +kernel
theorem dX8_runScript_1 : decode cX8_runScript 1 = .ok (.lstore 4, 2) := by decide +kernel
theorem dX8_runScript_3 : decode cX8_runScript 3 = .ok (.iconst 0, 1) := by decide +kernel
theorem dX8_runScript_4 : decode cX8_runScript 4 = .ok (.istore 6, 2) := by decide +kernel
theorem dX8_runScript_6 : decode cX8_runScript 6 = .ok (.iload 6, 2) := by decide +kernel
theorem dX8_runScript_8 : decode cX8_runScript 8 = .ok (.iload_n 1, 1) := by decide +kernel
theorem dX8_runScript_9 : decode cX8_runScript 9 = .ok (.if_icmp .ge 23, 3) := by decide +kernel
theorem dX8_runScript_12 : decode cX8_runScript 12 = .ok (.iload 6, 2) := by decide +kernel
theorem dX8_runScript_14 : decode cX8_runScript 14 = .ok (.iconst 4, 1) := by decide +kernel
theorem dX8_runScript_15 : decode cX8_runScript 15 = .ok (.if_icmp .ge 17, 3) := by decide +kernel
theorem dX8_runScript_18 : decode cX8_runScript 18 = .ok (.lload 4, 2) := by decide +kernel
theorem dX8_runScript_20 : decode cX8_runScript 20 = .ok (.ldc2_w 253, 3) := by decide +kernel
theorem dX8_runScript_23 : decode cX8_runScript 23 = .ok (.lmul, 1) := by decide +kernel
theorem dX8_runScript_24 : decode cX8_runScript 24 = .ok (.lstore 4, 2) := by decide +kernel
theorem dX8_runScript_26 : decode cX8_runScript 26 = .ok (.iinc 6 1, 3) := by decide +kernel
theorem dX8_runScript_29 : decode cX8_runScript 29 = .ok (.goto (-23), 3) := by decide +kernel
theorem dX8_runScript_32 : decode cX8_runScript 32 = .ok (.aload_n 0, 1) := by decide +kernel
theorem dX8_runScript_33 : decode cX8_runScript 33 = .ok (.iload_n 1, 1) := by decide +kernel
theorem dX8_runScript_34 : decode cX8_runScript 34 = .ok (.i2l, 1) := by decide +kernel
theorem dX8_runScript_35 : decode cX8_runScript 35 = .ok (.lconst 1, 1) := by decide +kernel
theorem dX8_runScript_36 : decode cX8_runScript 36 = .ok (.ldc2_w 255, 3) := by decide +kernel
theorem dX8_runScript_39 : decode cX8_runScript 39 = .ok (.invokestatic 51, 3) := by decide +kernel
theorem dX8_runScript_42 : decode cX8_runScript 42 = .ok (.ifCond .eq 19, 3) := by decide +kernel
theorem dX8_runScript_45 : decode cX8_runScript 45 = .ok (.lload_n 2, 1) := by decide +kernel
theorem dX8_runScript_46 : decode cX8_runScript 46 = .ok (.lconst 0, 1) := by decide +kernel
theorem dX8_runScript_47 : decode cX8_runScript 47 = .ok (.lload 4, 2) := by decide +kernel
theorem dX8_runScript_49 : decode cX8_runScript 49 = .ok (.lconst 1, 1) := by decide +kernel
theorem dX8_runScript_50 : decode cX8_runScript 50 = .ok (.lsub, 1) := by decide +kernel
theorem dX8_runScript_51 : decode cX8_runScript 51 = .ok (.invokestatic 51, 3) := by decide +kernel
theorem dX8_runScript_54 : decode cX8_runScript 54 = .ok (.ifCond .eq 7, 3) := by decide +kernel
theorem dX8_runScript_57 : decode cX8_runScript 57 = .ok (.iconst 0, 1) := by decide +kernel
theorem dX8_runScript_58 : decode cX8_runScript 58 = .ok (.goto 4, 3) := by decide +kernel
theorem dX8_runScript_61 : decode cX8_runScript 61 = .ok (.iconst 1, 1) := by decide +kernel
theorem dX8_runScript_62 : decode cX8_runScript 62 = .ok (.invokevirtual 163, 3) := by decide +kernel
theorem dX8_runScript_65 : decode cX8_runScript 65 = .ok (.ifCond .eq 5, 3) := by decide +kernel
theorem dX8_runScript_68 : decode cX8_runScript 68 = .ok (.iconst 0, 1) := by decide +kernel
theorem dX8_runScript_69 : decode cX8_runScript 69 = .ok (.ireturn, 1) := by decide +kernel
theorem dX8_runScript_70 : decode cX8_runScript 70 = .ok (.aload_n 0, 1) := by decide +kernel
theorem dX8_runScript_71 : decode cX8_runScript 71 = .ok (.getfield 13, 3) := by decide +kernel
theorem dX8_runScript_74 : decode cX8_runScript 74 = .ok (.iconst 0, 1) := by decide +kernel
theorem dX8_runScript_75 : decode cX8_runScript 75 = .ok (.aload_n 0, 1) := by decide +kernel
theorem dX8_runScript_76 : decode cX8_runScript 76 = .ok (.getfield 17, 3) := by decide +kernel
theorem dX8_runScript_79 : decode cX8_runScript 79 = .ok (.iconst 0, 1) := by decide +kernel
theorem dX8_runScript_80 : decode cX8_runScript 80 = .ok (.invokestatic 200, 3) := by decide +kernel
theorem dX8_runScript_83 : decode cX8_runScript 83 = .ok (.iconst 0, 1) := by decide +kernel
theorem dX8_runScript_84 : decode cX8_runScript 84 = .ok (.istore 6, 2) := by decide +kernel
theorem dX8_runScript_86 : decode cX8_runScript 86 = .ok (.iload 6, 2) := by decide +kernel
theorem dX8_runScript_88 : decode cX8_runScript 88 = .ok (.iload_n 1, 1) := by decide +kernel
theorem dX8_runScript_89 : decode cX8_runScript 89 = .ok (.if_icmp .ge 50, 3) := by decide +kernel
theorem dX8_runScript_92 : decode cX8_runScript 92 = .ok (.lload 4, 2) := by decide +kernel
theorem dX8_runScript_94 : decode cX8_runScript 94 = .ok (.ldc2_w 253, 3) := by decide +kernel
theorem dX8_runScript_97 : decode cX8_runScript 97 = .ok (.ldiv, 1) := by decide +kernel
theorem dX8_runScript_98 : decode cX8_runScript 98 = .ok (.lstore 4, 2) := by decide +kernel
theorem dX8_runScript_100 : decode cX8_runScript 100 = .ok (.lload_n 2, 1) := by decide +kernel
theorem dX8_runScript_101 : decode cX8_runScript 101 = .ok (.lload 4, 2) := by decide +kernel
theorem dX8_runScript_103 : decode cX8_runScript 103 = .ok (.ldiv, 1) := by decide +kernel
theorem dX8_runScript_104 : decode cX8_runScript 104 = .ok (.ldc2_w 253, 3) := by decide +kernel
theorem dX8_runScript_107 : decode cX8_runScript 107 = .ok (.lrem, 1) := by decide +kernel
theorem dX8_runScript_108 : decode cX8_runScript 108 = .ok (.l2i, 1) := by decide +kernel
theorem dX8_runScript_109 : decode cX8_runScript 109 = .ok (.istore 7, 2) := by decide +kernel
theorem dX8_runScript_111 : decode cX8_runScript 111 = .ok (.aload_n 0, 1) := by decide +kernel
theorem dX8_runScript_112 : decode cX8_runScript 112 = .ok (.iload 7, 2) := by decide +kernel
theorem dX8_runScript_114 : decode cX8_runScript 114 = .ok (.sipush 1000, 3) := by decide +kernel
theorem dX8_runScript_117 : decode cX8_runScript 117 = .ok (.idiv, 1) := by decide +kernel
theorem dX8_runScript_118 : decode cX8_runScript 118 = .ok (.iload 7, 2) := by decide +kernel
theorem dX8_runScript_120 : decode cX8_runScript 120 = .ok (.sipush 1000, 3) := by decide +kernel
theorem dX8_runScript_123 : decode cX8_runScript 123 = .ok (.irem, 1) := by decide +kernel
theorem dX8_runScript_124 : decode cX8_runScript 124 = .ok (.invokevirtual 257, 3) := by decide +kernel
theorem dX8_runScript_127 : decode cX8_runScript 127 = .ok (.ifCond .ne 6, 3) := by decide +kernel
theorem dX8_runScript_130 : decode cX8_runScript 130 = .ok (.iload 6, 2) := by decide +kernel
theorem dX8_runScript_132 : decode cX8_runScript 132 = .ok (.ireturn, 1) := by decide +kernel
theorem dX8_runScript_133 : decode cX8_runScript 133 = .ok (.iinc 6 1, 3) := by decide +kernel
theorem dX8_runScript_136 : decode cX8_runScript 136 = .ok (.goto (-50), 3) := by decide +kernel
theorem dX8_runScript_139 : decode cX8_runScript 139 = .ok (.iconst (-1), 1) := by decide +kernel
theorem dX8_runScript_140 : decode cX8_runScript 140 = .ok (.ireturn, 1) := by decide +kernel
set_option maxRecDepth 20000 in
theorem ggX8_simulate_X8_in : GoodIn wsX8_simulate wsX8_in := goodIn_r _ [9] (by decide +kernel) (by decide +kernel)
set_option maxRecDepth 20000 in
theorem gX8_simulate_X8_in : GoodIn wsX8_simulate (va_wsS RX8 51 yX8_in wsX8_in) := goodIn_app (goodIn_of _ (by decide +kernel)) ggX8_simulate_X8_in
set_option maxRecDepth 20000 in
theorem ggX8_simulate_X8_refused : GoodIn wsX8_simulate wsX8_refused := goodIn_r _ [13, 14, 93, 94, 95, 96, 97, 98, 99, 100, 101, 102, 103, 104, 105, 106, 107, 108, 109, 110, 111] (by decide +kernel) (by decide +kernel)
set_option maxRecDepth 20000 in
theorem gX8_simulate_X8_refused : GoodIn wsX8_simulate (wsV RX8 163 RX8 yX8_refused wsX8_refused) := goodIn_app (goodIn_of _ (by decide +kernel)) ggX8_simulate_X8_refused
set_option maxRecDepth 20000 in
theorem ggX8_simulate_X8_copyState : GoodIn wsX8_simulate wsX8_copyState := goodIn_r _ [17] (by decide +kernel) (by decide +kernel)
set_option maxRecDepth 20000 in
theorem gX8_simulate_X8_copyState : GoodIn wsX8_simulate (va_wsS RX8 200 yX8_copyState wsX8_copyState) := goodIn_app (goodIn_of _ (by decide +kernel)) ggX8_simulate_X8_copyState
set_option maxRecDepth 20000 in
theorem ggX8_simulate_X8_points : GoodIn wsX8_simulate wsX8_points := goodIn_r _ [20] (by decide +kernel) (by decide +kernel)
set_option maxRecDepth 20000 in
theorem gX8_simulate_X8_points : GoodIn wsX8_simulate (va_wsS RX8 47 yX8_points wsX8_points) := goodIn_app (goodIn_of _ (by decide +kernel)) ggX8_simulate_X8_points
set_option maxRecDepth 20000 in
theorem ggX8_simulate_X8_plays : GoodIn wsX8_simulate wsX8_plays := goodIn_r _ [24, 3, 25, 26, 8, 27, 18, 19, 20, 6, 7, 9, 28, 29, 30, 31, 32, 33, 34, 35, 36, 37, 38, 39, 40, 41, 42, 43, 44, 45, 46, 47, 48, 49, 50, 51, 52, 53, 54, 55, 56, 57, 58, 59, 60, 61, 62, 63, 64, 65, 66, 67, 68, 69, 70, 71, 72, 73, 74, 75, 76, 77, 78, 79, 80, 81, 82, 83, 93, 94, 95, 96, 97, 98, 99, 100, 101, 102, 103, 104, 105, 106, 107, 108, 109, 110, 111] (by decide +kernel) (by decide +kernel)
set_option maxRecDepth 20000 in
theorem gX8_simulate_X8_plays : GoodIn wsX8_simulate (wsV RX8 250 RX8 yX8_plays wsX8_plays) := goodIn_app (goodIn_of _ (by decide +kernel)) ggX8_simulate_X8_plays
set_option maxRecDepth 20000 in
theorem ggX8_simulate_X8_moves : GoodIn wsX8_simulate wsX8_moves := goodIn_r _ [42] (by decide +kernel) (by decide +kernel)
set_option maxRecDepth 20000 in
theorem gX8_simulate_X8_moves : GoodIn wsX8_simulate (va_wsS RX8 55 yX8_moves wsX8_moves) := goodIn_app (goodIn_of _ (by decide +kernel)) ggX8_simulate_X8_moves
set_option maxRecDepth 20000 in
theorem ggX8_simulate_X8_passOn : GoodIn wsX8_simulate wsX8_passOn := goodIn_r _ [86, 37, 38, 8, 39, 40, 41, 42, 81, 82, 83] (by decide +kernel) (by decide +kernel)
set_option maxRecDepth 20000 in
theorem gX8_simulate_X8_passOn : GoodIn wsX8_simulate (va_wsS RX8 175 yX8_passOn wsX8_passOn) := goodIn_app (goodIn_of _ (by decide +kernel)) ggX8_simulate_X8_passOn
set_option maxRecDepth 20000 in
theorem ggX8_simulate_X8_groupsOf : GoodIn wsX8_simulate wsX8_groupsOf := goodIn_r _ [89, 37, 38, 8, 39, 40, 41, 42, 90, 91, 92, 51, 65, 66, 67, 53, 54, 55, 56, 57, 58, 59, 60, 61, 62, 63, 64, 68, 69, 70, 71, 72, 73, 43, 44, 45] (by decide +kernel) (by decide +kernel)
set_option maxRecDepth 20000 in
theorem gX8_simulate_X8_groupsOf : GoodIn wsX8_simulate (va_wsS RX8 211 yX8_groupsOf wsX8_groupsOf) := goodIn_app (goodIn_of _ (by decide +kernel)) ggX8_simulate_X8_groupsOf
set_option maxRecDepth 20000 in
theorem ggX8_simulate_X8_stonesOf : GoodIn wsX8_simulate wsX8_stonesOf := goodIn_r _ [39, 40, 41, 8, 42] (by decide +kernel) (by decide +kernel)
set_option maxRecDepth 20000 in
theorem gX8_simulate_X8_stonesOf : GoodIn wsX8_simulate (va_wsS RX8 105 yX8_stonesOf wsX8_stonesOf) := goodIn_app (goodIn_of _ (by decide +kernel)) ggX8_simulate_X8_stonesOf
set_option maxRecDepth 20000 in
theorem ggX8_simulate_X8_bits : GoodIn wsX8_simulate wsX8_bits := goodIn_r _ [73, 43, 44, 8, 45] (by decide +kernel) (by decide +kernel)
set_option maxRecDepth 20000 in
theorem gX8_simulate_X8_bits : GoodIn wsX8_simulate (va_wsS RX8 95 yX8_bits wsX8_bits) := goodIn_app (goodIn_of _ (by decide +kernel)) ggX8_simulate_X8_bits
theorem dX8_simulate_0 : decode cX8_simulate 0 = .ok (.aload_n 0, 1) := by decide +kernel
theorem dX8_simulate_1 : decode cX8_simulate 1 = .ok (.iload_n 3, 1) := by decide +kernel
theorem dX8_simulate_2 : decode cX8_simulate 2 = .ok (.i2l, 1) := by decide +kernel
theorem dX8_simulate_3 : decode cX8_simulate 3 = .ok (.lconst 1, 1) := by decide +kernel
theorem dX8_simulate_4 : decode cX8_simulate 4 = .ok (.ldc2_w 260, 3) := by decide +kernel
theorem dX8_simulate_7 : decode cX8_simulate 7 = .ok (.invokestatic 51, 3) := by decide +kernel
theorem dX8_simulate_10 : decode cX8_simulate 10 = .ok (.ifCond .eq 7, 3) := by decide +kernel
theorem dX8_simulate_13 : decode cX8_simulate 13 = .ok (.iconst 0, 1) := by decide +kernel
theorem dX8_simulate_14 : decode cX8_simulate 14 = .ok (.goto 4, 3) := by decide +kernel
theorem dX8_simulate_17 : decode cX8_simulate 17 = .ok (.iconst 1, 1) := by decide +kernel
theorem dX8_simulate_18 : decode cX8_simulate 18 = .ok (.invokevirtual 163, 3) := by decide +kernel
theorem dX8_simulate_21 : decode cX8_simulate 21 = .ok (.ifCond .eq 5, 3) := by decide +kernel
theorem dX8_simulate_24 : decode cX8_simulate 24 = .ok (.iconst 0, 1) := by decide +kernel
theorem dX8_simulate_25 : decode cX8_simulate 25 = .ok (.ireturn, 1) := by decide +kernel
theorem dX8_simulate_26 : decode cX8_simulate 26 = .ok (.aload_n 0, 1) := by decide +kernel
theorem dX8_simulate_27 : decode cX8_simulate 27 = .ok (.getfield 13, 3) := by decide +kernel
theorem dX8_simulate_30 : decode cX8_simulate 30 = .ok (.iconst 0, 1) := by decide +kernel
theorem dX8_simulate_31 : decode cX8_simulate 31 = .ok (.aload_n 0, 1) := by decide +kernel
theorem dX8_simulate_32 : decode cX8_simulate 32 = .ok (.getfield 17, 3) := by decide +kernel
theorem dX8_simulate_35 : decode cX8_simulate 35 = .ok (.iconst 0, 1) := by decide +kernel
theorem dX8_simulate_36 : decode cX8_simulate 36 = .ok (.invokestatic 200, 3) := by decide +kernel
theorem dX8_simulate_39 : decode cX8_simulate 39 = .ok (.lload_n 1, 1) := by decide +kernel
theorem dX8_simulate_40 : decode cX8_simulate 40 = .ok (.lstore 4, 2) := by decide +kernel
theorem dX8_simulate_42 : decode cX8_simulate 42 = .ok (.iconst 0, 1) := by decide +kernel
theorem dX8_simulate_43 : decode cX8_simulate 43 = .ok (.istore 6, 2) := by decide +kernel
theorem dX8_simulate_45 : decode cX8_simulate 45 = .ok (.iload 6, 2) := by decide +kernel
theorem dX8_simulate_47 : decode cX8_simulate 47 = .ok (.iload_n 3, 1) := by decide +kernel
theorem dX8_simulate_48 : decode cX8_simulate 48 = .ok (.if_icmp .ge 78, 3) := by decide +kernel
theorem dX8_simulate_51 : decode cX8_simulate 51 = .ok (.lload 4, 2) := by decide +kernel
theorem dX8_simulate_53 : decode cX8_simulate 53 = .ok (.ldc2_w 262, 3) := by decide +kernel
theorem dX8_simulate_56 : decode cX8_simulate 56 = .ok (.lmul, 1) := by decide +kernel
theorem dX8_simulate_57 : decode cX8_simulate 57 = .ok (.ldc2_w 264, 3) := by decide +kernel
theorem dX8_simulate_60 : decode cX8_simulate 60 = .ok (.ladd, 1) := by decide +kernel
theorem dX8_simulate_61 : decode cX8_simulate 61 = .ok (.lstore 4, 2) := by decide +kernel
theorem dX8_simulate_63 : decode cX8_simulate 63 = .ok (.lload 4, 2) := by decide +kernel
theorem dX8_simulate_65 : decode cX8_simulate 65 = .ok (.bipush 33, 2) := by decide +kernel
theorem dX8_simulate_67 : decode cX8_simulate 67 = .ok (.lushr, 1) := by decide +kernel
theorem dX8_simulate_68 : decode cX8_simulate 68 = .ok (.l2i, 1) := by decide +kernel
theorem dX8_simulate_69 : decode cX8_simulate 69 = .ok (.istore 7, 2) := by decide +kernel
theorem dX8_simulate_71 : decode cX8_simulate 71 = .ok (.iload 7, 2) := by decide +kernel
theorem dX8_simulate_73 : decode cX8_simulate 73 = .ok (.bipush 16, 2) := by decide +kernel
theorem dX8_simulate_75 : decode cX8_simulate 75 = .ok (.irem, 1) := by decide +kernel
theorem dX8_simulate_76 : decode cX8_simulate 76 = .ok (.ifCond .le 24, 3) := by decide +kernel
theorem dX8_simulate_79 : decode cX8_simulate 79 = .ok (.aload_n 0, 1) := by decide +kernel
theorem dX8_simulate_80 : decode cX8_simulate 80 = .ok (.iload 7, 2) := by decide +kernel
theorem dX8_simulate_82 : decode cX8_simulate 82 = .ok (.bipush 16, 2) := by decide +kernel
theorem dX8_simulate_84 : decode cX8_simulate 84 = .ok (.idiv, 1) := by decide +kernel
theorem dX8_simulate_85 : decode cX8_simulate 85 = .ok (.aload_n 0, 1) := by decide +kernel
theorem dX8_simulate_86 : decode cX8_simulate 86 = .ok (.getfield 17, 3) := by decide +kernel
theorem dX8_simulate_89 : decode cX8_simulate 89 = .ok (.invokestatic 47, 3) := by decide +kernel
theorem dX8_simulate_92 : decode cX8_simulate 92 = .ok (.irem, 1) := by decide +kernel
theorem dX8_simulate_93 : decode cX8_simulate 93 = .ok (.invokevirtual 250, 3) := by decide +kernel
theorem dX8_simulate_96 : decode cX8_simulate 96 = .ok (.pop, 1) := by decide +kernel
theorem dX8_simulate_97 : decode cX8_simulate 97 = .ok (.goto 23, 3) := by decide +kernel
theorem dX8_simulate_100 : decode cX8_simulate 100 = .ok (.aload_n 0, 1) := by decide +kernel
theorem dX8_simulate_101 : decode cX8_simulate 101 = .ok (.getfield 17, 3) := by decide +kernel
theorem dX8_simulate_104 : decode cX8_simulate 104 = .ok (.invokestatic 55, 3) := by decide +kernel
theorem dX8_simulate_107 : decode cX8_simulate 107 = .ok (.bipush 120, 2) := by decide +kernel
theorem dX8_simulate_109 : decode cX8_simulate 109 = .ok (.if_icmp .ge 11, 3) := by decide +kernel
theorem dX8_simulate_112 : decode cX8_simulate 112 = .ok (.aload_n 0, 1) := by decide +kernel
theorem dX8_simulate_113 : decode cX8_simulate 113 = .ok (.getfield 17, 3) := by decide +kernel
theorem dX8_simulate_116 : decode cX8_simulate 116 = .ok (.invokestatic 175, 3) := by decide +kernel
theorem dX8_simulate_119 : decode cX8_simulate 119 = .ok (.pop, 1) := by decide +kernel
theorem dX8_simulate_120 : decode cX8_simulate 120 = .ok (.iinc 6 1, 3) := by decide +kernel
theorem dX8_simulate_123 : decode cX8_simulate 123 = .ok (.goto (-78), 3) := by decide +kernel
theorem dX8_simulate_126 : decode cX8_simulate 126 = .ok (.aload_n 0, 1) := by decide +kernel
theorem dX8_simulate_127 : decode cX8_simulate 127 = .ok (.getfield 17, 3) := by decide +kernel
theorem dX8_simulate_130 : decode cX8_simulate 130 = .ok (.iconst 5, 1) := by decide +kernel
theorem dX8_simulate_131 : decode cX8_simulate 131 = .ok (.laload, 1) := by decide +kernel
theorem dX8_simulate_132 : decode cX8_simulate 132 = .ok (.aload_n 0, 1) := by decide +kernel
theorem dX8_simulate_133 : decode cX8_simulate 133 = .ok (.getfield 17, 3) := by decide +kernel
theorem dX8_simulate_136 : decode cX8_simulate 136 = .ok (.bipush 6, 2) := by decide +kernel
theorem dX8_simulate_138 : decode cX8_simulate 138 = .ok (.laload, 1) := by decide +kernel
theorem dX8_simulate_139 : decode cX8_simulate 139 = .ok (.ladd, 1) := by decide +kernel
theorem dX8_simulate_140 : decode cX8_simulate 140 = .ok (.l2i, 1) := by decide +kernel
theorem dX8_simulate_141 : decode cX8_simulate 141 = .ok (.istore 6, 2) := by decide +kernel
theorem dX8_simulate_143 : decode cX8_simulate 143 = .ok (.sipush 10000, 3) := by decide +kernel
theorem dX8_simulate_146 : decode cX8_simulate 146 = .ok (.iload 6, 2) := by decide +kernel
theorem dX8_simulate_148 : decode cX8_simulate 148 = .ok (.imul, 1) := by decide +kernel
theorem dX8_simulate_149 : decode cX8_simulate 149 = .ok (.bipush 100, 2) := by decide +kernel
theorem dX8_simulate_151 : decode cX8_simulate 151 = .ok (.aload_n 0, 1) := by decide +kernel
theorem dX8_simulate_152 : decode cX8_simulate 152 = .ok (.getfield 17, 3) := by decide +kernel
theorem dX8_simulate_155 : decode cX8_simulate 155 = .ok (.iconst 0, 1) := by decide +kernel
theorem dX8_simulate_156 : decode cX8_simulate 156 = .ok (.iconst 0, 1) := by decide +kernel
theorem dX8_simulate_157 : decode cX8_simulate 157 = .ok (.invokestatic 211, 3) := by decide +kernel
theorem dX8_simulate_160 : decode cX8_simulate 160 = .ok (.aload_n 0, 1) := by decide +kernel
theorem dX8_simulate_161 : decode cX8_simulate 161 = .ok (.getfield 17, 3) := by decide +kernel
theorem dX8_simulate_164 : decode cX8_simulate 164 = .ok (.iconst 1, 1) := by decide +kernel
theorem dX8_simulate_165 : decode cX8_simulate 165 = .ok (.iconst 0, 1) := by decide +kernel
theorem dX8_simulate_166 : decode cX8_simulate 166 = .ok (.invokestatic 211, 3) := by decide +kernel
theorem dX8_simulate_169 : decode cX8_simulate 169 = .ok (.iadd, 1) := by decide +kernel
theorem dX8_simulate_170 : decode cX8_simulate 170 = .ok (.imul, 1) := by decide +kernel
theorem dX8_simulate_171 : decode cX8_simulate 171 = .ok (.iadd, 1) := by decide +kernel
theorem dX8_simulate_172 : decode cX8_simulate 172 = .ok (.aload_n 0, 1) := by decide +kernel
theorem dX8_simulate_173 : decode cX8_simulate 173 = .ok (.getfield 17, 3) := by decide +kernel
theorem dX8_simulate_176 : decode cX8_simulate 176 = .ok (.iconst 0, 1) := by decide +kernel
theorem dX8_simulate_177 : decode cX8_simulate 177 = .ok (.invokestatic 105, 3) := by decide +kernel
theorem dX8_simulate_180 : decode cX8_simulate 180 = .ok (.invokestatic 95, 3) := by decide +kernel
theorem dX8_simulate_183 : decode cX8_simulate 183 = .ok (.iadd, 1) := by decide +kernel
theorem dX8_simulate_184 : decode cX8_simulate 184 = .ok (.ireturn, 1) := by decide +kernel
set_option maxRecDepth 20000 in
theorem ggX8_save_X8_in : GoodIn wsX8_save wsX8_in := goodIn_r _ [7] (by decide +kernel) (by decide +kernel)
set_option maxRecDepth 20000 in
theorem gX8_save_X8_in : GoodIn wsX8_save (va_wsS RX8 51 yX8_in wsX8_in) := goodIn_app (goodIn_of _ (by decide +kernel)) ggX8_save_X8_in
set_option maxRecDepth 20000 in
theorem ggX8_save_X8_refused : GoodIn wsX8_save wsX8_refused := goodIn_r _ [11, 12, 19, 20, 21, 22, 23, 24, 25, 26, 27, 28, 29, 30, 31, 32, 33, 34, 35, 36, 37] (by decide +kernel) (by decide +kernel)
set_option maxRecDepth 20000 in
theorem gX8_save_X8_refused : GoodIn wsX8_save (wsV RX8 163 RX8 yX8_refused wsX8_refused) := goodIn_app (goodIn_of _ (by decide +kernel)) ggX8_save_X8_refused
set_option maxRecDepth 20000 in
theorem ggX8_save_X8_copyState : GoodIn wsX8_save wsX8_copyState := goodIn_r _ [15] (by decide +kernel) (by decide +kernel)
set_option maxRecDepth 20000 in
theorem gX8_save_X8_copyState : GoodIn wsX8_save (va_wsS RX8 200 yX8_copyState wsX8_copyState) := goodIn_app (goodIn_of _ (by decide +kernel)) ggX8_save_X8_copyState
set_option maxRecDepth 20000 in
theorem ggX8_save_X8_moves : GoodIn wsX8_save wsX8_moves := goodIn_r _ [18] (by decide +kernel) (by decide +kernel)
set_option maxRecDepth 20000 in
theorem gX8_save_X8_moves : GoodIn wsX8_save (va_wsS RX8 55 yX8_moves wsX8_moves) := goodIn_app (goodIn_of _ (by decide +kernel)) ggX8_save_X8_moves
theorem dX8_save_0 : decode cX8_save 0 = .ok (.aload_n 0, 1) := by decide +kernel
theorem dX8_save_1 : decode cX8_save 1 = .ok (.iload_n 1, 1) := by decide +kernel
theorem dX8_save_2 : decode cX8_save 2 = .ok (.i2l, 1) := by decide +kernel
theorem dX8_save_3 : decode cX8_save 3 = .ok (.lconst 0, 1) := by decide +kernel
theorem dX8_save_4 : decode cX8_save 4 = .ok (.lconst 1, 1) := by decide +kernel
theorem dX8_save_5 : decode cX8_save 5 = .ok (.invokestatic 51, 3) := by decide +kernel
theorem dX8_save_8 : decode cX8_save 8 = .ok (.ifCond .eq 7, 3) := by decide +kernel
theorem dX8_save_11 : decode cX8_save 11 = .ok (.iconst 0, 1) := by decide +kernel
theorem dX8_save_12 : decode cX8_save 12 = .ok (.goto 4, 3) := by decide +kernel
theorem dX8_save_15 : decode cX8_save 15 = .ok (.iconst 1, 1) := by decide +kernel
theorem dX8_save_16 : decode cX8_save 16 = .ok (.invokevirtual 163, 3) := by decide +kernel
theorem dX8_save_19 : decode cX8_save 19 = .ok (.ifCond .eq 5, 3) := by decide +kernel
theorem dX8_save_22 : decode cX8_save 22 = .ok (.iconst 0, 1) := by decide +kernel
theorem dX8_save_23 : decode cX8_save 23 = .ok (.ireturn, 1) := by decide +kernel
theorem dX8_save_24 : decode cX8_save 24 = .ok (.aload_n 0, 1) := by decide +kernel
theorem dX8_save_25 : decode cX8_save 25 = .ok (.getfield 13, 3) := by decide +kernel
theorem dX8_save_28 : decode cX8_save 28 = .ok (.iconst 0, 1) := by decide +kernel
theorem dX8_save_29 : decode cX8_save 29 = .ok (.aload_n 0, 1) := by decide +kernel
theorem dX8_save_30 : decode cX8_save 30 = .ok (.getfield 23, 3) := by decide +kernel
theorem dX8_save_33 : decode cX8_save 33 = .ok (.sipush 250, 3) := by decide +kernel
theorem dX8_save_36 : decode cX8_save 36 = .ok (.iload_n 1, 1) := by decide +kernel
theorem dX8_save_37 : decode cX8_save 37 = .ok (.imul, 1) := by decide +kernel
theorem dX8_save_38 : decode cX8_save 38 = .ok (.invokestatic 200, 3) := by decide +kernel
theorem dX8_save_41 : decode cX8_save 41 = .ok (.aload_n 0, 1) := by decide +kernel
theorem dX8_save_42 : decode cX8_save 42 = .ok (.getfield 26, 3) := by decide +kernel
theorem dX8_save_45 : decode cX8_save 45 = .ok (.iload_n 1, 1) := by decide +kernel
theorem dX8_save_46 : decode cX8_save 46 = .ok (.iconst 1, 1) := by decide +kernel
theorem dX8_save_47 : decode cX8_save 47 = .ok (.bastore, 1) := by decide +kernel
theorem dX8_save_48 : decode cX8_save 48 = .ok (.aload_n 0, 1) := by decide +kernel
theorem dX8_save_49 : decode cX8_save 49 = .ok (.getfield 13, 3) := by decide +kernel
theorem dX8_save_52 : decode cX8_save 52 = .ok (.invokestatic 55, 3) := by decide +kernel
theorem dX8_save_55 : decode cX8_save 55 = .ok (.ireturn, 1) := by decide +kernel
set_option maxRecDepth 20000 in
theorem ggX8_restore_X8_in : GoodIn wsX8_restore wsX8_in := goodIn_r _ [8] (by decide +kernel) (by decide +kernel)
set_option maxRecDepth 20000 in
theorem gX8_restore_X8_in : GoodIn wsX8_restore (va_wsS RX8 51 yX8_in wsX8_in) := goodIn_app (goodIn_of _ (by decide +kernel)) ggX8_restore_X8_in
set_option maxRecDepth 20000 in
theorem ggX8_restore_X8_refused : GoodIn wsX8_restore wsX8_refused := goodIn_r _ [12, 13, 20, 21, 22, 23, 24, 25, 26, 27, 28, 29, 30, 31, 32, 33, 34, 35, 36, 37, 38] (by decide +kernel) (by decide +kernel)
set_option maxRecDepth 20000 in
theorem gX8_restore_X8_refused : GoodIn wsX8_restore (wsV RX8 163 RX8 yX8_refused wsX8_refused) := goodIn_app (goodIn_of _ (by decide +kernel)) ggX8_restore_X8_refused
set_option maxRecDepth 20000 in
theorem ggX8_restore_X8_copyState : GoodIn wsX8_restore wsX8_copyState := goodIn_r _ [16] (by decide +kernel) (by decide +kernel)
set_option maxRecDepth 20000 in
theorem gX8_restore_X8_copyState : GoodIn wsX8_restore (va_wsS RX8 200 yX8_copyState wsX8_copyState) := goodIn_app (goodIn_of _ (by decide +kernel)) ggX8_restore_X8_copyState
set_option maxRecDepth 20000 in
theorem ggX8_restore_X8_moves : GoodIn wsX8_restore wsX8_moves := goodIn_r _ [19] (by decide +kernel) (by decide +kernel)
set_option maxRecDepth 20000 in
theorem gX8_restore_X8_moves : GoodIn wsX8_restore (va_wsS RX8 55 yX8_moves wsX8_moves) := goodIn_app (goodIn_of _ (by decide +kernel)) ggX8_restore_X8_moves
theorem dX8_restore_0 : decode cX8_restore 0 = .ok (.aload_n 0, 1) := by decide +kernel
theorem dX8_restore_1 : decode cX8_restore 1 = .ok (.iload_n 1, 1) := by decide +kernel
theorem dX8_restore_2 : decode cX8_restore 2 = .ok (.i2l, 1) := by decide +kernel
theorem dX8_restore_3 : decode cX8_restore 3 = .ok (.lconst 0, 1) := by decide +kernel
theorem dX8_restore_4 : decode cX8_restore 4 = .ok (.lconst 1, 1) := by decide +kernel
theorem dX8_restore_5 : decode cX8_restore 5 = .ok (.invokestatic 51, 3) := by decide +kernel
theorem dX8_restore_8 : decode cX8_restore 8 = .ok (.ifCond .ne 7, 3) := by decide +kernel
theorem dX8_restore_11 : decode cX8_restore 11 = .ok (.iconst 1, 1) := by decide +kernel
theorem dX8_restore_12 : decode cX8_restore 12 = .ok (.goto 17, 3) := by decide +kernel
theorem dX8_restore_15 : decode cX8_restore 15 = .ok (.aload_n 0, 1) := by decide +kernel
theorem dX8_restore_16 : decode cX8_restore 16 = .ok (.getfield 26, 3) := by decide +kernel
theorem dX8_restore_19 : decode cX8_restore 19 = .ok (.iload_n 1, 1) := by decide +kernel
theorem dX8_restore_20 : decode cX8_restore 20 = .ok (.baload, 1) := by decide +kernel
theorem dX8_restore_21 : decode cX8_restore 21 = .ok (.ifCond .ne 7, 3) := by decide +kernel
theorem dX8_restore_24 : decode cX8_restore 24 = .ok (.iconst 2, 1) := by decide +kernel
theorem dX8_restore_25 : decode cX8_restore 25 = .ok (.goto 4, 3) := by decide +kernel
theorem dX8_restore_28 : decode cX8_restore 28 = .ok (.iconst 0, 1) := by decide +kernel
theorem dX8_restore_29 : decode cX8_restore 29 = .ok (.invokevirtual 163, 3) := by decide +kernel
theorem dX8_restore_32 : decode cX8_restore 32 = .ok (.ifCond .eq 5, 3) := by decide +kernel
theorem dX8_restore_35 : decode cX8_restore 35 = .ok (.iconst 0, 1) := by decide +kernel
theorem dX8_restore_36 : decode cX8_restore 36 = .ok (.ireturn, 1) := by decide +kernel
theorem dX8_restore_37 : decode cX8_restore 37 = .ok (.aload_n 0, 1) := by decide +kernel
theorem dX8_restore_38 : decode cX8_restore 38 = .ok (.getfield 23, 3) := by decide +kernel
theorem dX8_restore_41 : decode cX8_restore 41 = .ok (.sipush 250, 3) := by decide +kernel
theorem dX8_restore_44 : decode cX8_restore 44 = .ok (.iload_n 1, 1) := by decide +kernel
theorem dX8_restore_45 : decode cX8_restore 45 = .ok (.imul, 1) := by decide +kernel
theorem dX8_restore_46 : decode cX8_restore 46 = .ok (.aload_n 0, 1) := by decide +kernel
theorem dX8_restore_47 : decode cX8_restore 47 = .ok (.getfield 13, 3) := by decide +kernel
theorem dX8_restore_50 : decode cX8_restore 50 = .ok (.iconst 0, 1) := by decide +kernel
theorem dX8_restore_51 : decode cX8_restore 51 = .ok (.invokestatic 200, 3) := by decide +kernel
theorem dX8_restore_54 : decode cX8_restore 54 = .ok (.aload_n 0, 1) := by decide +kernel
theorem dX8_restore_55 : decode cX8_restore 55 = .ok (.iconst 0, 1) := by decide +kernel
theorem dX8_restore_56 : decode cX8_restore 56 = .ok (.putfield 204, 3) := by decide +kernel
theorem dX8_restore_59 : decode cX8_restore 59 = .ok (.aload_n 0, 1) := by decide +kernel
theorem dX8_restore_60 : decode cX8_restore 60 = .ok (.getfield 13, 3) := by decide +kernel
theorem dX8_restore_63 : decode cX8_restore 63 = .ok (.invokestatic 55, 3) := by decide +kernel
theorem dX8_restore_66 : decode cX8_restore 66 = .ok (.ireturn, 1) := by decide +kernel
theorem dJ13_bitCount_95d88_0 : decode cJ13_bitCount_95d88 0 = .ok (.lload_n 0, 1) := by decide +kernel
theorem dJ13_bitCount_95d88_1 : decode cJ13_bitCount_95d88 1 = .ok (.lload_n 0, 1) := by decide +kernel
theorem dJ13_bitCount_95d88_2 : decode cJ13_bitCount_95d88 2 = .ok (.iconst 1, 1) := by decide +kernel
theorem dJ13_bitCount_95d88_3 : decode cJ13_bitCount_95d88 3 = .ok (.lushr, 1) := by decide +kernel
theorem dJ13_bitCount_95d88_4 : decode cJ13_bitCount_95d88 4 = .ok (.ldc2_w 314, 3) := by decide +kernel
theorem dJ13_bitCount_95d88_7 : decode cJ13_bitCount_95d88 7 = .ok (.land, 1) := by decide +kernel
theorem dJ13_bitCount_95d88_8 : decode cJ13_bitCount_95d88 8 = .ok (.lsub, 1) := by decide +kernel
theorem dJ13_bitCount_95d88_9 : decode cJ13_bitCount_95d88 9 = .ok (.lstore_n 0, 1) := by decide +kernel
theorem dJ13_bitCount_95d88_10 : decode cJ13_bitCount_95d88 10 = .ok (.lload_n 0, 1) := by decide +kernel
theorem dJ13_bitCount_95d88_11 : decode cJ13_bitCount_95d88 11 = .ok (.ldc2_w 316, 3) := by decide +kernel
theorem dJ13_bitCount_95d88_14 : decode cJ13_bitCount_95d88 14 = .ok (.land, 1) := by decide +kernel
theorem dJ13_bitCount_95d88_15 : decode cJ13_bitCount_95d88 15 = .ok (.lload_n 0, 1) := by decide +kernel
theorem dJ13_bitCount_95d88_16 : decode cJ13_bitCount_95d88 16 = .ok (.iconst 2, 1) := by decide +kernel
theorem dJ13_bitCount_95d88_17 : decode cJ13_bitCount_95d88 17 = .ok (.lushr, 1) := by decide +kernel
theorem dJ13_bitCount_95d88_18 : decode cJ13_bitCount_95d88 18 = .ok (.ldc2_w 316, 3) := by decide +kernel
theorem dJ13_bitCount_95d88_21 : decode cJ13_bitCount_95d88 21 = .ok (.land, 1) := by decide +kernel
theorem dJ13_bitCount_95d88_22 : decode cJ13_bitCount_95d88 22 = .ok (.ladd, 1) := by decide +kernel
theorem dJ13_bitCount_95d88_23 : decode cJ13_bitCount_95d88 23 = .ok (.lstore_n 0, 1) := by decide +kernel
theorem dJ13_bitCount_95d88_24 : decode cJ13_bitCount_95d88 24 = .ok (.lload_n 0, 1) := by decide +kernel
theorem dJ13_bitCount_95d88_25 : decode cJ13_bitCount_95d88 25 = .ok (.lload_n 0, 1) := by decide +kernel
theorem dJ13_bitCount_95d88_26 : decode cJ13_bitCount_95d88 26 = .ok (.iconst 4, 1) := by decide +kernel
theorem dJ13_bitCount_95d88_27 : decode cJ13_bitCount_95d88 27 = .ok (.lushr, 1) := by decide +kernel
theorem dJ13_bitCount_95d88_28 : decode cJ13_bitCount_95d88 28 = .ok (.ladd, 1) := by decide +kernel
theorem dJ13_bitCount_95d88_29 : decode cJ13_bitCount_95d88 29 = .ok (.ldc2_w 318, 3) := by decide +kernel
theorem dJ13_bitCount_95d88_32 : decode cJ13_bitCount_95d88 32 = .ok (.land, 1) := by decide +kernel
theorem dJ13_bitCount_95d88_33 : decode cJ13_bitCount_95d88 33 = .ok (.lstore_n 0, 1) := by decide +kernel
theorem dJ13_bitCount_95d88_34 : decode cJ13_bitCount_95d88 34 = .ok (.lload_n 0, 1) := by decide +kernel
theorem dJ13_bitCount_95d88_35 : decode cJ13_bitCount_95d88 35 = .ok (.lload_n 0, 1) := by decide +kernel
theorem dJ13_bitCount_95d88_36 : decode cJ13_bitCount_95d88 36 = .ok (.bipush 8, 2) := by decide +kernel
theorem dJ13_bitCount_95d88_38 : decode cJ13_bitCount_95d88 38 = .ok (.lushr, 1) := by decide +kernel
theorem dJ13_bitCount_95d88_39 : decode cJ13_bitCount_95d88 39 = .ok (.ladd, 1) := by decide +kernel
theorem dJ13_bitCount_95d88_40 : decode cJ13_bitCount_95d88 40 = .ok (.lstore_n 0, 1) := by decide +kernel
theorem dJ13_bitCount_95d88_41 : decode cJ13_bitCount_95d88 41 = .ok (.lload_n 0, 1) := by decide +kernel
theorem dJ13_bitCount_95d88_42 : decode cJ13_bitCount_95d88 42 = .ok (.lload_n 0, 1) := by decide +kernel
theorem dJ13_bitCount_95d88_43 : decode cJ13_bitCount_95d88 43 = .ok (.bipush 16, 2) := by decide +kernel
theorem dJ13_bitCount_95d88_45 : decode cJ13_bitCount_95d88 45 = .ok (.lushr, 1) := by decide +kernel
theorem dJ13_bitCount_95d88_46 : decode cJ13_bitCount_95d88 46 = .ok (.ladd, 1) := by decide +kernel
theorem dJ13_bitCount_95d88_47 : decode cJ13_bitCount_95d88 47 = .ok (.lstore_n 0, 1) := by decide +kernel
theorem dJ13_bitCount_95d88_48 : decode cJ13_bitCount_95d88 48 = .ok (.lload_n 0, 1) := by decide +kernel
theorem dJ13_bitCount_95d88_49 : decode cJ13_bitCount_95d88 49 = .ok (.lload_n 0, 1) := by decide +kernel
theorem dJ13_bitCount_95d88_50 : decode cJ13_bitCount_95d88 50 = .ok (.bipush 32, 2) := by decide +kernel
theorem dJ13_bitCount_95d88_52 : decode cJ13_bitCount_95d88 52 = .ok (.lushr, 1) := by decide +kernel
theorem dJ13_bitCount_95d88_53 : decode cJ13_bitCount_95d88 53 = .ok (.ladd, 1) := by decide +kernel
theorem dJ13_bitCount_95d88_54 : decode cJ13_bitCount_95d88 54 = .ok (.lstore_n 0, 1) := by decide +kernel
theorem dJ13_bitCount_95d88_55 : decode cJ13_bitCount_95d88 55 = .ok (.lload_n 0, 1) := by decide +kernel
theorem dJ13_bitCount_95d88_56 : decode cJ13_bitCount_95d88 56 = .ok (.l2i, 1) := by decide +kernel
theorem dJ13_bitCount_95d88_57 : decode cJ13_bitCount_95d88 57 = .ok (.bipush 127, 2) := by decide +kernel
theorem dJ13_bitCount_95d88_59 : decode cJ13_bitCount_95d88 59 = .ok (.iand, 1) := by decide +kernel
theorem dJ13_bitCount_95d88_60 : decode cJ13_bitCount_95d88 60 = .ok (.ireturn, 1) := by decide +kernel
theorem dJ9_max_7cf53_0 : decode cJ9_max_7cf53 0 = .ok (.iload_n 0, 1) := by decide +kernel
theorem dJ9_max_7cf53_1 : decode cJ9_max_7cf53 1 = .ok (.iload_n 1, 1) := by decide +kernel
theorem dJ9_max_7cf53_2 : decode cJ9_max_7cf53 2 = .ok (.if_icmp .lt 7, 3) := by decide +kernel
theorem dJ9_max_7cf53_5 : decode cJ9_max_7cf53 5 = .ok (.iload_n 0, 1) := by decide +kernel
theorem dJ9_max_7cf53_6 : decode cJ9_max_7cf53 6 = .ok (.goto 4, 3) := by decide +kernel
theorem dJ9_max_7cf53_9 : decode cJ9_max_7cf53 9 = .ok (.iload_n 1, 1) := by decide +kernel
theorem dJ9_max_7cf53_10 : decode cJ9_max_7cf53 10 = .ok (.ireturn, 1) := by decide +kernel
set_option maxRecDepth 20000 in
theorem ggL_append_X7_append : GoodIn wsL_append wsX7_append := goodIn_ca (goodIn_ca (goodIn_r _ [7, 8, 9, 10, 11, 12, 13, 14, 15, 16, 17, 18, 19, 20, 21, 22, 23, 24, 25, 26, 27, 28, 29, 30, 31] (by decide +kernel) (by decide +kernel)) (goodIn_sub (fun _ h => List.mem_cons_of_mem _ (List.mem_append_left _ (List.mem_append_right _ h))) (by decide +kernel))) (goodIn_sub (fun _ h => List.mem_cons_of_mem _ (List.mem_append_right _ h)) (by decide +kernel))
set_option maxRecDepth 20000 in
theorem gL_append_X7_append : GoodIn wsL_append (wsV RL 7 RX7 yX7_append wsX7_append) := goodIn_app (goodIn_of _ (by decide +kernel)) ggL_append_X7_append
theorem dL_append_0 : decode cL_append 0 = .ok (.aload_n 2, 1) := by decide +kernel
theorem dL_append_1 : decode cL_append 1 = .ok (.iconst 0, 1) := by decide +kernel
theorem dL_append_2 : decode cL_append 2 = .ok (.aload_n 0, 1) := by decide +kernel
theorem dL_append_3 : decode cL_append 3 = .ok (.iload_n 1, 1) := by decide +kernel
theorem dL_append_4 : decode cL_append 4 = .ok (.invokevirtual 7, 3) := by decide +kernel
theorem dL_append_7 : decode cL_append 7 = .ok (.i2l, 1) := by decide +kernel
theorem dL_append_8 : decode cL_append 8 = .ok (.lastore, 1) := by decide +kernel
theorem dL_append_9 : decode cL_append 9 = .ok (.goto 9, 3) := by decide +kernel
theorem dL_append_12 : decode cL_append 12 = .ok (.astore_n 3, 1) := by decide +kernel
theorem dL_append_13 : decode cL_append 13 = .ok (.iconst 1, 1) := by decide +kernel
theorem dL_append_14 : decode cL_append 14 = .ok (.ireturn, 1) := by decide +kernel
theorem dL_append_15 : decode cL_append 15 = .ok (.astore_n 3, 1) := by decide +kernel
theorem dL_append_16 : decode cL_append 16 = .ok (.iconst 2, 1) := by decide +kernel
theorem dL_append_17 : decode cL_append 17 = .ok (.ireturn, 1) := by decide +kernel
theorem dL_append_18 : decode cL_append 18 = .ok (.iconst 0, 1) := by decide +kernel
theorem dL_append_19 : decode cL_append 19 = .ok (.ireturn, 1) := by decide +kernel
set_option maxRecDepth 20000 in
theorem ggL_load_X7_load : GoodIn wsL_load wsX7_load := goodIn_ca (goodIn_r _ [6, 7, 8, 9, 10, 11, 12, 13, 14, 15, 16, 17, 18, 19, 20, 21, 22, 23, 24, 25, 26, 27, 28, 29, 30, 31, 32, 33, 34, 35, 36, 37, 38, 39, 40, 41, 42, 43, 44, 45, 46, 47, 48, 49, 50, 51, 52, 53, 54, 55, 56, 57, 58, 59, 60, 61, 62, 63, 64, 65, 66, 67, 68, 69, 70, 71, 72, 73, 74, 75, 76, 77, 78, 79, 80, 81, 82, 83, 84, 85, 86, 87, 88, 89, 90, 91, 92, 93, 94, 95, 96, 97, 98, 99, 100, 101, 102, 103, 104, 105, 106, 107, 108, 109, 110, 111, 112, 113, 114, 115, 116, 117, 118, 119, 120, 121, 122, 123, 124, 125, 126, 127, 128, 129, 130, 131, 132, 133, 134, 135, 136, 137, 138, 139, 140, 141, 142, 143, 144, 145, 146, 147, 148, 149, 150, 151, 152, 153, 154, 155, 156, 157, 158, 159, 160, 161, 162, 163, 164, 165, 166, 167, 168, 169, 170, 171, 172, 173, 174, 175, 176] (by decide +kernel) (by decide +kernel)) (goodIn_sub (fun _ h => List.mem_cons_of_mem _ (List.mem_append_right _ h)) (by decide +kernel))
set_option maxRecDepth 20000 in
theorem gL_load_X7_load : GoodIn wsL_load (wsV RL 17 RX7 yX7_load wsX7_load) := goodIn_app (goodIn_of _ (by decide +kernel)) ggL_load_X7_load
theorem dL_load_0 : decode cL_load 0 = .ok (.aload_n 1, 1) := by decide +kernel
theorem dL_load_1 : decode cL_load 1 = .ok (.iconst 0, 1) := by decide +kernel
theorem dL_load_2 : decode cL_load 2 = .ok (.aload_n 0, 1) := by decide +kernel
theorem dL_load_3 : decode cL_load 3 = .ok (.invokevirtual 17, 3) := by decide +kernel
theorem dL_load_6 : decode cL_load 6 = .ok (.i2l, 1) := by decide +kernel
theorem dL_load_7 : decode cL_load 7 = .ok (.lastore, 1) := by decide +kernel
theorem dL_load_8 : decode cL_load 8 = .ok (.goto 6, 3) := by decide +kernel
theorem dL_load_11 : decode cL_load 11 = .ok (.astore_n 2, 1) := by decide +kernel
theorem dL_load_12 : decode cL_load 12 = .ok (.iconst 1, 1) := by decide +kernel
theorem dL_load_13 : decode cL_load 13 = .ok (.ireturn, 1) := by decide +kernel
theorem dL_load_14 : decode cL_load 14 = .ok (.iconst 0, 1) := by decide +kernel
theorem dL_load_15 : decode cL_load 15 = .ok (.ireturn, 1) := by decide +kernel
set_option maxRecDepth 20000 in
theorem ggL_about_X7_about : GoodIn wsL_about wsX7_about := goodIn_ca (goodIn_r _ [6, 7, 8, 9, 10, 11, 12, 13, 14, 15, 16, 17, 18, 19, 20, 21, 22, 23, 24, 25, 26, 27, 28, 29, 30, 31, 32, 33, 34, 35, 36, 37, 38, 39, 40, 41, 42, 43, 44, 45, 46, 47, 48, 49, 50, 51, 52, 53, 54, 55, 56, 57, 58, 59, 60, 61, 62, 63, 64, 65, 66, 67, 68, 69, 70, 71, 72, 73, 74, 75, 76, 77, 78, 79, 80, 81, 82, 83, 84, 85, 86] (by decide +kernel) (by decide +kernel)) (goodIn_sub (fun _ h => List.mem_cons_of_mem _ (List.mem_append_right _ h)) (by decide +kernel))
set_option maxRecDepth 20000 in
theorem gL_about_X7_about : GoodIn wsL_about (wsV RL 21 RX7 yX7_about wsX7_about) := goodIn_app (goodIn_of _ (by decide +kernel)) ggL_about_X7_about
theorem dL_about_0 : decode cL_about 0 = .ok (.aload_n 2, 1) := by decide +kernel
theorem dL_about_1 : decode cL_about 1 = .ok (.iconst 0, 1) := by decide +kernel
theorem dL_about_2 : decode cL_about 2 = .ok (.aload_n 0, 1) := by decide +kernel
theorem dL_about_3 : decode cL_about 3 = .ok (.iload_n 1, 1) := by decide +kernel
theorem dL_about_4 : decode cL_about 4 = .ok (.invokevirtual 21, 3) := by decide +kernel
theorem dL_about_7 : decode cL_about 7 = .ok (.i2l, 1) := by decide +kernel
theorem dL_about_8 : decode cL_about 8 = .ok (.lastore, 1) := by decide +kernel
theorem dL_about_9 : decode cL_about 9 = .ok (.goto 6, 3) := by decide +kernel
theorem dL_about_12 : decode cL_about 12 = .ok (.astore_n 3, 1) := by decide +kernel
theorem dL_about_13 : decode cL_about 13 = .ok (.iconst 1, 1) := by decide +kernel
theorem dL_about_14 : decode cL_about 14 = .ok (.ireturn, 1) := by decide +kernel
theorem dL_about_15 : decode cL_about 15 = .ok (.iconst 0, 1) := by decide +kernel
theorem dL_about_16 : decode cL_about 16 = .ok (.ireturn, 1) := by decide +kernel
set_option maxRecDepth 20000 in
theorem ggL_stones_X7_stones : GoodIn wsL_stones wsX7_stones := goodIn_ca (goodIn_r _ [6, 7, 8, 9, 10, 11, 5, 12, 13, 14, 15, 16, 17, 18, 19, 20, 21, 22, 23, 24, 25, 26, 27, 28, 29, 30, 31, 32, 33, 34, 35, 36] (by decide +kernel) (by decide +kernel)) (goodIn_sub (fun _ h => List.mem_cons_of_mem _ (List.mem_append_right _ h)) (by decide +kernel))
set_option maxRecDepth 20000 in
theorem gL_stones_X7_stones : GoodIn wsL_stones (wsV RL 24 RX7 yX7_stones wsX7_stones) := goodIn_app (goodIn_of _ (by decide +kernel)) ggL_stones_X7_stones
theorem dL_stones_0 : decode cL_stones 0 = .ok (.aload_n 2, 1) := by decide +kernel
theorem dL_stones_1 : decode cL_stones 1 = .ok (.iconst 0, 1) := by decide +kernel
theorem dL_stones_2 : decode cL_stones 2 = .ok (.aload_n 0, 1) := by decide +kernel
theorem dL_stones_3 : decode cL_stones 3 = .ok (.iload_n 1, 1) := by decide +kernel
theorem dL_stones_4 : decode cL_stones 4 = .ok (.invokevirtual 24, 3) := by decide +kernel
theorem dL_stones_7 : decode cL_stones 7 = .ok (.lastore, 1) := by decide +kernel
theorem dL_stones_8 : decode cL_stones 8 = .ok (.goto 6, 3) := by decide +kernel
theorem dL_stones_11 : decode cL_stones 11 = .ok (.astore_n 3, 1) := by decide +kernel
theorem dL_stones_12 : decode cL_stones 12 = .ok (.iconst 1, 1) := by decide +kernel
theorem dL_stones_13 : decode cL_stones 13 = .ok (.ireturn, 1) := by decide +kernel
theorem dL_stones_14 : decode cL_stones 14 = .ok (.iconst 0, 1) := by decide +kernel
theorem dL_stones_15 : decode cL_stones 15 = .ok (.ireturn, 1) := by decide +kernel
set_option maxRecDepth 20000 in
theorem ggL_colour_X7_colour : GoodIn wsL_colour wsX7_colour := goodIn_ca (goodIn_ca (goodIn_r _ [7, 8, 9, 10, 11, 12, 13, 14, 6, 15, 16, 17, 18, 19, 20, 21, 22, 23, 24, 25, 26, 27, 28, 29, 30, 31, 32, 33, 34, 35, 36, 37, 38, 39, 40, 41, 42, 43, 44, 45, 46, 47, 48, 49, 50, 51, 52, 53, 54, 55, 56, 57, 58, 59, 60, 61, 62, 63, 64, 65, 66, 67, 68, 69, 70, 71, 72, 73, 74, 75, 76, 77, 78, 79, 80, 81, 82, 83, 84, 85, 86, 87, 88, 89, 90, 91, 92, 93, 94, 95, 96, 97, 98, 99, 100, 101, 102, 103, 104, 105, 106, 107, 108, 109, 110, 111, 112] (by decide +kernel) (by decide +kernel)) (goodIn_sub (fun _ h => List.mem_cons_of_mem _ (List.mem_append_left _ (List.mem_append_right _ h))) (by decide +kernel))) (goodIn_sub (fun _ h => List.mem_cons_of_mem _ (List.mem_append_right _ h)) (by decide +kernel))
set_option maxRecDepth 20000 in
theorem gL_colour_X7_colour : GoodIn wsL_colour (wsV RL 30 RX7 yX7_colour wsX7_colour) := goodIn_app (goodIn_of _ (by decide +kernel)) ggL_colour_X7_colour
theorem dL_colour_0 : decode cL_colour 0 = .ok (.aload_n 3, 1) := by decide +kernel
theorem dL_colour_1 : decode cL_colour 1 = .ok (.iconst 0, 1) := by decide +kernel
theorem dL_colour_2 : decode cL_colour 2 = .ok (.aload_n 0, 1) := by decide +kernel
theorem dL_colour_3 : decode cL_colour 3 = .ok (.iload_n 1, 1) := by decide +kernel
theorem dL_colour_4 : decode cL_colour 4 = .ok (.iload_n 2, 1) := by decide +kernel
theorem dL_colour_5 : decode cL_colour 5 = .ok (.invokevirtual 30, 3) := by decide +kernel
theorem dL_colour_8 : decode cL_colour 8 = .ok (.i2l, 1) := by decide +kernel
theorem dL_colour_9 : decode cL_colour 9 = .ok (.lastore, 1) := by decide +kernel
theorem dL_colour_10 : decode cL_colour 10 = .ok (.goto 11, 3) := by decide +kernel
theorem dL_colour_13 : decode cL_colour 13 = .ok (.astore 4, 2) := by decide +kernel
theorem dL_colour_15 : decode cL_colour 15 = .ok (.iconst 1, 1) := by decide +kernel
theorem dL_colour_16 : decode cL_colour 16 = .ok (.ireturn, 1) := by decide +kernel
theorem dL_colour_17 : decode cL_colour 17 = .ok (.astore 4, 2) := by decide +kernel
theorem dL_colour_19 : decode cL_colour 19 = .ok (.iconst 2, 1) := by decide +kernel
theorem dL_colour_20 : decode cL_colour 20 = .ok (.ireturn, 1) := by decide +kernel
theorem dL_colour_21 : decode cL_colour 21 = .ok (.iconst 0, 1) := by decide +kernel
theorem dL_colour_22 : decode cL_colour 22 = .ok (.ireturn, 1) := by decide +kernel
set_option maxRecDepth 20000 in
theorem ggL_point_X7_point : GoodIn wsL_point wsX7_point := goodIn_ca (goodIn_ca (goodIn_r _ [7, 8, 9, 10, 11, 12, 13, 14, 15, 16, 17, 18, 19, 20, 21, 22, 23, 24, 25, 26, 27, 28, 29, 30, 31, 32, 33, 34, 35, 36, 37, 38, 39, 40, 41, 42, 43, 44, 45, 46, 47, 48, 49, 50, 51, 52, 53, 54, 55, 56, 57, 58, 59, 60, 61, 62, 63, 64, 65, 66, 67, 68, 69, 70, 71, 72, 73, 74, 75, 76, 77, 78, 79, 80, 81, 82, 83, 84, 85, 86, 87, 88, 89, 90, 91, 92, 93, 94, 95, 96, 97, 98, 99, 100, 101, 102, 103, 104, 105, 106, 107, 108, 109, 110, 111, 112, 113, 114, 115, 116, 117, 118, 119, 120, 121, 122, 123] (by decide +kernel) (by decide +kernel)) (goodIn_sub (fun _ h => List.mem_cons_of_mem _ (List.mem_append_left _ (List.mem_append_right _ h))) (by decide +kernel))) (goodIn_sub (fun _ h => List.mem_cons_of_mem _ (List.mem_append_right _ h)) (by decide +kernel))
set_option maxRecDepth 20000 in
theorem gL_point_X7_point : GoodIn wsL_point (wsV RL 34 RX7 yX7_point wsX7_point) := goodIn_app (goodIn_of _ (by decide +kernel)) ggL_point_X7_point
theorem dL_point_0 : decode cL_point 0 = .ok (.aload_n 3, 1) := by decide +kernel
theorem dL_point_1 : decode cL_point 1 = .ok (.iconst 0, 1) := by decide +kernel
theorem dL_point_2 : decode cL_point 2 = .ok (.aload_n 0, 1) := by decide +kernel
theorem dL_point_3 : decode cL_point 3 = .ok (.iload_n 1, 1) := by decide +kernel
theorem dL_point_4 : decode cL_point 4 = .ok (.iload_n 2, 1) := by decide +kernel
theorem dL_point_5 : decode cL_point 5 = .ok (.invokevirtual 34, 3) := by decide +kernel
theorem dL_point_8 : decode cL_point 8 = .ok (.i2l, 1) := by decide +kernel
theorem dL_point_9 : decode cL_point 9 = .ok (.lastore, 1) := by decide +kernel
theorem dL_point_10 : decode cL_point 10 = .ok (.goto 11, 3) := by decide +kernel
theorem dL_point_13 : decode cL_point 13 = .ok (.astore 4, 2) := by decide +kernel
theorem dL_point_15 : decode cL_point 15 = .ok (.iconst 1, 1) := by decide +kernel
theorem dL_point_16 : decode cL_point 16 = .ok (.ireturn, 1) := by decide +kernel
theorem dL_point_17 : decode cL_point 17 = .ok (.astore 4, 2) := by decide +kernel
theorem dL_point_19 : decode cL_point 19 = .ok (.iconst 2, 1) := by decide +kernel
theorem dL_point_20 : decode cL_point 20 = .ok (.ireturn, 1) := by decide +kernel
theorem dL_point_21 : decode cL_point 21 = .ok (.iconst 0, 1) := by decide +kernel
theorem dL_point_22 : decode cL_point 22 = .ok (.ireturn, 1) := by decide +kernel
set_option maxRecDepth 20000 in
theorem ggL_group_X7_group : GoodIn wsL_group wsX7_group := goodIn_ca (goodIn_ca (goodIn_r _ [7, 8, 9, 10, 11, 12, 13, 14, 15, 16, 17, 18, 19, 20, 21, 22, 23, 24, 25, 26, 27, 28, 29, 30, 31, 32, 33, 34, 35, 36, 37, 38, 39, 40, 41, 42, 43, 44, 45, 46, 47, 48, 49, 50, 51, 52, 53, 54, 55, 56, 57, 58, 59, 60, 61, 62, 63, 64, 65, 66, 67, 68, 69, 70, 71, 72, 73, 74, 75, 76, 77, 78] (by decide +kernel) (by decide +kernel)) (goodIn_sub (fun _ h => List.mem_cons_of_mem _ (List.mem_append_left _ (List.mem_append_right _ h))) (by decide +kernel))) (goodIn_sub (fun _ h => List.mem_cons_of_mem _ (List.mem_append_right _ h)) (by decide +kernel))
set_option maxRecDepth 20000 in
theorem gL_group_X7_group : GoodIn wsL_group (wsV RL 37 RX7 yX7_group wsX7_group) := goodIn_app (goodIn_of _ (by decide +kernel)) ggL_group_X7_group
theorem dL_group_0 : decode cL_group 0 = .ok (.aload_n 3, 1) := by decide +kernel
theorem dL_group_1 : decode cL_group 1 = .ok (.iconst 0, 1) := by decide +kernel
theorem dL_group_2 : decode cL_group 2 = .ok (.aload_n 0, 1) := by decide +kernel
theorem dL_group_3 : decode cL_group 3 = .ok (.iload_n 1, 1) := by decide +kernel
theorem dL_group_4 : decode cL_group 4 = .ok (.iload_n 2, 1) := by decide +kernel
theorem dL_group_5 : decode cL_group 5 = .ok (.invokevirtual 37, 3) := by decide +kernel
theorem dL_group_8 : decode cL_group 8 = .ok (.lastore, 1) := by decide +kernel
theorem dL_group_9 : decode cL_group 9 = .ok (.goto 11, 3) := by decide +kernel
theorem dL_group_12 : decode cL_group 12 = .ok (.astore 4, 2) := by decide +kernel
theorem dL_group_14 : decode cL_group 14 = .ok (.iconst 1, 1) := by decide +kernel
theorem dL_group_15 : decode cL_group 15 = .ok (.ireturn, 1) := by decide +kernel
theorem dL_group_16 : decode cL_group 16 = .ok (.astore 4, 2) := by decide +kernel
theorem dL_group_18 : decode cL_group 18 = .ok (.iconst 2, 1) := by decide +kernel
theorem dL_group_19 : decode cL_group 19 = .ok (.ireturn, 1) := by decide +kernel
theorem dL_group_20 : decode cL_group 20 = .ok (.iconst 0, 1) := by decide +kernel
theorem dL_group_21 : decode cL_group 21 = .ok (.ireturn, 1) := by decide +kernel
set_option maxRecDepth 20000 in
theorem ggL_why_X7_why : GoodIn wsL_why wsX7_why := goodIn_ca (goodIn_r _ [6, 7, 8, 9, 10, 11, 12, 13, 14, 15, 16, 17, 18, 19, 20, 21, 22, 23, 24, 25, 26, 27, 28, 29, 30, 31, 32, 33, 34, 35, 36, 37, 38, 39, 40, 41, 42, 43, 44, 45, 46, 47, 48, 49, 50, 51, 52, 53, 54, 55, 56, 57, 58, 59, 60, 61, 62, 63, 64, 65, 66, 67, 68, 69, 70, 71, 72, 73, 74, 75, 76, 77, 78, 79, 80, 81, 82, 83, 84, 85, 86, 87] (by decide +kernel) (by decide +kernel)) (goodIn_sub (fun _ h => List.mem_cons_of_mem _ (List.mem_append_right _ h)) (by decide +kernel))
set_option maxRecDepth 20000 in
theorem gL_why_X7_why : GoodIn wsL_why (wsV RL 41 RX7 yX7_why wsX7_why) := goodIn_app (goodIn_of _ (by decide +kernel)) ggL_why_X7_why
theorem dL_why_0 : decode cL_why 0 = .ok (.aload_n 2, 1) := by decide +kernel
theorem dL_why_1 : decode cL_why 1 = .ok (.iconst 0, 1) := by decide +kernel
theorem dL_why_2 : decode cL_why 2 = .ok (.aload_n 0, 1) := by decide +kernel
theorem dL_why_3 : decode cL_why 3 = .ok (.iload_n 1, 1) := by decide +kernel
theorem dL_why_4 : decode cL_why 4 = .ok (.invokevirtual 41, 3) := by decide +kernel
theorem dL_why_7 : decode cL_why 7 = .ok (.i2l, 1) := by decide +kernel
theorem dL_why_8 : decode cL_why 8 = .ok (.lastore, 1) := by decide +kernel
theorem dL_why_9 : decode cL_why 9 = .ok (.goto 6, 3) := by decide +kernel
theorem dL_why_12 : decode cL_why 12 = .ok (.astore_n 3, 1) := by decide +kernel
theorem dL_why_13 : decode cL_why 13 = .ok (.iconst 1, 1) := by decide +kernel
theorem dL_why_14 : decode cL_why 14 = .ok (.ireturn, 1) := by decide +kernel
theorem dL_why_15 : decode cL_why 15 = .ok (.iconst 0, 1) := by decide +kernel
theorem dL_why_16 : decode cL_why 16 = .ok (.ireturn, 1) := by decide +kernel
set_option maxRecDepth 20000 in
theorem ggL_board_X7_board : GoodIn wsL_board wsX7_board := goodIn_ca (goodIn_r _ [6, 7, 8, 9, 10, 11, 12, 13, 14, 15, 16, 17, 18, 19, 20, 21, 22, 23, 24, 25, 26, 27, 28, 29, 30, 31, 32, 33, 34, 35, 36, 37, 38, 39, 40, 41, 42, 43, 44, 45, 46, 47, 48, 49, 50, 51, 52, 53, 54, 55, 56, 57, 58, 59, 60, 61, 62, 63, 64, 65, 66, 67, 68, 69, 70, 71, 72, 73, 74, 75, 76, 77, 78, 79, 80, 81, 82, 83, 84, 85, 86, 87] (by decide +kernel) (by decide +kernel)) (goodIn_sub (fun _ h => List.mem_cons_of_mem _ (List.mem_append_right _ h)) (by decide +kernel))
set_option maxRecDepth 20000 in
theorem gL_board_X7_board : GoodIn wsL_board (wsV RL 44 RX7 yX7_board wsX7_board) := goodIn_app (goodIn_of _ (by decide +kernel)) ggL_board_X7_board
theorem dL_board_0 : decode cL_board 0 = .ok (.aload_n 2, 1) := by decide +kernel
theorem dL_board_1 : decode cL_board 1 = .ok (.iconst 0, 1) := by decide +kernel
theorem dL_board_2 : decode cL_board 2 = .ok (.aload_n 0, 1) := by decide +kernel
theorem dL_board_3 : decode cL_board 3 = .ok (.iload_n 1, 1) := by decide +kernel
theorem dL_board_4 : decode cL_board 4 = .ok (.invokevirtual 44, 3) := by decide +kernel
theorem dL_board_7 : decode cL_board 7 = .ok (.i2l, 1) := by decide +kernel
theorem dL_board_8 : decode cL_board 8 = .ok (.lastore, 1) := by decide +kernel
theorem dL_board_9 : decode cL_board 9 = .ok (.goto 6, 3) := by decide +kernel
theorem dL_board_12 : decode cL_board 12 = .ok (.astore_n 3, 1) := by decide +kernel
theorem dL_board_13 : decode cL_board 13 = .ok (.iconst 1, 1) := by decide +kernel
theorem dL_board_14 : decode cL_board 14 = .ok (.ireturn, 1) := by decide +kernel
theorem dL_board_15 : decode cL_board 15 = .ok (.iconst 0, 1) := by decide +kernel
theorem dL_board_16 : decode cL_board 16 = .ok (.ireturn, 1) := by decide +kernel
set_option maxRecDepth 20000 in
theorem ggL_play_X7_play : GoodIn wsL_play wsX7_play := goodIn_ca (goodIn_ca (goodIn_r _ [7, 8, 9, 10, 11, 12, 13, 14, 15, 16, 17, 18, 19, 20, 21, 22, 23, 24, 25, 26, 27, 28, 29, 30, 31, 32, 33, 34, 35, 36, 37, 38, 39, 40, 41, 42, 43, 44, 45, 46, 47, 48, 49, 50, 51, 52, 53, 54, 55, 56, 57, 58, 59, 60, 61, 62, 63, 64, 65, 66, 67, 68, 69, 70, 71, 72, 73, 74, 75, 76, 77, 78, 79, 80, 81, 82, 83, 84, 85, 86, 87, 88, 89, 90, 91, 92, 93, 94, 95, 96, 97, 98, 99, 100, 101, 102, 103, 104, 105, 106, 107, 108, 109, 110, 111, 112, 113, 114, 115, 116, 117, 118, 119, 120, 121, 122, 123, 124, 125, 126, 127, 128, 129] (by decide +kernel) (by decide +kernel)) (goodIn_sub (fun _ h => List.mem_cons_of_mem _ (List.mem_append_left _ (List.mem_append_right _ h))) (by decide +kernel))) (goodIn_sub (fun _ h => List.mem_cons_of_mem _ (List.mem_append_right _ h)) (by decide +kernel))
set_option maxRecDepth 20000 in
theorem gL_play_X7_play : GoodIn wsL_play (wsV RL 47 RX7 yX7_play wsX7_play) := goodIn_app (goodIn_of _ (by decide +kernel)) ggL_play_X7_play
theorem dL_play_0 : decode cL_play 0 = .ok (.aload_n 2, 1) := by decide +kernel
theorem dL_play_1 : decode cL_play 1 = .ok (.iconst 0, 1) := by decide +kernel
theorem dL_play_2 : decode cL_play 2 = .ok (.aload_n 0, 1) := by decide +kernel
theorem dL_play_3 : decode cL_play 3 = .ok (.iload_n 1, 1) := by decide +kernel
theorem dL_play_4 : decode cL_play 4 = .ok (.invokevirtual 47, 3) := by decide +kernel
theorem dL_play_7 : decode cL_play 7 = .ok (.i2l, 1) := by decide +kernel
theorem dL_play_8 : decode cL_play 8 = .ok (.lastore, 1) := by decide +kernel
theorem dL_play_9 : decode cL_play 9 = .ok (.goto 9, 3) := by decide +kernel
theorem dL_play_12 : decode cL_play 12 = .ok (.astore_n 3, 1) := by decide +kernel
theorem dL_play_13 : decode cL_play 13 = .ok (.iconst 1, 1) := by decide +kernel
theorem dL_play_14 : decode cL_play 14 = .ok (.ireturn, 1) := by decide +kernel
theorem dL_play_15 : decode cL_play 15 = .ok (.astore_n 3, 1) := by decide +kernel
theorem dL_play_16 : decode cL_play 16 = .ok (.iconst 2, 1) := by decide +kernel
theorem dL_play_17 : decode cL_play 17 = .ok (.ireturn, 1) := by decide +kernel
theorem dL_play_18 : decode cL_play 18 = .ok (.iconst 0, 1) := by decide +kernel
theorem dL_play_19 : decode cL_play 19 = .ok (.ireturn, 1) := by decide +kernel
set_option maxRecDepth 20000 in
theorem ggL_pass_X7_pass : GoodIn wsL_pass wsX7_pass := goodIn_ca (goodIn_r _ [6, 7, 8, 9, 10, 11, 12, 13, 14, 15, 16, 17, 18, 19, 20, 21, 22, 23, 24, 25, 26, 27, 28, 29, 30, 31, 32, 33, 34, 35, 36, 37, 38, 39, 40, 41, 42, 43, 44, 45, 46, 47, 48, 49, 50, 51, 52, 53, 54, 55, 56, 57, 58, 59, 60, 61, 62, 63, 64, 65, 66] (by decide +kernel) (by decide +kernel)) (goodIn_sub (fun _ h => List.mem_cons_of_mem _ (List.mem_append_right _ h)) (by decide +kernel))
set_option maxRecDepth 20000 in
theorem gL_pass_X7_pass : GoodIn wsL_pass (wsV RL 50 RX7 yX7_pass wsX7_pass) := goodIn_app (goodIn_of _ (by decide +kernel)) ggL_pass_X7_pass
theorem dL_pass_0 : decode cL_pass 0 = .ok (.aload_n 1, 1) := by decide +kernel
theorem dL_pass_1 : decode cL_pass 1 = .ok (.iconst 0, 1) := by decide +kernel
theorem dL_pass_2 : decode cL_pass 2 = .ok (.aload_n 0, 1) := by decide +kernel
theorem dL_pass_3 : decode cL_pass 3 = .ok (.invokevirtual 50, 3) := by decide +kernel
theorem dL_pass_6 : decode cL_pass 6 = .ok (.i2l, 1) := by decide +kernel
theorem dL_pass_7 : decode cL_pass 7 = .ok (.lastore, 1) := by decide +kernel
theorem dL_pass_8 : decode cL_pass 8 = .ok (.goto 6, 3) := by decide +kernel
theorem dL_pass_11 : decode cL_pass 11 = .ok (.astore_n 2, 1) := by decide +kernel
theorem dL_pass_12 : decode cL_pass 12 = .ok (.iconst 1, 1) := by decide +kernel
theorem dL_pass_13 : decode cL_pass 13 = .ok (.ireturn, 1) := by decide +kernel
theorem dL_pass_14 : decode cL_pass 14 = .ok (.iconst 0, 1) := by decide +kernel
theorem dL_pass_15 : decode cL_pass 15 = .ok (.ireturn, 1) := by decide +kernel
set_option maxRecDepth 20000 in
theorem ggL_set_X7_set : GoodIn wsL_set wsX7_set := goodIn_ca (goodIn_r _ [6, 7, 8, 9, 10, 11, 12, 13, 14, 15, 16, 17, 18, 19, 20, 21, 22, 23, 24, 25, 26, 27, 28, 29, 30, 31, 32, 33, 34, 35, 36, 37, 38, 39, 40, 41, 42, 43, 44, 45, 46, 47, 48, 49, 50, 51, 52, 53, 54, 55, 56, 57, 58] (by decide +kernel) (by decide +kernel)) (goodIn_sub (fun _ h => List.mem_cons_of_mem _ (List.mem_append_right _ h)) (by decide +kernel))
set_option maxRecDepth 20000 in
theorem gL_set_X7_set : GoodIn wsL_set (wsV RL 53 RX7 yX7_set wsX7_set) := goodIn_app (goodIn_of _ (by decide +kernel)) ggL_set_X7_set
theorem dL_set_0 : decode cL_set 0 = .ok (.aload_n 2, 1) := by decide +kernel
theorem dL_set_1 : decode cL_set 1 = .ok (.iconst 0, 1) := by decide +kernel
theorem dL_set_2 : decode cL_set 2 = .ok (.aload_n 0, 1) := by decide +kernel
theorem dL_set_3 : decode cL_set 3 = .ok (.iload_n 1, 1) := by decide +kernel
theorem dL_set_4 : decode cL_set 4 = .ok (.invokevirtual 53, 3) := by decide +kernel
theorem dL_set_7 : decode cL_set 7 = .ok (.i2l, 1) := by decide +kernel
theorem dL_set_8 : decode cL_set 8 = .ok (.lastore, 1) := by decide +kernel
theorem dL_set_9 : decode cL_set 9 = .ok (.goto 6, 3) := by decide +kernel
theorem dL_set_12 : decode cL_set 12 = .ok (.astore_n 3, 1) := by decide +kernel
theorem dL_set_13 : decode cL_set 13 = .ok (.iconst 1, 1) := by decide +kernel
theorem dL_set_14 : decode cL_set 14 = .ok (.ireturn, 1) := by decide +kernel
theorem dL_set_15 : decode cL_set 15 = .ok (.iconst 0, 1) := by decide +kernel
theorem dL_set_16 : decode cL_set 16 = .ok (.ireturn, 1) := by decide +kernel
set_option maxRecDepth 20000 in
theorem ggL_undo_X7_undo : GoodIn wsL_undo wsX7_undo := goodIn_ca (goodIn_r _ [6, 7, 8, 9, 10, 11, 12, 13, 14, 15, 16, 17, 18, 19, 20, 21, 22, 23, 24, 25, 26, 27, 28, 29, 30, 31, 32, 33, 34, 35, 36, 37, 38, 39, 40, 41, 42, 43, 44, 45, 46, 47, 48, 49, 50, 51, 52, 53, 54, 55, 56, 57, 58] (by decide +kernel) (by decide +kernel)) (goodIn_sub (fun _ h => List.mem_cons_of_mem _ (List.mem_append_right _ h)) (by decide +kernel))
set_option maxRecDepth 20000 in
theorem gL_undo_X7_undo : GoodIn wsL_undo (wsV RL 56 RX7 yX7_undo wsX7_undo) := goodIn_app (goodIn_of _ (by decide +kernel)) ggL_undo_X7_undo
theorem dL_undo_0 : decode cL_undo 0 = .ok (.aload_n 1, 1) := by decide +kernel
theorem dL_undo_1 : decode cL_undo 1 = .ok (.iconst 0, 1) := by decide +kernel
