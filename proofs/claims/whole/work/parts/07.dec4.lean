theorem dX8_ladderOn_52 : decode cX8_ladderOn 52 = .ok (.aload_n 0, 1) := by decide +kernel
theorem dX8_ladderOn_53 : decode cX8_ladderOn 53 = .ok (.aload_n 1, 1) := by decide +kernel
theorem dX8_ladderOn_54 : decode cX8_ladderOn 54 = .ok (.iload 5, 2) := by decide +kernel
theorem dX8_ladderOn_56 : decode cX8_ladderOn 56 = .ok (.invokestatic 105, 3) := by decide +kernel
theorem dX8_ladderOn_59 : decode cX8_ladderOn 59 = .ok (.aload_n 1, 1) := by decide +kernel
theorem dX8_ladderOn_60 : decode cX8_ladderOn 60 = .ok (.iconst 1, 1) := by decide +kernel
theorem dX8_ladderOn_61 : decode cX8_ladderOn 61 = .ok (.iload 5, 2) := by decide +kernel
theorem dX8_ladderOn_63 : decode cX8_ladderOn 63 = .ok (.isub, 1) := by decide +kernel
theorem dX8_ladderOn_64 : decode cX8_ladderOn 64 = .ok (.invokestatic 105, 3) := by decide +kernel
theorem dX8_ladderOn_67 : decode cX8_ladderOn 67 = .ok (.bipush 12, 2) := by decide +kernel
theorem dX8_ladderOn_69 : decode cX8_ladderOn 69 = .ok (.invokevirtual 142, 3) := by decide +kernel
theorem dX8_ladderOn_72 : decode cX8_ladderOn 72 = .ok (.goto 28, 3) := by decide +kernel
theorem dX8_ladderOn_75 : decode cX8_ladderOn 75 = .ok (.aload_n 0, 1) := by decide +kernel
theorem dX8_ladderOn_76 : decode cX8_ladderOn 76 = .ok (.iload 4, 2) := by decide +kernel
theorem dX8_ladderOn_78 : decode cX8_ladderOn 78 = .ok (.iload_n 2, 1) := by decide +kernel
theorem dX8_ladderOn_79 : decode cX8_ladderOn 79 = .ok (.aload_n 1, 1) := by decide +kernel
theorem dX8_ladderOn_80 : decode cX8_ladderOn 80 = .ok (.iload 5, 2) := by decide +kernel
theorem dX8_ladderOn_82 : decode cX8_ladderOn 82 = .ok (.invokestatic 105, 3) := by decide +kernel
theorem dX8_ladderOn_85 : decode cX8_ladderOn 85 = .ok (.aload_n 1, 1) := by decide +kernel
theorem dX8_ladderOn_86 : decode cX8_ladderOn 86 = .ok (.iconst 1, 1) := by decide +kernel
theorem dX8_ladderOn_87 : decode cX8_ladderOn 87 = .ok (.iload 5, 2) := by decide +kernel
theorem dX8_ladderOn_89 : decode cX8_ladderOn 89 = .ok (.isub, 1) := by decide +kernel
theorem dX8_ladderOn_90 : decode cX8_ladderOn 90 = .ok (.invokestatic 105, 3) := by decide +kernel
theorem dX8_ladderOn_93 : decode cX8_ladderOn 93 = .ok (.bipush 12, 2) := by decide +kernel
theorem dX8_ladderOn_95 : decode cX8_ladderOn 95 = .ok (.invokevirtual 146, 3) := by decide +kernel
theorem dX8_ladderOn_98 : decode cX8_ladderOn 98 = .ok (.istore 6, 2) := by decide +kernel
theorem dX8_ladderOn_100 : decode cX8_ladderOn 100 = .ok (.iload 6, 2) := by decide +kernel
theorem dX8_ladderOn_102 : decode cX8_ladderOn 102 = .ok (.iconst (-1), 1) := by decide +kernel
theorem dX8_ladderOn_103 : decode cX8_ladderOn 103 = .ok (.if_icmp .eq 8, 3) := by decide +kernel
theorem dX8_ladderOn_106 : decode cX8_ladderOn 106 = .ok (.iload 6, 2) := by decide +kernel
theorem dX8_ladderOn_108 : decode cX8_ladderOn 108 = .ok (.goto 18, 3) := by decide +kernel
theorem dX8_ladderOn_111 : decode cX8_ladderOn 111 = .ok (.aload_n 0, 1) := by decide +kernel
theorem dX8_ladderOn_112 : decode cX8_ladderOn 112 = .ok (.iload 4, 2) := by decide +kernel
theorem dX8_ladderOn_114 : decode cX8_ladderOn 114 = .ok (.iload_n 2, 1) := by decide +kernel
theorem dX8_ladderOn_115 : decode cX8_ladderOn 115 = .ok (.invokevirtual 154, 3) := by decide +kernel
theorem dX8_ladderOn_118 : decode cX8_ladderOn 118 = .ok (.ifCond .eq 7, 3) := by decide +kernel
theorem dX8_ladderOn_121 : decode cX8_ladderOn 121 = .ok (.iconst 1, 1) := by decide +kernel
theorem dX8_ladderOn_122 : decode cX8_ladderOn 122 = .ok (.goto 4, 3) := by decide +kernel
theorem dX8_ladderOn_125 : decode cX8_ladderOn 125 = .ok (.iconst 0, 1) := by decide +kernel
theorem dX8_ladderOn_126 : decode cX8_ladderOn 126 = .ok (.ireturn, 1) := by decide +kernel
set_option maxRecDepth 20000 in
theorem ggX8_append_X8_in : GoodIn wsX8_append wsX8_in := goodIn_r _ [7] (by decide +kernel) (by decide +kernel)
set_option maxRecDepth 20000 in
theorem gX8_append_X8_in : GoodIn wsX8_append (va_wsS RX8 51 yX8_in wsX8_in) := goodIn_app (goodIn_of _ (by decide +kernel)) ggX8_append_X8_in
set_option maxRecDepth 20000 in
theorem ggX8_append_X8_refused : GoodIn wsX8_append wsX8_refused := goodIn_r _ [11, 12, 13, 14, 15, 16, 17, 18, 19, 20, 21, 22, 23, 24, 25, 26, 27, 28, 29, 30, 31] (by decide +kernel) (by decide +kernel)
set_option maxRecDepth 20000 in
theorem gX8_append_X8_refused : GoodIn wsX8_append (wsV RX8 163 RX8 yX8_refused wsX8_refused) := goodIn_app (goodIn_of _ (by decide +kernel)) ggX8_append_X8_refused
theorem dX8_append_0 : decode cX8_append 0 = .ok (.aload_n 0, 1) := by decide +kernel
theorem dX8_append_1 : decode cX8_append 1 = .ok (.iload_n 1, 1) := by decide +kernel
theorem dX8_append_2 : decode cX8_append 2 = .ok (.i2l, 1) := by decide +kernel
theorem dX8_append_3 : decode cX8_append 3 = .ok (.lconst 0, 1) := by decide +kernel
theorem dX8_append_4 : decode cX8_append 4 = .ok (.ldc2_w 158, 3) := by decide +kernel
theorem dX8_append_7 : decode cX8_append 7 = .ok (.invokestatic 51, 3) := by decide +kernel
theorem dX8_append_10 : decode cX8_append 10 = .ok (.ifCond .ne 7, 3) := by decide +kernel
theorem dX8_append_13 : decode cX8_append 13 = .ok (.iconst 1, 1) := by decide +kernel
theorem dX8_append_14 : decode cX8_append 14 = .ok (.goto 17, 3) := by decide +kernel
theorem dX8_append_17 : decode cX8_append 17 = .ok (.aload_n 0, 1) := by decide +kernel
theorem dX8_append_18 : decode cX8_append 18 = .ok (.getfield 160, 3) := by decide +kernel
theorem dX8_append_21 : decode cX8_append 21 = .ok (.bipush 120, 2) := by decide +kernel
theorem dX8_append_23 : decode cX8_append 23 = .ok (.if_icmp .ne 7, 3) := by decide +kernel
theorem dX8_append_26 : decode cX8_append 26 = .ok (.iconst 2, 1) := by decide +kernel
theorem dX8_append_27 : decode cX8_append 27 = .ok (.goto 4, 3) := by decide +kernel
theorem dX8_append_30 : decode cX8_append 30 = .ok (.iconst 0, 1) := by decide +kernel
theorem dX8_append_31 : decode cX8_append 31 = .ok (.invokevirtual 163, 3) := by decide +kernel
theorem dX8_append_34 : decode cX8_append 34 = .ok (.ifCond .eq 5, 3) := by decide +kernel
theorem dX8_append_37 : decode cX8_append 37 = .ok (.iconst 0, 1) := by decide +kernel
theorem dX8_append_38 : decode cX8_append 38 = .ok (.ireturn, 1) := by decide +kernel
theorem dX8_append_39 : decode cX8_append 39 = .ok (.aload_n 0, 1) := by decide +kernel
theorem dX8_append_40 : decode cX8_append 40 = .ok (.getfield 7, 3) := by decide +kernel
theorem dX8_append_43 : decode cX8_append 43 = .ok (.aload_n 0, 1) := by decide +kernel
theorem dX8_append_44 : decode cX8_append 44 = .ok (.getfield 160, 3) := by decide +kernel
theorem dX8_append_47 : decode cX8_append 47 = .ok (.iload_n 1, 1) := by decide +kernel
theorem dX8_append_48 : decode cX8_append 48 = .ok (.iastore, 1) := by decide +kernel
theorem dX8_append_49 : decode cX8_append 49 = .ok (.aload_n 0, 1) := by decide +kernel
theorem dX8_append_50 : decode cX8_append 50 = .ok (.dup, 1) := by decide +kernel
theorem dX8_append_51 : decode cX8_append 51 = .ok (.getfield 160, 3) := by decide +kernel
theorem dX8_append_54 : decode cX8_append 54 = .ok (.iconst 1, 1) := by decide +kernel
theorem dX8_append_55 : decode cX8_append 55 = .ok (.iadd, 1) := by decide +kernel
theorem dX8_append_56 : decode cX8_append 56 = .ok (.putfield 160, 3) := by decide +kernel
theorem dX8_append_59 : decode cX8_append 59 = .ok (.aload_n 0, 1) := by decide +kernel
theorem dX8_append_60 : decode cX8_append 60 = .ok (.getfield 160, 3) := by decide +kernel
theorem dX8_append_63 : decode cX8_append 63 = .ok (.ireturn, 1) := by decide +kernel
theorem dX8_clearText_0 : decode cX8_clearText 0 = .ok (.aload_n 0, 1) := by decide +kernel
theorem dX8_clearText_1 : decode cX8_clearText 1 = .ok (.iconst 0, 1) := by decide +kernel
theorem dX8_clearText_2 : decode cX8_clearText 2 = .ok (.putfield 43, 3) := by decide +kernel
theorem dX8_clearText_5 : decode cX8_clearText 5 = .ok (.aload_n 0, 1) := by decide +kernel
theorem dX8_clearText_6 : decode cX8_clearText 6 = .ok (.getfield 160, 3) := by decide +kernel
theorem dX8_clearText_9 : decode cX8_clearText 9 = .ok (.istore_n 1, 1) := by decide +kernel
theorem dX8_clearText_10 : decode cX8_clearText 10 = .ok (.aload_n 0, 1) := by decide +kernel
theorem dX8_clearText_11 : decode cX8_clearText 11 = .ok (.iconst 0, 1) := by decide +kernel
theorem dX8_clearText_12 : decode cX8_clearText 12 = .ok (.putfield 160, 3) := by decide +kernel
theorem dX8_clearText_15 : decode cX8_clearText 15 = .ok (.iload_n 1, 1) := by decide +kernel
theorem dX8_clearText_16 : decode cX8_clearText 16 = .ok (.ireturn, 1) := by decide +kernel
set_option maxRecDepth 20000 in
theorem ggX8_figures_X8_in : GoodIn wsX8_figures wsX8_in := goodIn_r _ [8] (by decide +kernel) (by decide +kernel)
set_option maxRecDepth 20000 in
theorem gX8_figures_X8_in : GoodIn wsX8_figures (va_wsS RX8 51 yX8_in wsX8_in) := goodIn_app (goodIn_of _ (by decide +kernel)) ggX8_figures_X8_in
theorem dX8_figures_0 : decode cX8_figures 0 = .ok (.iconst 0, 1) := by decide +kernel
theorem dX8_figures_1 : decode cX8_figures 1 = .ok (.istore 4, 2) := by decide +kernel
theorem dX8_figures_3 : decode cX8_figures 3 = .ok (.iload_n 1, 1) := by decide +kernel
theorem dX8_figures_4 : decode cX8_figures 4 = .ok (.iconst 2, 1) := by decide +kernel
theorem dX8_figures_5 : decode cX8_figures 5 = .ok (.if_icmp .ne 8, 3) := by decide +kernel
theorem dX8_figures_8 : decode cX8_figures 8 = .ok (.bipush 10, 2) := by decide +kernel
theorem dX8_figures_10 : decode cX8_figures 10 = .ok (.goto 4, 3) := by decide +kernel
theorem dX8_figures_13 : decode cX8_figures 13 = .ok (.iconst 1, 1) := by decide +kernel
theorem dX8_figures_14 : decode cX8_figures 14 = .ok (.istore 5, 2) := by decide +kernel
theorem dX8_figures_16 : decode cX8_figures 16 = .ok (.iload 5, 2) := by decide +kernel
theorem dX8_figures_18 : decode cX8_figures 18 = .ok (.ifCond .le 98, 3) := by decide +kernel
theorem dX8_figures_21 : decode cX8_figures 21 = .ok (.aload_n 0, 1) := by decide +kernel
theorem dX8_figures_22 : decode cX8_figures 22 = .ok (.getfield 167, 3) := by decide +kernel
theorem dX8_figures_25 : decode cX8_figures 25 = .ok (.aload_n 0, 1) := by decide +kernel
theorem dX8_figures_26 : decode cX8_figures 26 = .ok (.getfield 160, 3) := by decide +kernel
theorem dX8_figures_29 : decode cX8_figures 29 = .ok (.if_icmp .ge 18, 3) := by decide +kernel
theorem dX8_figures_32 : decode cX8_figures 32 = .ok (.aload_n 0, 1) := by decide +kernel
theorem dX8_figures_33 : decode cX8_figures 33 = .ok (.getfield 7, 3) := by decide +kernel
theorem dX8_figures_36 : decode cX8_figures 36 = .ok (.aload_n 0, 1) := by decide +kernel
theorem dX8_figures_37 : decode cX8_figures 37 = .ok (.getfield 167, 3) := by decide +kernel
theorem dX8_figures_40 : decode cX8_figures 40 = .ok (.iaload, 1) := by decide +kernel
theorem dX8_figures_41 : decode cX8_figures 41 = .ok (.bipush 48, 2) := by decide +kernel
theorem dX8_figures_43 : decode cX8_figures 43 = .ok (.isub, 1) := by decide +kernel
theorem dX8_figures_44 : decode cX8_figures 44 = .ok (.goto 4, 3) := by decide +kernel
theorem dX8_figures_47 : decode cX8_figures 47 = .ok (.iconst (-1), 1) := by decide +kernel
theorem dX8_figures_48 : decode cX8_figures 48 = .ok (.istore 6, 2) := by decide +kernel
theorem dX8_figures_50 : decode cX8_figures 50 = .ok (.iload 4, 2) := by decide +kernel
theorem dX8_figures_52 : decode cX8_figures 52 = .ok (.iload 6, 2) := by decide +kernel
theorem dX8_figures_54 : decode cX8_figures 54 = .ok (.iload 5, 2) := by decide +kernel
theorem dX8_figures_56 : decode cX8_figures 56 = .ok (.imul, 1) := by decide +kernel
theorem dX8_figures_57 : decode cX8_figures 57 = .ok (.iadd, 1) := by decide +kernel
theorem dX8_figures_58 : decode cX8_figures 58 = .ok (.istore 7, 2) := by decide +kernel
theorem dX8_figures_60 : decode cX8_figures 60 = .ok (.iload 6, 2) := by decide +kernel
theorem dX8_figures_62 : decode cX8_figures 62 = .ok (.i2l, 1) := by decide +kernel
theorem dX8_figures_63 : decode cX8_figures 63 = .ok (.lconst 0, 1) := by decide +kernel
theorem dX8_figures_64 : decode cX8_figures 64 = .ok (.ldc2_w 170, 3) := by decide +kernel
theorem dX8_figures_67 : decode cX8_figures 67 = .ok (.invokestatic 51, 3) := by decide +kernel
theorem dX8_figures_70 : decode cX8_figures 70 = .ok (.ifCond .eq 20, 3) := by decide +kernel
theorem dX8_figures_73 : decode cX8_figures 73 = .ok (.iload 7, 2) := by decide +kernel
theorem dX8_figures_75 : decode cX8_figures 75 = .ok (.iload_n 3, 1) := by decide +kernel
theorem dX8_figures_76 : decode cX8_figures 76 = .ok (.if_icmp .gt 14, 3) := by decide +kernel
theorem dX8_figures_79 : decode cX8_figures 79 = .ok (.iload 7, 2) := by decide +kernel
theorem dX8_figures_81 : decode cX8_figures 81 = .ok (.iload 5, 2) := by decide +kernel
theorem dX8_figures_83 : decode cX8_figures 83 = .ok (.iadd, 1) := by decide +kernel
theorem dX8_figures_84 : decode cX8_figures 84 = .ok (.iconst 1, 1) := by decide +kernel
theorem dX8_figures_85 : decode cX8_figures 85 = .ok (.isub, 1) := by decide +kernel
theorem dX8_figures_86 : decode cX8_figures 86 = .ok (.iload_n 2, 1) := by decide +kernel
theorem dX8_figures_87 : decode cX8_figures 87 = .ok (.if_icmp .ge 5, 3) := by decide +kernel
theorem dX8_figures_90 : decode cX8_figures 90 = .ok (.iconst (-1), 1) := by decide +kernel
theorem dX8_figures_91 : decode cX8_figures 91 = .ok (.ireturn, 1) := by decide +kernel
theorem dX8_figures_92 : decode cX8_figures 92 = .ok (.iload 7, 2) := by decide +kernel
theorem dX8_figures_94 : decode cX8_figures 94 = .ok (.istore 4, 2) := by decide +kernel
theorem dX8_figures_96 : decode cX8_figures 96 = .ok (.aload_n 0, 1) := by decide +kernel
theorem dX8_figures_97 : decode cX8_figures 97 = .ok (.dup, 1) := by decide +kernel
theorem dX8_figures_98 : decode cX8_figures 98 = .ok (.getfield 167, 3) := by decide +kernel
theorem dX8_figures_101 : decode cX8_figures 101 = .ok (.iconst 1, 1) := by decide +kernel
theorem dX8_figures_102 : decode cX8_figures 102 = .ok (.iadd, 1) := by decide +kernel
theorem dX8_figures_103 : decode cX8_figures 103 = .ok (.putfield 167, 3) := by decide +kernel
theorem dX8_figures_106 : decode cX8_figures 106 = .ok (.iload 5, 2) := by decide +kernel
theorem dX8_figures_108 : decode cX8_figures 108 = .ok (.bipush 10, 2) := by decide +kernel
theorem dX8_figures_110 : decode cX8_figures 110 = .ok (.idiv, 1) := by decide +kernel
theorem dX8_figures_111 : decode cX8_figures 111 = .ok (.istore 5, 2) := by decide +kernel
theorem dX8_figures_113 : decode cX8_figures 113 = .ok (.goto (-97), 3) := by decide +kernel
theorem dX8_figures_116 : decode cX8_figures 116 = .ok (.iload 4, 2) := by decide +kernel
theorem dX8_figures_118 : decode cX8_figures 118 = .ok (.ireturn, 1) := by decide +kernel
set_option maxRecDepth 20000 in
theorem ggX8_readMove_X8_moves : GoodIn wsX8_readMove wsX8_moves := goodIn_r _ [7] (by decide +kernel) (by decide +kernel)
set_option maxRecDepth 20000 in
theorem gX8_readMove_X8_moves : GoodIn wsX8_readMove (va_wsS RX8 55 yX8_moves wsX8_moves) := goodIn_app (goodIn_of _ (by decide +kernel)) ggX8_readMove_X8_moves
set_option maxRecDepth 20000 in
theorem ggX8_readMove_X8_passOn : GoodIn wsX8_readMove wsX8_passOn := goodIn_r _ [10, 11, 12, 6, 13, 4, 5, 7, 14, 15, 16] (by decide +kernel) (by decide +kernel)
set_option maxRecDepth 20000 in
theorem gX8_readMove_X8_passOn : GoodIn wsX8_readMove (va_wsS RX8 175 yX8_passOn wsX8_passOn) := goodIn_app (goodIn_of _ (by decide +kernel)) ggX8_readMove_X8_passOn
set_option maxRecDepth 20000 in
theorem ggX8_readMove_X8_figures : GoodIn wsX8_readMove wsX8_figures := goodIn_r _ [20, 2, 21, 1, 22, 23, 24, 6, 25, 79, 80, 81, 82, 83, 84, 85, 86, 87, 88, 89, 90, 91, 92, 93, 94, 95, 96, 97] (by decide +kernel) (by decide +kernel)
set_option maxRecDepth 20000 in
theorem gX8_readMove_X8_figures : GoodIn wsX8_readMove (wsV RX8 178 RX8 yX8_figures wsX8_figures) := goodIn_app (goodIn_of _ (by decide +kernel)) ggX8_readMove_X8_figures
set_option maxRecDepth 20000 in
theorem ggX8_readMove_X8_isPoint : GoodIn wsX8_readMove wsX8_isPoint := goodIn_r _ [28, 29, 30, 6, 31, 23, 24, 25] (by decide +kernel) (by decide +kernel)
set_option maxRecDepth 20000 in
theorem gX8_readMove_X8_isPoint : GoodIn wsX8_readMove (va_wsS RX8 182 yX8_isPoint wsX8_isPoint) := goodIn_app (goodIn_of _ (by decide +kernel)) ggX8_readMove_X8_isPoint
set_option maxRecDepth 20000 in
theorem ggX8_readMove_X8_whyNot : GoodIn wsX8_readMove wsX8_whyNot := goodIn_r _ [35, 36, 37, 38, 39, 6, 40, 11, 12, 13, 4, 5, 7, 41, 42, 43, 44, 45, 46, 47, 48, 49, 50, 51, 52, 53, 54, 55, 56, 57, 58, 59, 60, 61, 62, 63, 64, 65, 66, 67, 68, 69, 70, 71, 72, 73, 74, 79, 80, 81, 82, 83, 84, 85, 86, 87, 88, 89, 90, 91, 92, 93, 94, 95, 96, 97] (by decide +kernel) (by decide +kernel)
set_option maxRecDepth 20000 in
theorem gX8_readMove_X8_whyNot : GoodIn wsX8_readMove (wsV RX8 186 RX8 yX8_whyNot wsX8_whyNot) := goodIn_app (goodIn_of _ (by decide +kernel)) ggX8_readMove_X8_whyNot
set_option maxRecDepth 20000 in
theorem ggX8_readMove_X8_playOn : GoodIn wsX8_readMove wsX8_playOn := goodIn_r _ [78, 48, 36, 37, 38, 39, 6, 40, 14, 15, 16, 4, 5, 7, 79, 80, 81, 82, 83, 84, 85, 86, 87, 88, 89, 90, 91, 92, 93, 94, 95, 96, 97] (by decide +kernel) (by decide +kernel)
set_option maxRecDepth 20000 in
theorem gX8_readMove_X8_playOn : GoodIn wsX8_readMove (wsV RX8 190 RX8 yX8_playOn wsX8_playOn) := goodIn_app (goodIn_of _ (by decide +kernel)) ggX8_readMove_X8_playOn
theorem dX8_readMove_0 : decode cX8_readMove 0 = .ok (.aload_n 1, 1) := by decide +kernel
theorem dX8_readMove_1 : decode cX8_readMove 1 = .ok (.invokestatic 55, 3) := by decide +kernel
theorem dX8_readMove_4 : decode cX8_readMove 4 = .ok (.bipush 120, 2) := by decide +kernel
theorem dX8_readMove_6 : decode cX8_readMove 6 = .ok (.if_icmp .ge 7, 3) := by decide +kernel
theorem dX8_readMove_9 : decode cX8_readMove 9 = .ok (.iconst 1, 1) := by decide +kernel
theorem dX8_readMove_10 : decode cX8_readMove 10 = .ok (.goto 4, 3) := by decide +kernel
theorem dX8_readMove_13 : decode cX8_readMove 13 = .ok (.iconst 0, 1) := by decide +kernel
theorem dX8_readMove_14 : decode cX8_readMove 14 = .ok (.istore_n 2, 1) := by decide +kernel
theorem dX8_readMove_15 : decode cX8_readMove 15 = .ok (.aload_n 0, 1) := by decide +kernel
theorem dX8_readMove_16 : decode cX8_readMove 16 = .ok (.getfield 7, 3) := by decide +kernel
theorem dX8_readMove_19 : decode cX8_readMove 19 = .ok (.aload_n 0, 1) := by decide +kernel
theorem dX8_readMove_20 : decode cX8_readMove 20 = .ok (.getfield 167, 3) := by decide +kernel
theorem dX8_readMove_23 : decode cX8_readMove 23 = .ok (.iaload, 1) := by decide +kernel
theorem dX8_readMove_24 : decode cX8_readMove 24 = .ok (.bipush 112, 2) := by decide +kernel
theorem dX8_readMove_26 : decode cX8_readMove 26 = .ok (.if_icmp .ne 42, 3) := by decide +kernel
theorem dX8_readMove_29 : decode cX8_readMove 29 = .ok (.aload_n 0, 1) := by decide +kernel
theorem dX8_readMove_30 : decode cX8_readMove 30 = .ok (.dup, 1) := by decide +kernel
theorem dX8_readMove_31 : decode cX8_readMove 31 = .ok (.getfield 167, 3) := by decide +kernel
theorem dX8_readMove_34 : decode cX8_readMove 34 = .ok (.iconst 1, 1) := by decide +kernel
theorem dX8_readMove_35 : decode cX8_readMove 35 = .ok (.iadd, 1) := by decide +kernel
theorem dX8_readMove_36 : decode cX8_readMove 36 = .ok (.putfield 167, 3) := by decide +kernel
theorem dX8_readMove_39 : decode cX8_readMove 39 = .ok (.aload_n 0, 1) := by decide +kernel
theorem dX8_readMove_40 : decode cX8_readMove 40 = .ok (.dup, 1) := by decide +kernel
theorem dX8_readMove_41 : decode cX8_readMove 41 = .ok (.getfield 172, 3) := by decide +kernel
theorem dX8_readMove_44 : decode cX8_readMove 44 = .ok (.iload_n 2, 1) := by decide +kernel
theorem dX8_readMove_45 : decode cX8_readMove 45 = .ok (.ifCond .eq 7, 3) := by decide +kernel
theorem dX8_readMove_48 : decode cX8_readMove 48 = .ok (.iconst 0, 1) := by decide +kernel
theorem dX8_readMove_49 : decode cX8_readMove 49 = .ok (.goto 4, 3) := by decide +kernel
theorem dX8_readMove_52 : decode cX8_readMove 52 = .ok (.iconst 1, 1) := by decide +kernel
theorem dX8_readMove_53 : decode cX8_readMove 53 = .ok (.iadd, 1) := by decide +kernel
theorem dX8_readMove_54 : decode cX8_readMove 54 = .ok (.putfield 172, 3) := by decide +kernel
theorem dX8_readMove_57 : decode cX8_readMove 57 = .ok (.iload_n 2, 1) := by decide +kernel
theorem dX8_readMove_58 : decode cX8_readMove 58 = .ok (.ifCond .eq 8, 3) := by decide +kernel
theorem dX8_readMove_61 : decode cX8_readMove 61 = .ok (.aload_n 1, 1) := by decide +kernel
theorem dX8_readMove_62 : decode cX8_readMove 62 = .ok (.invokestatic 175, 3) := by decide +kernel
theorem dX8_readMove_65 : decode cX8_readMove 65 = .ok (.pop, 1) := by decide +kernel
theorem dX8_readMove_66 : decode cX8_readMove 66 = .ok (.iconst 1, 1) := by decide +kernel
theorem dX8_readMove_67 : decode cX8_readMove 67 = .ok (.ireturn, 1) := by decide +kernel
theorem dX8_readMove_68 : decode cX8_readMove 68 = .ok (.aload_n 0, 1) := by decide +kernel
theorem dX8_readMove_69 : decode cX8_readMove 69 = .ok (.iconst 2, 1) := by decide +kernel
theorem dX8_readMove_70 : decode cX8_readMove 70 = .ok (.iconst 0, 1) := by decide +kernel
theorem dX8_readMove_71 : decode cX8_readMove 71 = .ok (.bipush 48, 2) := by decide +kernel
theorem dX8_readMove_73 : decode cX8_readMove 73 = .ok (.invokevirtual 178, 3) := by decide +kernel
theorem dX8_readMove_76 : decode cX8_readMove 76 = .ok (.istore_n 3, 1) := by decide +kernel
theorem dX8_readMove_77 : decode cX8_readMove 77 = .ok (.iload_n 3, 1) := by decide +kernel
theorem dX8_readMove_78 : decode cX8_readMove 78 = .ok (.iconst (-1), 1) := by decide +kernel
theorem dX8_readMove_79 : decode cX8_readMove 79 = .ok (.if_icmp .ne 5, 3) := by decide +kernel
theorem dX8_readMove_82 : decode cX8_readMove 82 = .ok (.iconst 0, 1) := by decide +kernel
theorem dX8_readMove_83 : decode cX8_readMove 83 = .ok (.ireturn, 1) := by decide +kernel
theorem dX8_readMove_84 : decode cX8_readMove 84 = .ok (.aload_n 1, 1) := by decide +kernel
theorem dX8_readMove_85 : decode cX8_readMove 85 = .ok (.iload_n 3, 1) := by decide +kernel
theorem dX8_readMove_86 : decode cX8_readMove 86 = .ok (.invokestatic 182, 3) := by decide +kernel
theorem dX8_readMove_89 : decode cX8_readMove 89 = .ok (.ifCond .eq 16, 3) := by decide +kernel
theorem dX8_readMove_92 : decode cX8_readMove 92 = .ok (.aload_n 0, 1) := by decide +kernel
theorem dX8_readMove_93 : decode cX8_readMove 93 = .ok (.aload_n 1, 1) := by decide +kernel
theorem dX8_readMove_94 : decode cX8_readMove 94 = .ok (.iload_n 3, 1) := by decide +kernel
theorem dX8_readMove_95 : decode cX8_readMove 95 = .ok (.invokevirtual 186, 3) := by decide +kernel
theorem dX8_readMove_98 : decode cX8_readMove 98 = .ok (.ifCond .ne 7, 3) := by decide +kernel
theorem dX8_readMove_101 : decode cX8_readMove 101 = .ok (.iconst 1, 1) := by decide +kernel
theorem dX8_readMove_102 : decode cX8_readMove 102 = .ok (.goto 4, 3) := by decide +kernel
theorem dX8_readMove_105 : decode cX8_readMove 105 = .ok (.iconst 0, 1) := by decide +kernel
theorem dX8_readMove_106 : decode cX8_readMove 106 = .ok (.istore_n 2, 1) := by decide +kernel
theorem dX8_readMove_107 : decode cX8_readMove 107 = .ok (.aload_n 0, 1) := by decide +kernel
theorem dX8_readMove_108 : decode cX8_readMove 108 = .ok (.dup, 1) := by decide +kernel
theorem dX8_readMove_109 : decode cX8_readMove 109 = .ok (.getfield 172, 3) := by decide +kernel
theorem dX8_readMove_112 : decode cX8_readMove 112 = .ok (.iload_n 2, 1) := by decide +kernel
theorem dX8_readMove_113 : decode cX8_readMove 113 = .ok (.ifCond .eq 7, 3) := by decide +kernel
theorem dX8_readMove_116 : decode cX8_readMove 116 = .ok (.iconst 0, 1) := by decide +kernel
theorem dX8_readMove_117 : decode cX8_readMove 117 = .ok (.goto 4, 3) := by decide +kernel
theorem dX8_readMove_120 : decode cX8_readMove 120 = .ok (.iconst 1, 1) := by decide +kernel
theorem dX8_readMove_121 : decode cX8_readMove 121 = .ok (.iadd, 1) := by decide +kernel
theorem dX8_readMove_122 : decode cX8_readMove 122 = .ok (.putfield 172, 3) := by decide +kernel
theorem dX8_readMove_125 : decode cX8_readMove 125 = .ok (.iload_n 2, 1) := by decide +kernel
theorem dX8_readMove_126 : decode cX8_readMove 126 = .ok (.ifCond .eq 9, 3) := by decide +kernel
theorem dX8_readMove_129 : decode cX8_readMove 129 = .ok (.aload_n 0, 1) := by decide +kernel
theorem dX8_readMove_130 : decode cX8_readMove 130 = .ok (.aload_n 1, 1) := by decide +kernel
theorem dX8_readMove_131 : decode cX8_readMove 131 = .ok (.invokevirtual 190, 3) := by decide +kernel
theorem dX8_readMove_134 : decode cX8_readMove 134 = .ok (.pop, 1) := by decide +kernel
theorem dX8_readMove_135 : decode cX8_readMove 135 = .ok (.iconst 1, 1) := by decide +kernel
theorem dX8_readMove_136 : decode cX8_readMove 136 = .ok (.ireturn, 1) := by decide +kernel
set_option maxRecDepth 20000 in
theorem ggX8_readText_X8_figures : GoodIn wsX8_readText wsX8_figures := goodIn_r _ [9, 2, 3, 4, 10, 11, 12, 8, 13, 86, 87, 88, 89, 90, 91, 92, 93, 94, 95, 96, 97, 98, 99, 100, 101, 102, 103, 104] (by decide +kernel) (by decide +kernel)
set_option maxRecDepth 20000 in
theorem gX8_readText_X8_figures : GoodIn wsX8_readText (wsV RX8 178 RX8 yX8_figures wsX8_figures) := goodIn_app (goodIn_of _ (by decide +kernel)) ggX8_readText_X8_figures
set_option maxRecDepth 20000 in
theorem ggX8_readText_X8_clear : GoodIn wsX8_readText wsX8_clear := goodIn_r _ [16] (by decide +kernel) (by decide +kernel)
set_option maxRecDepth 20000 in
theorem gX8_readText_X8_clear : GoodIn wsX8_readText (va_wsS RX8 39 yX8_clear wsX8_clear) := goodIn_app (goodIn_of _ (by decide +kernel)) ggX8_readText_X8_clear
set_option maxRecDepth 20000 in
theorem ggX8_readText_X8_readMove : GoodIn wsX8_readText wsX8_readMove := goodIn_r _ [20, 4, 2, 1, 21, 22, 8, 23, 24, 25, 26, 27, 28, 29, 30, 31, 32, 5, 6, 7, 9, 3, 10, 11, 12, 13, 33, 34, 35, 36, 37, 38, 39, 40, 41, 42, 43, 44, 45, 46, 47, 48, 49, 50, 51, 52, 53, 54, 55, 56, 57, 58, 59, 60, 61, 62, 63, 64, 65, 66, 67, 68, 69, 70, 71, 72, 73, 74, 75, 76, 77, 78, 79, 80, 81, 82, 83, 84, 85, 86, 87, 88, 89, 90, 91, 92, 93, 94, 95, 96, 97, 98, 99, 100, 101, 102, 103, 104] (by decide +kernel) (by decide +kernel)
set_option maxRecDepth 20000 in
theorem gX8_readText_X8_readMove : GoodIn wsX8_readText (wsV RX8 193 RX8 yX8_readMove wsX8_readMove) := goodIn_app (goodIn_of _ (by decide +kernel)) ggX8_readText_X8_readMove
theorem dX8_readText_0 : decode cX8_readText 0 = .ok (.aload_n 0, 1) := by decide +kernel
theorem dX8_readText_1 : decode cX8_readText 1 = .ok (.iconst 0, 1) := by decide +kernel
theorem dX8_readText_2 : decode cX8_readText 2 = .ok (.putfield 172, 3) := by decide +kernel
theorem dX8_readText_5 : decode cX8_readText 5 = .ok (.aload_n 0, 1) := by decide +kernel
theorem dX8_readText_6 : decode cX8_readText 6 = .ok (.iconst 0, 1) := by decide +kernel
theorem dX8_readText_7 : decode cX8_readText 7 = .ok (.putfield 167, 3) := by decide +kernel
theorem dX8_readText_10 : decode cX8_readText 10 = .ok (.aload_n 0, 1) := by decide +kernel
theorem dX8_readText_11 : decode cX8_readText 11 = .ok (.getfield 160, 3) := by decide +kernel
theorem dX8_readText_14 : decode cX8_readText 14 = .ok (.ifCond .eq 14, 3) := by decide +kernel
theorem dX8_readText_17 : decode cX8_readText 17 = .ok (.aload_n 0, 1) := by decide +kernel
theorem dX8_readText_18 : decode cX8_readText 18 = .ok (.getfield 7, 3) := by decide +kernel
theorem dX8_readText_21 : decode cX8_readText 21 = .ok (.iconst 0, 1) := by decide +kernel
theorem dX8_readText_22 : decode cX8_readText 22 = .ok (.iaload, 1) := by decide +kernel
theorem dX8_readText_23 : decode cX8_readText 23 = .ok (.bipush 66, 2) := by decide +kernel
theorem dX8_readText_25 : decode cX8_readText 25 = .ok (.if_icmp .eq 5, 3) := by decide +kernel
theorem dX8_readText_28 : decode cX8_readText 28 = .ok (.iconst 0, 1) := by decide +kernel
theorem dX8_readText_29 : decode cX8_readText 29 = .ok (.ireturn, 1) := by decide +kernel
theorem dX8_readText_30 : decode cX8_readText 30 = .ok (.aload_n 0, 1) := by decide +kernel
theorem dX8_readText_31 : decode cX8_readText 31 = .ok (.iconst 1, 1) := by decide +kernel
theorem dX8_readText_32 : decode cX8_readText 32 = .ok (.putfield 167, 3) := by decide +kernel
theorem dX8_readText_35 : decode cX8_readText 35 = .ok (.aload_n 0, 1) := by decide +kernel
theorem dX8_readText_36 : decode cX8_readText 36 = .ok (.iconst 1, 1) := by decide +kernel
theorem dX8_readText_37 : decode cX8_readText 37 = .ok (.iconst 3, 1) := by decide +kernel
theorem dX8_readText_38 : decode cX8_readText 38 = .ok (.bipush 7, 2) := by decide +kernel
theorem dX8_readText_40 : decode cX8_readText 40 = .ok (.invokevirtual 178, 3) := by decide +kernel
theorem dX8_readText_43 : decode cX8_readText 43 = .ok (.istore_n 2, 1) := by decide +kernel
theorem dX8_readText_44 : decode cX8_readText 44 = .ok (.iload_n 2, 1) := by decide +kernel
theorem dX8_readText_45 : decode cX8_readText 45 = .ok (.iconst (-1), 1) := by decide +kernel
theorem dX8_readText_46 : decode cX8_readText 46 = .ok (.if_icmp .ne 8, 3) := by decide +kernel
theorem dX8_readText_49 : decode cX8_readText 49 = .ok (.aload_n 0, 1) := by decide +kernel
theorem dX8_readText_50 : decode cX8_readText 50 = .ok (.getfield 167, 3) := by decide +kernel
theorem dX8_readText_53 : decode cX8_readText 53 = .ok (.ireturn, 1) := by decide +kernel
theorem dX8_readText_54 : decode cX8_readText 54 = .ok (.aload_n 1, 1) := by decide +kernel
theorem dX8_readText_55 : decode cX8_readText 55 = .ok (.iload_n 2, 1) := by decide +kernel
theorem dX8_readText_56 : decode cX8_readText 56 = .ok (.invokestatic 39, 3) := by decide +kernel
theorem dX8_readText_59 : decode cX8_readText 59 = .ok (.aload_n 1, 1) := by decide +kernel
theorem dX8_readText_60 : decode cX8_readText 60 = .ok (.iconst 1, 1) := by decide +kernel
theorem dX8_readText_61 : decode cX8_readText 61 = .ok (.aload_n 0, 1) := by decide +kernel
theorem dX8_readText_62 : decode cX8_readText 62 = .ok (.getfield 167, 3) := by decide +kernel
theorem dX8_readText_65 : decode cX8_readText 65 = .ok (.aload_n 0, 1) := by decide +kernel
theorem dX8_readText_66 : decode cX8_readText 66 = .ok (.getfield 160, 3) := by decide +kernel
theorem dX8_readText_69 : decode cX8_readText 69 = .ok (.if_icmp .ge 21, 3) := by decide +kernel
theorem dX8_readText_72 : decode cX8_readText 72 = .ok (.aload_n 0, 1) := by decide +kernel
theorem dX8_readText_73 : decode cX8_readText 73 = .ok (.getfield 7, 3) := by decide +kernel
theorem dX8_readText_76 : decode cX8_readText 76 = .ok (.aload_n 0, 1) := by decide +kernel
theorem dX8_readText_77 : decode cX8_readText 77 = .ok (.getfield 167, 3) := by decide +kernel
theorem dX8_readText_80 : decode cX8_readText 80 = .ok (.iaload, 1) := by decide +kernel
theorem dX8_readText_81 : decode cX8_readText 81 = .ok (.bipush 115, 2) := by decide +kernel
theorem dX8_readText_83 : decode cX8_readText 83 = .ok (.if_icmp .ne 7, 3) := by decide +kernel
theorem dX8_readText_86 : decode cX8_readText 86 = .ok (.lconst 1, 1) := by decide +kernel
theorem dX8_readText_87 : decode cX8_readText 87 = .ok (.goto 4, 3) := by decide +kernel
theorem dX8_readText_90 : decode cX8_readText 90 = .ok (.lconst 0, 1) := by decide +kernel
theorem dX8_readText_91 : decode cX8_readText 91 = .ok (.lastore, 1) := by decide +kernel
theorem dX8_readText_92 : decode cX8_readText 92 = .ok (.aload_n 0, 1) := by decide +kernel
theorem dX8_readText_93 : decode cX8_readText 93 = .ok (.dup, 1) := by decide +kernel
theorem dX8_readText_94 : decode cX8_readText 94 = .ok (.getfield 167, 3) := by decide +kernel
theorem dX8_readText_97 : decode cX8_readText 97 = .ok (.aload_n 1, 1) := by decide +kernel
theorem dX8_readText_98 : decode cX8_readText 98 = .ok (.iconst 1, 1) := by decide +kernel
theorem dX8_readText_99 : decode cX8_readText 99 = .ok (.laload, 1) := by decide +kernel
theorem dX8_readText_100 : decode cX8_readText 100 = .ok (.l2i, 1) := by decide +kernel
theorem dX8_readText_101 : decode cX8_readText 101 = .ok (.iadd, 1) := by decide +kernel
theorem dX8_readText_102 : decode cX8_readText 102 = .ok (.putfield 167, 3) := by decide +kernel
theorem dX8_readText_105 : decode cX8_readText 105 = .ok (.aload_n 0, 1) := by decide +kernel
theorem dX8_readText_106 : decode cX8_readText 106 = .ok (.getfield 167, 3) := by decide +kernel
theorem dX8_readText_109 : decode cX8_readText 109 = .ok (.aload_n 0, 1) := by decide +kernel
theorem dX8_readText_110 : decode cX8_readText 110 = .ok (.getfield 160, 3) := by decide +kernel
theorem dX8_readText_113 : decode cX8_readText 113 = .ok (.if_icmp .ge 16, 3) := by decide +kernel
theorem dX8_readText_116 : decode cX8_readText 116 = .ok (.aload_n 0, 1) := by decide +kernel
theorem dX8_readText_117 : decode cX8_readText 117 = .ok (.aload_n 1, 1) := by decide +kernel
theorem dX8_readText_118 : decode cX8_readText 118 = .ok (.invokevirtual 193, 3) := by decide +kernel
theorem dX8_readText_121 : decode cX8_readText 121 = .ok (.ifCond .ne (-16), 3) := by decide +kernel
theorem dX8_readText_124 : decode cX8_readText 124 = .ok (.aload_n 0, 1) := by decide +kernel
theorem dX8_readText_125 : decode cX8_readText 125 = .ok (.getfield 167, 3) := by decide +kernel
theorem dX8_readText_128 : decode cX8_readText 128 = .ok (.ireturn, 1) := by decide +kernel
theorem dX8_readText_129 : decode cX8_readText 129 = .ok (.iconst (-1), 1) := by decide +kernel
theorem dX8_readText_130 : decode cX8_readText 130 = .ok (.ireturn, 1) := by decide +kernel
set_option maxRecDepth 20000 in
theorem ggX8_errorPosition_X8_readText : GoodIn wsX8_errorPosition wsX8_readText := goodIn_r _ [7, 8, 9, 10, 11, 12, 13, 14, 6, 15, 16, 17, 18, 19, 20, 21, 22, 23, 24, 25, 26, 27, 28, 29, 30, 31, 32, 33, 34, 35, 36, 37, 38, 39, 40, 41, 42, 43, 44, 45, 46, 47, 48, 49, 50, 51, 52, 53, 54, 55, 56, 57, 58, 59, 60, 61, 62, 63, 64, 65, 66, 67, 68, 69, 70, 71, 72, 73, 74, 75, 76, 77, 78, 79, 80, 81, 82, 83, 84, 85, 86, 87, 88, 89, 90, 91, 92, 93, 94, 95, 96, 97, 98, 99, 100, 101, 102, 103, 104, 105, 106, 107, 108, 109, 110] (by decide +kernel) (by decide +kernel)
set_option maxRecDepth 20000 in
theorem gX8_errorPosition_X8_readText : GoodIn wsX8_errorPosition (wsV RX8 197 RX8 yX8_readText wsX8_readText) := goodIn_app (goodIn_of _ (by decide +kernel)) ggX8_errorPosition_X8_readText
theorem dX8_errorPosition_0 : decode cX8_errorPosition 0 = .ok (.aload_n 0, 1) := by decide +kernel
theorem dX8_errorPosition_1 : decode cX8_errorPosition 1 = .ok (.iconst 0, 1) := by decide +kernel
theorem dX8_errorPosition_2 : decode cX8_errorPosition 2 = .ok (.putfield 43, 3) := by decide +kernel
theorem dX8_errorPosition_5 : decode cX8_errorPosition 5 = .ok (.aload_n 0, 1) := by decide +kernel
theorem dX8_errorPosition_6 : decode cX8_errorPosition 6 = .ok (.aload_n 0, 1) := by decide +kernel
theorem dX8_errorPosition_7 : decode cX8_errorPosition 7 = .ok (.getfield 17, 3) := by decide +kernel
theorem dX8_errorPosition_10 : decode cX8_errorPosition 10 = .ok (.invokevirtual 197, 3) := by decide +kernel
theorem dX8_errorPosition_13 : decode cX8_errorPosition 13 = .ok (.ireturn, 1) := by decide +kernel
set_option maxRecDepth 20000 in
theorem ggX8_load_X8_readText : GoodIn wsX8_load wsX8_readText := goodIn_r _ [10, 5, 11, 12, 13, 14, 15, 16, 9, 17, 18, 19, 20, 21, 22, 23, 24, 25, 26, 27, 28, 29, 30, 31, 32, 33, 34, 35, 36, 37, 38, 39, 40, 41, 42, 43, 44, 45, 46, 47, 48, 49, 50, 51, 52, 53, 54, 55, 56, 57, 58, 59, 60, 61, 62, 63, 64, 65, 66, 67, 68, 69, 70, 71, 72, 73, 74, 75, 76, 77, 78, 79, 80, 81, 82, 83, 84, 85, 86, 87, 88, 89, 90, 91, 92, 93, 102, 103, 104, 105, 106, 107, 108, 109, 110, 111, 112, 113, 114, 115, 116, 117, 118, 119, 120] (by decide +kernel) (by decide +kernel)
set_option maxRecDepth 20000 in
theorem gX8_load_X8_readText : GoodIn wsX8_load (wsV RX8 197 RX8 yX8_readText wsX8_readText) := goodIn_app (goodIn_of _ (by decide +kernel)) ggX8_load_X8_readText
set_option maxRecDepth 20000 in
theorem ggX8_load_X8_refused : GoodIn wsX8_load wsX8_refused := goodIn_r _ [97, 98, 102, 103, 104, 105, 106, 107, 108, 109, 110, 111, 112, 113, 114, 115, 116, 117, 118, 119, 120] (by decide +kernel) (by decide +kernel)
set_option maxRecDepth 20000 in
theorem gX8_load_X8_refused : GoodIn wsX8_load (wsV RX8 163 RX8 yX8_refused wsX8_refused) := goodIn_app (goodIn_of _ (by decide +kernel)) ggX8_load_X8_refused
set_option maxRecDepth 20000 in
theorem ggX8_load_X8_copyState : GoodIn wsX8_load wsX8_copyState := goodIn_r _ [101] (by decide +kernel) (by decide +kernel)
set_option maxRecDepth 20000 in
theorem gX8_load_X8_copyState : GoodIn wsX8_load (va_wsS RX8 200 yX8_copyState wsX8_copyState) := goodIn_app (goodIn_of _ (by decide +kernel)) ggX8_load_X8_copyState
theorem dX8_load_0 : decode cX8_load 0 = .ok (.aload_n 0, 1) := by decide +kernel
theorem dX8_load_1 : decode cX8_load 1 = .ok (.aload_n 0, 1) := by decide +kernel
theorem dX8_load_2 : decode cX8_load 2 = .ok (.aload_n 0, 1) := by decide +kernel
theorem dX8_load_3 : decode cX8_load 3 = .ok (.getfield 17, 3) := by decide +kernel
theorem dX8_load_6 : decode cX8_load 6 = .ok (.invokevirtual 197, 3) := by decide +kernel
theorem dX8_load_9 : decode cX8_load 9 = .ok (.iconst (-1), 1) := by decide +kernel
theorem dX8_load_10 : decode cX8_load 10 = .ok (.if_icmp .ne 7, 3) := by decide +kernel
theorem dX8_load_13 : decode cX8_load 13 = .ok (.iconst 0, 1) := by decide +kernel
theorem dX8_load_14 : decode cX8_load 14 = .ok (.goto 4, 3) := by decide +kernel
theorem dX8_load_17 : decode cX8_load 17 = .ok (.iconst 1, 1) := by decide +kernel
theorem dX8_load_18 : decode cX8_load 18 = .ok (.invokevirtual 163, 3) := by decide +kernel
theorem dX8_load_21 : decode cX8_load 21 = .ok (.ifCond .eq 5, 3) := by decide +kernel
theorem dX8_load_24 : decode cX8_load 24 = .ok (.iconst 0, 1) := by decide +kernel
theorem dX8_load_25 : decode cX8_load 25 = .ok (.ireturn, 1) := by decide +kernel
theorem dX8_load_26 : decode cX8_load 26 = .ok (.aload_n 0, 1) := by decide +kernel
theorem dX8_load_27 : decode cX8_load 27 = .ok (.getfield 17, 3) := by decide +kernel
theorem dX8_load_30 : decode cX8_load 30 = .ok (.iconst 0, 1) := by decide +kernel
theorem dX8_load_31 : decode cX8_load 31 = .ok (.aload_n 0, 1) := by decide +kernel
theorem dX8_load_32 : decode cX8_load 32 = .ok (.getfield 13, 3) := by decide +kernel
theorem dX8_load_35 : decode cX8_load 35 = .ok (.iconst 0, 1) := by decide +kernel
theorem dX8_load_36 : decode cX8_load 36 = .ok (.invokestatic 200, 3) := by decide +kernel
theorem dX8_load_39 : decode cX8_load 39 = .ok (.aload_n 0, 1) := by decide +kernel
theorem dX8_load_40 : decode cX8_load 40 = .ok (.iconst 0, 1) := by decide +kernel
theorem dX8_load_41 : decode cX8_load 41 = .ok (.putfield 204, 3) := by decide +kernel
theorem dX8_load_44 : decode cX8_load 44 = .ok (.aload_n 0, 1) := by decide +kernel
theorem dX8_load_45 : decode cX8_load 45 = .ok (.getfield 26, 3) := by decide +kernel
theorem dX8_load_48 : decode cX8_load 48 = .ok (.iconst 0, 1) := by decide +kernel
theorem dX8_load_49 : decode cX8_load 49 = .ok (.iconst 0, 1) := by decide +kernel
theorem dX8_load_50 : decode cX8_load 50 = .ok (.bastore, 1) := by decide +kernel
theorem dX8_load_51 : decode cX8_load 51 = .ok (.aload_n 0, 1) := by decide +kernel
theorem dX8_load_52 : decode cX8_load 52 = .ok (.getfield 26, 3) := by decide +kernel
theorem dX8_load_55 : decode cX8_load 55 = .ok (.iconst 1, 1) := by decide +kernel
theorem dX8_load_56 : decode cX8_load 56 = .ok (.iconst 0, 1) := by decide +kernel
theorem dX8_load_57 : decode cX8_load 57 = .ok (.bastore, 1) := by decide +kernel
theorem dX8_load_58 : decode cX8_load 58 = .ok (.aload_n 0, 1) := by decide +kernel
theorem dX8_load_59 : decode cX8_load 59 = .ok (.getfield 172, 3) := by decide +kernel
theorem dX8_load_62 : decode cX8_load 62 = .ok (.ireturn, 1) := by decide +kernel
set_option maxRecDepth 20000 in
theorem ggX8_about_X8_in : GoodIn wsX8_about wsX8_in := goodIn_r _ [7] (by decide +kernel) (by decide +kernel)
set_option maxRecDepth 20000 in
theorem gX8_about_X8_in : GoodIn wsX8_about (va_wsS RX8 51 yX8_in wsX8_in) := goodIn_app (goodIn_of _ (by decide +kernel)) ggX8_about_X8_in
set_option maxRecDepth 20000 in
theorem ggX8_about_X8_refused : GoodIn wsX8_about wsX8_refused := goodIn_r _ [11, 12, 53, 54, 55, 56, 57, 58, 59, 60, 61, 62, 63, 64, 65, 66, 67, 68, 69, 70, 71] (by decide +kernel) (by decide +kernel)
set_option maxRecDepth 20000 in
theorem gX8_about_X8_refused : GoodIn wsX8_about (wsV RX8 163 RX8 yX8_refused wsX8_refused) := goodIn_app (goodIn_of _ (by decide +kernel)) ggX8_about_X8_refused
set_option maxRecDepth 20000 in
theorem ggX8_about_X8_moves : GoodIn wsX8_about wsX8_moves := goodIn_r _ [15] (by decide +kernel) (by decide +kernel)
set_option maxRecDepth 20000 in
theorem gX8_about_X8_moves : GoodIn wsX8_about (va_wsS RX8 55 yX8_moves wsX8_moves) := goodIn_app (goodIn_of _ (by decide +kernel)) ggX8_about_X8_moves
set_option maxRecDepth 20000 in
theorem ggX8_about_X8_turnOf : GoodIn wsX8_about wsX8_turnOf := goodIn_r _ [18] (by decide +kernel) (by decide +kernel)
set_option maxRecDepth 20000 in
theorem gX8_about_X8_turnOf : GoodIn wsX8_about (va_wsS RX8 102 yX8_turnOf wsX8_turnOf) := goodIn_app (goodIn_of _ (by decide +kernel)) ggX8_about_X8_turnOf
set_option maxRecDepth 20000 in
theorem ggX8_about_X8_groupsOf : GoodIn wsX8_about wsX8_groupsOf := goodIn_r _ [21, 22, 23, 6, 24, 13, 14, 15, 25, 26, 27, 28, 29, 30, 31, 32, 33, 34, 35, 36, 37, 38, 39, 40, 41, 42, 43, 44, 45, 46, 47, 48, 49, 50, 51, 52] (by decide +kernel) (by decide +kernel)
set_option maxRecDepth 20000 in
theorem gX8_about_X8_groupsOf : GoodIn wsX8_about (va_wsS RX8 211 yX8_groupsOf wsX8_groupsOf) := goodIn_app (goodIn_of _ (by decide +kernel)) ggX8_about_X8_groupsOf
theorem dX8_about_0 : decode cX8_about 0 = .ok (.aload_n 0, 1) := by decide +kernel
theorem dX8_about_1 : decode cX8_about 1 = .ok (.iload_n 1, 1) := by decide +kernel
theorem dX8_about_2 : decode cX8_about 2 = .ok (.i2l, 1) := by decide +kernel
theorem dX8_about_3 : decode cX8_about 3 = .ok (.lconst 0, 1) := by decide +kernel
theorem dX8_about_4 : decode cX8_about 4 = .ok (.ldc2_w 207, 3) := by decide +kernel
theorem dX8_about_7 : decode cX8_about 7 = .ok (.invokestatic 51, 3) := by decide +kernel
theorem dX8_about_10 : decode cX8_about 10 = .ok (.ifCond .eq 7, 3) := by decide +kernel
theorem dX8_about_13 : decode cX8_about 13 = .ok (.iconst 0, 1) := by decide +kernel
theorem dX8_about_14 : decode cX8_about 14 = .ok (.goto 4, 3) := by decide +kernel
theorem dX8_about_17 : decode cX8_about 17 = .ok (.iconst 1, 1) := by decide +kernel
theorem dX8_about_18 : decode cX8_about 18 = .ok (.invokevirtual 163, 3) := by decide +kernel
theorem dX8_about_21 : decode cX8_about 21 = .ok (.ifCond .eq 5, 3) := by decide +kernel
theorem dX8_about_24 : decode cX8_about 24 = .ok (.iconst 0, 1) := by decide +kernel
theorem dX8_about_25 : decode cX8_about 25 = .ok (.ireturn, 1) := by decide +kernel
theorem dX8_about_26 : decode cX8_about 26 = .ok (.iload_n 1, 1) := by decide +kernel
theorem dX8_about_27 : decode cX8_about 27 = .ok (.tableswitch 133 0 6 #[41, 49, 57, 65, 73, 93, 113], 41) := by decide +kernel
theorem dX8_about_68 : decode cX8_about 68 = .ok (.aload_n 0, 1) := by decide +kernel
theorem dX8_about_69 : decode cX8_about 69 = .ok (.getfield 13, 3) := by decide +kernel
theorem dX8_about_72 : decode cX8_about 72 = .ok (.iconst 0, 1) := by decide +kernel
theorem dX8_about_73 : decode cX8_about 73 = .ok (.laload, 1) := by decide +kernel
theorem dX8_about_74 : decode cX8_about 74 = .ok (.l2i, 1) := by decide +kernel
theorem dX8_about_75 : decode cX8_about 75 = .ok (.ireturn, 1) := by decide +kernel
theorem dX8_about_76 : decode cX8_about 76 = .ok (.aload_n 0, 1) := by decide +kernel
theorem dX8_about_77 : decode cX8_about 77 = .ok (.getfield 13, 3) := by decide +kernel
theorem dX8_about_80 : decode cX8_about 80 = .ok (.invokestatic 55, 3) := by decide +kernel
theorem dX8_about_83 : decode cX8_about 83 = .ok (.ireturn, 1) := by decide +kernel
theorem dX8_about_84 : decode cX8_about 84 = .ok (.aload_n 0, 1) := by decide +kernel
theorem dX8_about_85 : decode cX8_about 85 = .ok (.getfield 13, 3) := by decide +kernel
theorem dX8_about_88 : decode cX8_about 88 = .ok (.invokestatic 102, 3) := by decide +kernel
theorem dX8_about_91 : decode cX8_about 91 = .ok (.ireturn, 1) := by decide +kernel
theorem dX8_about_92 : decode cX8_about 92 = .ok (.aload_n 0, 1) := by decide +kernel
theorem dX8_about_93 : decode cX8_about 93 = .ok (.getfield 13, 3) := by decide +kernel
theorem dX8_about_96 : decode cX8_about 96 = .ok (.iconst 4, 1) := by decide +kernel
theorem dX8_about_97 : decode cX8_about 97 = .ok (.laload, 1) := by decide +kernel
theorem dX8_about_98 : decode cX8_about 98 = .ok (.l2i, 1) := by decide +kernel
theorem dX8_about_99 : decode cX8_about 99 = .ok (.ireturn, 1) := by decide +kernel
theorem dX8_about_100 : decode cX8_about 100 = .ok (.aload_n 0, 1) := by decide +kernel
theorem dX8_about_101 : decode cX8_about 101 = .ok (.getfield 13, 3) := by decide +kernel
theorem dX8_about_104 : decode cX8_about 104 = .ok (.bipush 7, 2) := by decide +kernel
theorem dX8_about_106 : decode cX8_about 106 = .ok (.laload, 1) := by decide +kernel
theorem dX8_about_107 : decode cX8_about 107 = .ok (.ldc2_w 209, 3) := by decide +kernel
theorem dX8_about_110 : decode cX8_about 110 = .ok (.lcmp, 1) := by decide +kernel
theorem dX8_about_111 : decode cX8_about 111 = .ok (.ifCond .lt 7, 3) := by decide +kernel
theorem dX8_about_114 : decode cX8_about 114 = .ok (.iconst 1, 1) := by decide +kernel
theorem dX8_about_115 : decode cX8_about 115 = .ok (.goto 4, 3) := by decide +kernel
theorem dX8_about_118 : decode cX8_about 118 = .ok (.iconst 0, 1) := by decide +kernel
theorem dX8_about_119 : decode cX8_about 119 = .ok (.ireturn, 1) := by decide +kernel
theorem dX8_about_120 : decode cX8_about 120 = .ok (.aload_n 0, 1) := by decide +kernel
theorem dX8_about_121 : decode cX8_about 121 = .ok (.getfield 13, 3) := by decide +kernel
theorem dX8_about_124 : decode cX8_about 124 = .ok (.iconst 0, 1) := by decide +kernel
theorem dX8_about_125 : decode cX8_about 125 = .ok (.iconst 0, 1) := by decide +kernel
theorem dX8_about_126 : decode cX8_about 126 = .ok (.invokestatic 211, 3) := by decide +kernel
theorem dX8_about_129 : decode cX8_about 129 = .ok (.aload_n 0, 1) := by decide +kernel
theorem dX8_about_130 : decode cX8_about 130 = .ok (.getfield 13, 3) := by decide +kernel
theorem dX8_about_133 : decode cX8_about 133 = .ok (.iconst 1, 1) := by decide +kernel
theorem dX8_about_134 : decode cX8_about 134 = .ok (.iconst 0, 1) := by decide +kernel
theorem dX8_about_135 : decode cX8_about 135 = .ok (.invokestatic 211, 3) := by decide +kernel
theorem dX8_about_138 : decode cX8_about 138 = .ok (.iadd, 1) := by decide +kernel
theorem dX8_about_139 : decode cX8_about 139 = .ok (.ireturn, 1) := by decide +kernel
theorem dX8_about_140 : decode cX8_about 140 = .ok (.aload_n 0, 1) := by decide +kernel
theorem dX8_about_141 : decode cX8_about 141 = .ok (.getfield 13, 3) := by decide +kernel
theorem dX8_about_144 : decode cX8_about 144 = .ok (.iconst 0, 1) := by decide +kernel
theorem dX8_about_145 : decode cX8_about 145 = .ok (.iconst 1, 1) := by decide +kernel
theorem dX8_about_146 : decode cX8_about 146 = .ok (.invokestatic 211, 3) := by decide +kernel
theorem dX8_about_149 : decode cX8_about 149 = .ok (.aload_n 0, 1) := by decide +kernel
theorem dX8_about_150 : decode cX8_about 150 = .ok (.getfield 13, 3) := by decide +kernel
theorem dX8_about_153 : decode cX8_about 153 = .ok (.iconst 1, 1) := by decide +kernel
theorem dX8_about_154 : decode cX8_about 154 = .ok (.iconst 1, 1) := by decide +kernel
theorem dX8_about_155 : decode cX8_about 155 = .ok (.invokestatic 211, 3) := by decide +kernel
theorem dX8_about_158 : decode cX8_about 158 = .ok (.iadd, 1) := by decide +kernel
theorem dX8_about_159 : decode cX8_about 159 = .ok (.ireturn, 1) := by decide +kernel
theorem dX8_about_160 : decode cX8_about 160 = .ok (.aload_n 0, 1) := by decide +kernel
theorem dX8_about_161 : decode cX8_about 161 = .ok (.getfield 13, 3) := by decide +kernel
theorem dX8_about_164 : decode cX8_about 164 = .ok (.iconst 1, 1) := by decide +kernel
theorem dX8_about_165 : decode cX8_about 165 = .ok (.laload, 1) := by decide +kernel
theorem dX8_about_166 : decode cX8_about 166 = .ok (.l2i, 1) := by decide +kernel
theorem dX8_about_167 : decode cX8_about 167 = .ok (.ireturn, 1) := by decide +kernel
set_option maxRecDepth 20000 in
theorem ggX8_stones_X8_isColour : GoodIn wsX8_stones wsX8_isColour := goodIn_r _ [5, 6, 7, 4, 8] (by decide +kernel) (by decide +kernel)
set_option maxRecDepth 20000 in
theorem gX8_stones_X8_isColour : GoodIn wsX8_stones (va_wsS RX8 215 yX8_isColour wsX8_isColour) := goodIn_app (goodIn_of _ (by decide +kernel)) ggX8_stones_X8_isColour
set_option maxRecDepth 20000 in
theorem ggX8_stones_X8_refused : GoodIn wsX8_stones wsX8_refused := goodIn_r _ [12, 13, 20, 21, 22, 23, 24, 25, 26, 27, 28, 29, 30, 31, 32, 33, 34, 35, 36, 37, 38] (by decide +kernel) (by decide +kernel)
set_option maxRecDepth 20000 in
theorem gX8_stones_X8_refused : GoodIn wsX8_stones (wsV RX8 163 RX8 yX8_refused wsX8_refused) := goodIn_app (goodIn_of _ (by decide +kernel)) ggX8_stones_X8_refused
set_option maxRecDepth 20000 in
theorem ggX8_stones_X8_stonesOf : GoodIn wsX8_stones wsX8_stonesOf := goodIn_r _ [16, 17, 18, 4, 19] (by decide +kernel) (by decide +kernel)
set_option maxRecDepth 20000 in
theorem gX8_stones_X8_stonesOf : GoodIn wsX8_stones (va_wsS RX8 105 yX8_stonesOf wsX8_stonesOf) := goodIn_app (goodIn_of _ (by decide +kernel)) ggX8_stones_X8_stonesOf
theorem dX8_stones_0 : decode cX8_stones 0 = .ok (.aload_n 0, 1) := by decide +kernel
theorem dX8_stones_1 : decode cX8_stones 1 = .ok (.iload_n 1, 1) := by decide +kernel
theorem dX8_stones_2 : decode cX8_stones 2 = .ok (.invokestatic 215, 3) := by decide +kernel
theorem dX8_stones_5 : decode cX8_stones 5 = .ok (.ifCond .eq 7, 3) := by decide +kernel
theorem dX8_stones_8 : decode cX8_stones 8 = .ok (.iconst 0, 1) := by decide +kernel
theorem dX8_stones_9 : decode cX8_stones 9 = .ok (.goto 4, 3) := by decide +kernel
theorem dX8_stones_12 : decode cX8_stones 12 = .ok (.iconst 1, 1) := by decide +kernel
theorem dX8_stones_13 : decode cX8_stones 13 = .ok (.invokevirtual 163, 3) := by decide +kernel
theorem dX8_stones_16 : decode cX8_stones 16 = .ok (.ifCond .eq 5, 3) := by decide +kernel
theorem dX8_stones_19 : decode cX8_stones 19 = .ok (.lconst 0, 1) := by decide +kernel
theorem dX8_stones_20 : decode cX8_stones 20 = .ok (.lreturn, 1) := by decide +kernel
theorem dX8_stones_21 : decode cX8_stones 21 = .ok (.aload_n 0, 1) := by decide +kernel
theorem dX8_stones_22 : decode cX8_stones 22 = .ok (.getfield 13, 3) := by decide +kernel
theorem dX8_stones_25 : decode cX8_stones 25 = .ok (.iload_n 1, 1) := by decide +kernel
theorem dX8_stones_26 : decode cX8_stones 26 = .ok (.invokestatic 105, 3) := by decide +kernel
theorem dX8_stones_29 : decode cX8_stones 29 = .ok (.lreturn, 1) := by decide +kernel
set_option maxRecDepth 20000 in
theorem ggX8_colour_X8_isColour : GoodIn wsX8_colour wsX8_isColour := goodIn_r _ [6, 7, 8, 5, 9] (by decide +kernel) (by decide +kernel)
set_option maxRecDepth 20000 in
theorem gX8_colour_X8_isColour : GoodIn wsX8_colour (va_wsS RX8 215 yX8_isColour wsX8_isColour) := goodIn_app (goodIn_of _ (by decide +kernel)) ggX8_colour_X8_isColour
set_option maxRecDepth 20000 in
theorem ggX8_colour_X8_in : GoodIn wsX8_colour wsX8_in := goodIn_r _ [9] (by decide +kernel) (by decide +kernel)
set_option maxRecDepth 20000 in
theorem gX8_colour_X8_in : GoodIn wsX8_colour (va_wsS RX8 51 yX8_in wsX8_in) := goodIn_app (goodIn_of _ (by decide +kernel)) ggX8_colour_X8_in
set_option maxRecDepth 20000 in
theorem ggX8_colour_X8_refused : GoodIn wsX8_colour wsX8_refused := goodIn_r _ [13, 14, 70, 71, 72, 73, 74, 75, 76, 77, 78, 79, 80, 81, 82, 83, 84, 85, 86, 87, 88] (by decide +kernel) (by decide +kernel)
set_option maxRecDepth 20000 in
theorem gX8_colour_X8_refused : GoodIn wsX8_colour (wsV RX8 163 RX8 yX8_refused wsX8_refused) := goodIn_app (goodIn_of _ (by decide +kernel)) ggX8_colour_X8_refused
set_option maxRecDepth 20000 in
theorem ggX8_colour_X8_stonesOf : GoodIn wsX8_colour wsX8_stonesOf := goodIn_r _ [17, 18, 19, 5, 20] (by decide +kernel) (by decide +kernel)
set_option maxRecDepth 20000 in
theorem gX8_colour_X8_stonesOf : GoodIn wsX8_colour (va_wsS RX8 105 yX8_stonesOf wsX8_stonesOf) := goodIn_app (goodIn_of _ (by decide +kernel)) ggX8_colour_X8_stonesOf
set_option maxRecDepth 20000 in
theorem ggX8_colour_X8_bits : GoodIn wsX8_colour wsX8_bits := goodIn_r _ [23, 24, 25, 5, 26] (by decide +kernel) (by decide +kernel)
set_option maxRecDepth 20000 in
theorem gX8_colour_X8_bits : GoodIn wsX8_colour (va_wsS RX8 95 yX8_bits wsX8_bits) := goodIn_app (goodIn_of _ (by decide +kernel)) ggX8_colour_X8_bits
set_option maxRecDepth 20000 in
theorem ggX8_colour_X8_area : GoodIn wsX8_colour wsX8_area := goodIn_r _ [29, 30, 15, 16, 5, 17, 18, 19, 20, 21, 22, 23, 24, 25, 26, 31, 32, 33, 34, 35, 36, 37, 38, 39, 40, 41, 42, 43, 44, 45, 46, 47, 48, 49, 50, 51] (by decide +kernel) (by decide +kernel)
set_option maxRecDepth 20000 in
theorem gX8_colour_X8_area : GoodIn wsX8_colour (va_wsS RX8 220 yX8_area wsX8_area) := goodIn_app (goodIn_of _ (by decide +kernel)) ggX8_colour_X8_area
set_option maxRecDepth 20000 in
theorem ggX8_colour_X8_eyes : GoodIn wsX8_colour wsX8_eyes := goodIn_r _ [54, 31, 32, 5, 33, 55, 56, 57, 30, 40, 41, 42, 43, 44, 45, 46, 47, 48, 49, 50, 51, 15, 16, 17, 18, 19, 20, 24, 25, 26, 58, 59, 60, 21, 22, 23] (by decide +kernel) (by decide +kernel)
set_option maxRecDepth 20000 in
theorem gX8_colour_X8_eyes : GoodIn wsX8_colour (va_wsS RX8 223 yX8_eyes wsX8_eyes) := goodIn_app (goodIn_of _ (by decide +kernel)) ggX8_colour_X8_eyes
set_option maxRecDepth 20000 in
theorem ggX8_colour_X8_groupsOf : GoodIn wsX8_colour wsX8_groupsOf := goodIn_r _ [63, 15, 16, 5, 17, 18, 19, 20, 64, 65, 66, 30, 37, 38, 39, 40, 41, 42, 43, 44, 45, 46, 47, 48, 49, 50, 51, 67, 68, 69, 21, 22, 23, 24, 25, 26] (by decide +kernel) (by decide +kernel)
set_option maxRecDepth 20000 in
theorem gX8_colour_X8_groupsOf : GoodIn wsX8_colour (va_wsS RX8 211 yX8_groupsOf wsX8_groupsOf) := goodIn_app (goodIn_of _ (by decide +kernel)) ggX8_colour_X8_groupsOf
theorem dX8_colour_0 : decode cX8_colour 0 = .ok (.aload_n 0, 1) := by decide +kernel
theorem dX8_colour_1 : decode cX8_colour 1 = .ok (.iload_n 1, 1) := by decide +kernel
theorem dX8_colour_2 : decode cX8_colour 2 = .ok (.invokestatic 215, 3) := by decide +kernel
theorem dX8_colour_5 : decode cX8_colour 5 = .ok (.ifCond .ne 7, 3) := by decide +kernel
theorem dX8_colour_8 : decode cX8_colour 8 = .ok (.iconst 1, 1) := by decide +kernel
theorem dX8_colour_9 : decode cX8_colour 9 = .ok (.goto 20, 3) := by decide +kernel
theorem dX8_colour_12 : decode cX8_colour 12 = .ok (.iload_n 2, 1) := by decide +kernel
theorem dX8_colour_13 : decode cX8_colour 13 = .ok (.i2l, 1) := by decide +kernel
theorem dX8_colour_14 : decode cX8_colour 14 = .ok (.lconst 0, 1) := by decide +kernel
theorem dX8_colour_15 : decode cX8_colour 15 = .ok (.ldc2_w 218, 3) := by decide +kernel
theorem dX8_colour_18 : decode cX8_colour 18 = .ok (.invokestatic 51, 3) := by decide +kernel
theorem dX8_colour_21 : decode cX8_colour 21 = .ok (.ifCond .eq 7, 3) := by decide +kernel
theorem dX8_colour_24 : decode cX8_colour 24 = .ok (.iconst 0, 1) := by decide +kernel
theorem dX8_colour_25 : decode cX8_colour 25 = .ok (.goto 4, 3) := by decide +kernel
theorem dX8_colour_28 : decode cX8_colour 28 = .ok (.iconst 2, 1) := by decide +kernel
theorem dX8_colour_29 : decode cX8_colour 29 = .ok (.invokevirtual 163, 3) := by decide +kernel
theorem dX8_colour_32 : decode cX8_colour 32 = .ok (.ifCond .eq 5, 3) := by decide +kernel
theorem dX8_colour_35 : decode cX8_colour 35 = .ok (.iconst 0, 1) := by decide +kernel
theorem dX8_colour_36 : decode cX8_colour 36 = .ok (.ireturn, 1) := by decide +kernel
theorem dX8_colour_37 : decode cX8_colour 37 = .ok (.iload_n 2, 1) := by decide +kernel
theorem dX8_colour_38 : decode cX8_colour 38 = .ok (.tableswitch 85 0 4 #[34, 46, 56, 65, 75], 34) := by decide +kernel
theorem dX8_colour_72 : decode cX8_colour 72 = .ok (.aload_n 0, 1) := by decide +kernel
theorem dX8_colour_73 : decode cX8_colour 73 = .ok (.getfield 13, 3) := by decide +kernel
theorem dX8_colour_76 : decode cX8_colour 76 = .ok (.iload_n 1, 1) := by decide +kernel
theorem dX8_colour_77 : decode cX8_colour 77 = .ok (.invokestatic 105, 3) := by decide +kernel
theorem dX8_colour_80 : decode cX8_colour 80 = .ok (.invokestatic 95, 3) := by decide +kernel
theorem dX8_colour_83 : decode cX8_colour 83 = .ok (.ireturn, 1) := by decide +kernel
theorem dX8_colour_84 : decode cX8_colour 84 = .ok (.aload_n 0, 1) := by decide +kernel
theorem dX8_colour_85 : decode cX8_colour 85 = .ok (.getfield 13, 3) := by decide +kernel
theorem dX8_colour_88 : decode cX8_colour 88 = .ok (.iconst 5, 1) := by decide +kernel
theorem dX8_colour_89 : decode cX8_colour 89 = .ok (.iload_n 1, 1) := by decide +kernel
theorem dX8_colour_90 : decode cX8_colour 90 = .ok (.iadd, 1) := by decide +kernel
theorem dX8_colour_91 : decode cX8_colour 91 = .ok (.laload, 1) := by decide +kernel
theorem dX8_colour_92 : decode cX8_colour 92 = .ok (.l2i, 1) := by decide +kernel
theorem dX8_colour_93 : decode cX8_colour 93 = .ok (.ireturn, 1) := by decide +kernel
theorem dX8_colour_94 : decode cX8_colour 94 = .ok (.aload_n 0, 1) := by decide +kernel
theorem dX8_colour_95 : decode cX8_colour 95 = .ok (.getfield 13, 3) := by decide +kernel
theorem dX8_colour_98 : decode cX8_colour 98 = .ok (.iload_n 1, 1) := by decide +kernel
theorem dX8_colour_99 : decode cX8_colour 99 = .ok (.invokestatic 220, 3) := by decide +kernel
theorem dX8_colour_102 : decode cX8_colour 102 = .ok (.ireturn, 1) := by decide +kernel
theorem dX8_colour_103 : decode cX8_colour 103 = .ok (.aload_n 0, 1) := by decide +kernel
theorem dX8_colour_104 : decode cX8_colour 104 = .ok (.getfield 13, 3) := by decide +kernel
theorem dX8_colour_107 : decode cX8_colour 107 = .ok (.iload_n 1, 1) := by decide +kernel
theorem dX8_colour_108 : decode cX8_colour 108 = .ok (.iconst 2, 1) := by decide +kernel
theorem dX8_colour_109 : decode cX8_colour 109 = .ok (.invokestatic 223, 3) := by decide +kernel
theorem dX8_colour_112 : decode cX8_colour 112 = .ok (.ireturn, 1) := by decide +kernel
theorem dX8_colour_113 : decode cX8_colour 113 = .ok (.aload_n 0, 1) := by decide +kernel
theorem dX8_colour_114 : decode cX8_colour 114 = .ok (.getfield 13, 3) := by decide +kernel
theorem dX8_colour_117 : decode cX8_colour 117 = .ok (.iload_n 1, 1) := by decide +kernel
theorem dX8_colour_118 : decode cX8_colour 118 = .ok (.iconst 1, 1) := by decide +kernel
theorem dX8_colour_119 : decode cX8_colour 119 = .ok (.invokestatic 223, 3) := by decide +kernel
theorem dX8_colour_122 : decode cX8_colour 122 = .ok (.ireturn, 1) := by decide +kernel
theorem dX8_colour_123 : decode cX8_colour 123 = .ok (.aload_n 0, 1) := by decide +kernel
theorem dX8_colour_124 : decode cX8_colour 124 = .ok (.getfield 13, 3) := by decide +kernel
theorem dX8_colour_127 : decode cX8_colour 127 = .ok (.iload_n 1, 1) := by decide +kernel
theorem dX8_colour_128 : decode cX8_colour 128 = .ok (.iconst 0, 1) := by decide +kernel
theorem dX8_colour_129 : decode cX8_colour 129 = .ok (.invokestatic 211, 3) := by decide +kernel
theorem dX8_colour_132 : decode cX8_colour 132 = .ok (.ireturn, 1) := by decide +kernel
set_option maxRecDepth 20000 in
theorem ggX8_eyeOfAny_X8_eye : GoodIn wsX8_eyeOfAny wsX8_eye := goodIn_r _ [4, 5, 6, 7, 3, 8, 9, 10, 11, 12, 13, 14, 15, 16, 17, 18, 19, 20, 21, 22, 23, 24, 25, 26, 27, 28, 29, 30, 31, 32] (by decide +kernel) (by decide +kernel)
set_option maxRecDepth 20000 in
theorem gX8_eyeOfAny_X8_eye : GoodIn wsX8_eyeOfAny (va_wsS RX8 128 yX8_eye wsX8_eye) := goodIn_app (goodIn_of _ (by decide +kernel)) ggX8_eyeOfAny_X8_eye
theorem dX8_eyeOfAny_0 : decode cX8_eyeOfAny 0 = .ok (.aload_n 0, 1) := by decide +kernel
theorem dX8_eyeOfAny_1 : decode cX8_eyeOfAny 1 = .ok (.iload_n 1, 1) := by decide +kernel
theorem dX8_eyeOfAny_2 : decode cX8_eyeOfAny 2 = .ok (.iconst 0, 1) := by decide +kernel
theorem dX8_eyeOfAny_3 : decode cX8_eyeOfAny 3 = .ok (.invokestatic 128, 3) := by decide +kernel
theorem dX8_eyeOfAny_6 : decode cX8_eyeOfAny 6 = .ok (.istore_n 2, 1) := by decide +kernel
theorem dX8_eyeOfAny_7 : decode cX8_eyeOfAny 7 = .ok (.iload_n 2, 1) := by decide +kernel
theorem dX8_eyeOfAny_8 : decode cX8_eyeOfAny 8 = .ok (.ifCond .le 7, 3) := by decide +kernel
theorem dX8_eyeOfAny_11 : decode cX8_eyeOfAny 11 = .ok (.iload_n 2, 1) := by decide +kernel
theorem dX8_eyeOfAny_12 : decode cX8_eyeOfAny 12 = .ok (.goto 9, 3) := by decide +kernel
theorem dX8_eyeOfAny_15 : decode cX8_eyeOfAny 15 = .ok (.aload_n 0, 1) := by decide +kernel
theorem dX8_eyeOfAny_16 : decode cX8_eyeOfAny 16 = .ok (.iload_n 1, 1) := by decide +kernel
theorem dX8_eyeOfAny_17 : decode cX8_eyeOfAny 17 = .ok (.iconst 1, 1) := by decide +kernel
theorem dX8_eyeOfAny_18 : decode cX8_eyeOfAny 18 = .ok (.invokestatic 128, 3) := by decide +kernel
theorem dX8_eyeOfAny_21 : decode cX8_eyeOfAny 21 = .ok (.ireturn, 1) := by decide +kernel
set_option maxRecDepth 20000 in
theorem ggX8_eyesBeside_X8_freeOf : GoodIn wsX8_eyesBeside wsX8_freeOf := goodIn_r _ [4, 5, 6, 3, 7, 8, 9, 10, 11, 12, 13, 14, 15, 16, 17, 18, 19, 20, 21, 22, 23, 24, 25, 26] (by decide +kernel) (by decide +kernel)
set_option maxRecDepth 20000 in
theorem gX8_eyesBeside_X8_freeOf : GoodIn wsX8_eyesBeside (va_wsS RX8 226 yX8_freeOf wsX8_freeOf) := goodIn_app (goodIn_of _ (by decide +kernel)) ggX8_eyesBeside_X8_freeOf
set_option maxRecDepth 20000 in
theorem ggX8_eyesBeside_X8_points : GoodIn wsX8_eyesBeside wsX8_points := goodIn_r _ [29] (by decide +kernel) (by decide +kernel)
set_option maxRecDepth 20000 in
theorem gX8_eyesBeside_X8_points : GoodIn wsX8_eyesBeside (va_wsS RX8 47 yX8_points wsX8_points) := goodIn_app (goodIn_of _ (by decide +kernel)) ggX8_eyesBeside_X8_points
set_option maxRecDepth 20000 in
theorem ggX8_eyesBeside_X8_has : GoodIn wsX8_eyesBeside wsX8_has := goodIn_r _ [32] (by decide +kernel) (by decide +kernel)
set_option maxRecDepth 20000 in
theorem gX8_eyesBeside_X8_has : GoodIn wsX8_eyesBeside (va_wsS RX8 58 yX8_has wsX8_has) := goodIn_app (goodIn_of _ (by decide +kernel)) ggX8_eyesBeside_X8_has
set_option maxRecDepth 20000 in
theorem ggX8_eyesBeside_X8_eyeOfAny : GoodIn wsX8_eyesBeside wsX8_eyeOfAny := goodIn_r _ [35, 36, 37, 3, 38, 14, 15, 16, 17, 18, 19, 20, 21, 22, 23, 24, 25, 26, 5, 6, 7, 8, 9, 10, 30, 31, 32, 39, 40, 41, 42, 43, 44] (by decide +kernel) (by decide +kernel)
set_option maxRecDepth 20000 in
theorem gX8_eyesBeside_X8_eyeOfAny : GoodIn wsX8_eyesBeside (va_wsS RX8 229 yX8_eyeOfAny wsX8_eyeOfAny) := goodIn_app (goodIn_of _ (by decide +kernel)) ggX8_eyesBeside_X8_eyeOfAny
theorem dX8_eyesBeside_0 : decode cX8_eyesBeside 0 = .ok (.iconst 0, 1) := by decide +kernel
theorem dX8_eyesBeside_1 : decode cX8_eyesBeside 1 = .ok (.istore_n 3, 1) := by decide +kernel
theorem dX8_eyesBeside_2 : decode cX8_eyesBeside 2 = .ok (.aload_n 0, 1) := by decide +kernel
theorem dX8_eyesBeside_3 : decode cX8_eyesBeside 3 = .ok (.lload_n 1, 1) := by decide +kernel
theorem dX8_eyesBeside_4 : decode cX8_eyesBeside 4 = .ok (.invokestatic 226, 3) := by decide +kernel
theorem dX8_eyesBeside_7 : decode cX8_eyesBeside 7 = .ok (.lstore 4, 2) := by decide +kernel
theorem dX8_eyesBeside_9 : decode cX8_eyesBeside 9 = .ok (.iconst 0, 1) := by decide +kernel
theorem dX8_eyesBeside_10 : decode cX8_eyesBeside 10 = .ok (.istore 6, 2) := by decide +kernel
theorem dX8_eyesBeside_12 : decode cX8_eyesBeside 12 = .ok (.iload 6, 2) := by decide +kernel
theorem dX8_eyesBeside_14 : decode cX8_eyesBeside 14 = .ok (.aload_n 0, 1) := by decide +kernel
theorem dX8_eyesBeside_15 : decode cX8_eyesBeside 15 = .ok (.invokestatic 47, 3) := by decide +kernel
theorem dX8_eyesBeside_18 : decode cX8_eyesBeside 18 = .ok (.if_icmp .ge 37, 3) := by decide +kernel
theorem dX8_eyesBeside_21 : decode cX8_eyesBeside 21 = .ok (.iload_n 3, 1) := by decide +kernel
theorem dX8_eyesBeside_22 : decode cX8_eyesBeside 22 = .ok (.lload 4, 2) := by decide +kernel
theorem dX8_eyesBeside_24 : decode cX8_eyesBeside 24 = .ok (.iload 6, 2) := by decide +kernel
theorem dX8_eyesBeside_26 : decode cX8_eyesBeside 26 = .ok (.invokestatic 58, 3) := by decide +kernel
theorem dX8_eyesBeside_29 : decode cX8_eyesBeside 29 = .ok (.ifCond .eq 17, 3) := by decide +kernel
theorem dX8_eyesBeside_32 : decode cX8_eyesBeside 32 = .ok (.aload_n 0, 1) := by decide +kernel
theorem dX8_eyesBeside_33 : decode cX8_eyesBeside 33 = .ok (.iload 6, 2) := by decide +kernel
theorem dX8_eyesBeside_35 : decode cX8_eyesBeside 35 = .ok (.invokestatic 229, 3) := by decide +kernel
theorem dX8_eyesBeside_38 : decode cX8_eyesBeside 38 = .ok (.iconst 2, 1) := by decide +kernel
theorem dX8_eyesBeside_39 : decode cX8_eyesBeside 39 = .ok (.if_icmp .ne 7, 3) := by decide +kernel
theorem dX8_eyesBeside_42 : decode cX8_eyesBeside 42 = .ok (.iconst 1, 1) := by decide +kernel
theorem dX8_eyesBeside_43 : decode cX8_eyesBeside 43 = .ok (.goto 4, 3) := by decide +kernel
theorem dX8_eyesBeside_46 : decode cX8_eyesBeside 46 = .ok (.iconst 0, 1) := by decide +kernel
theorem dX8_eyesBeside_47 : decode cX8_eyesBeside 47 = .ok (.iadd, 1) := by decide +kernel
theorem dX8_eyesBeside_48 : decode cX8_eyesBeside 48 = .ok (.istore_n 3, 1) := by decide +kernel
theorem dX8_eyesBeside_49 : decode cX8_eyesBeside 49 = .ok (.iinc 6 1, 3) := by decide +kernel
theorem dX8_eyesBeside_52 : decode cX8_eyesBeside 52 = .ok (.goto (-40), 3) := by decide +kernel
theorem dX8_eyesBeside_55 : decode cX8_eyesBeside 55 = .ok (.iload_n 3, 1) := by decide +kernel
theorem dX8_eyesBeside_56 : decode cX8_eyesBeside 56 = .ok (.ireturn, 1) := by decide +kernel
set_option maxRecDepth 20000 in
theorem ggX8_point_X8_isPoint : GoodIn wsX8_point wsX8_isPoint := goodIn_r _ [6, 7, 8, 5, 9, 10, 11, 12] (by decide +kernel) (by decide +kernel)
set_option maxRecDepth 20000 in
theorem gX8_point_X8_isPoint : GoodIn wsX8_point (va_wsS RX8 182 yX8_isPoint wsX8_isPoint) := goodIn_app (goodIn_of _ (by decide +kernel)) ggX8_point_X8_isPoint
set_option maxRecDepth 20000 in
theorem ggX8_point_X8_in : GoodIn wsX8_point wsX8_in := goodIn_r _ [12] (by decide +kernel) (by decide +kernel)
set_option maxRecDepth 20000 in
theorem gX8_point_X8_in : GoodIn wsX8_point (va_wsS RX8 51 yX8_in wsX8_in) := goodIn_app (goodIn_of _ (by decide +kernel)) ggX8_point_X8_in
set_option maxRecDepth 20000 in
theorem ggX8_point_X8_refused : GoodIn wsX8_point wsX8_refused := goodIn_r _ [16, 17, 70, 71, 72, 73, 74, 75, 76, 77, 78, 79, 80, 81, 82, 83, 84, 85, 86, 87, 88] (by decide +kernel) (by decide +kernel)
set_option maxRecDepth 20000 in
theorem gX8_point_X8_refused : GoodIn wsX8_point (wsV RX8 163 RX8 yX8_refused wsX8_refused) := goodIn_app (goodIn_of _ (by decide +kernel)) ggX8_point_X8_refused
set_option maxRecDepth 20000 in
theorem ggX8_point_X8_groupAt : GoodIn wsX8_point wsX8_groupAt := goodIn_r _ [20, 21, 22, 5, 23, 24, 25, 26, 27, 28, 29, 30, 31, 32, 33, 34, 35, 36, 37, 38, 39, 40, 41, 42, 43, 44, 45] (by decide +kernel) (by decide +kernel)
set_option maxRecDepth 20000 in
theorem gX8_point_X8_groupAt : GoodIn wsX8_point (va_wsS RX8 232 yX8_groupAt wsX8_groupAt) := goodIn_app (goodIn_of _ (by decide +kernel)) ggX8_point_X8_groupAt
set_option maxRecDepth 20000 in
theorem ggX8_point_X8_stonesOf : GoodIn wsX8_point wsX8_stonesOf := goodIn_r _ [23, 24, 25, 5, 26] (by decide +kernel) (by decide +kernel)
set_option maxRecDepth 20000 in
theorem gX8_point_X8_stonesOf : GoodIn wsX8_point (va_wsS RX8 105 yX8_stonesOf wsX8_stonesOf) := goodIn_app (goodIn_of _ (by decide +kernel)) ggX8_point_X8_stonesOf
set_option maxRecDepth 20000 in
theorem ggX8_point_X8_has : GoodIn wsX8_point wsX8_has := goodIn_r _ [29] (by decide +kernel) (by decide +kernel)
set_option maxRecDepth 20000 in
theorem gX8_point_X8_has : GoodIn wsX8_point (va_wsS RX8 58 yX8_has wsX8_has) := goodIn_app (goodIn_of _ (by decide +kernel)) ggX8_point_X8_has
set_option maxRecDepth 20000 in
theorem ggX8_point_X8_bits : GoodIn wsX8_point wsX8_bits := goodIn_r _ [48, 27, 28, 5, 29] (by decide +kernel) (by decide +kernel)
set_option maxRecDepth 20000 in
theorem gX8_point_X8_bits : GoodIn wsX8_point (va_wsS RX8 95 yX8_bits wsX8_bits) := goodIn_app (goodIn_of _ (by decide +kernel)) ggX8_point_X8_bits
set_option maxRecDepth 20000 in
theorem ggX8_point_X8_freeOf : GoodIn wsX8_point wsX8_freeOf := goodIn_r _ [51, 21, 22, 5, 23, 24, 25, 26, 52, 53, 54, 39, 33, 34, 35, 36, 37, 38, 40, 41, 42, 43, 44, 45] (by decide +kernel) (by decide +kernel)
set_option maxRecDepth 20000 in
theorem gX8_point_X8_freeOf : GoodIn wsX8_point (va_wsS RX8 226 yX8_freeOf wsX8_freeOf) := goodIn_app (goodIn_of _ (by decide +kernel)) ggX8_point_X8_freeOf
set_option maxRecDepth 20000 in
theorem ggX8_point_X8_eyeOfAny : GoodIn wsX8_point wsX8_eyeOfAny := goodIn_r _ [57, 58, 59, 5, 60, 39, 33, 34, 35, 36, 37, 38, 40, 41, 42, 43, 44, 45, 21, 22, 23, 24, 25, 26, 27, 28, 29, 61, 62, 63, 46, 47, 48] (by decide +kernel) (by decide +kernel)
set_option maxRecDepth 20000 in
theorem gX8_point_X8_eyeOfAny : GoodIn wsX8_point (va_wsS RX8 229 yX8_eyeOfAny wsX8_eyeOfAny) := goodIn_app (goodIn_of _ (by decide +kernel)) ggX8_point_X8_eyeOfAny
set_option maxRecDepth 20000 in
theorem ggX8_point_X8_partAt : GoodIn wsX8_point wsX8_partAt := goodIn_r _ [66, 39, 7, 8, 5, 9, 21, 22, 23, 24, 25, 26, 30, 31, 32, 33, 34, 35, 36, 37, 38, 40, 41, 42, 43, 44, 45] (by decide +kernel) (by decide +kernel)
set_option maxRecDepth 20000 in
theorem gX8_point_X8_partAt : GoodIn wsX8_point (va_wsS RX8 132 yX8_partAt wsX8_partAt) := goodIn_app (goodIn_of _ (by decide +kernel)) ggX8_point_X8_partAt
set_option maxRecDepth 20000 in
theorem ggX8_point_X8_eyesBeside : GoodIn wsX8_point wsX8_eyesBeside := goodIn_r _ [69, 49, 50, 5, 51, 21, 22, 23, 24, 25, 26, 52, 53, 54, 39, 33, 34, 35, 36, 37, 38, 40, 41, 42, 43, 44, 45, 7, 8, 9, 27, 28, 29, 55, 56, 57, 58, 59, 60, 61, 62, 63, 46, 47, 48] (by decide +kernel) (by decide +kernel)
set_option maxRecDepth 20000 in
theorem gX8_point_X8_eyesBeside : GoodIn wsX8_point (va_wsS RX8 235 yX8_eyesBeside wsX8_eyesBeside) := goodIn_app (goodIn_of _ (by decide +kernel)) ggX8_point_X8_eyesBeside
theorem dX8_point_0 : decode cX8_point 0 = .ok (.aload_n 0, 1) := by decide +kernel
theorem dX8_point_1 : decode cX8_point 1 = .ok (.aload_n 0, 1) := by decide +kernel
theorem dX8_point_2 : decode cX8_point 2 = .ok (.getfield 13, 3) := by decide +kernel
theorem dX8_point_5 : decode cX8_point 5 = .ok (.iload_n 1, 1) := by decide +kernel
theorem dX8_point_6 : decode cX8_point 6 = .ok (.invokestatic 182, 3) := by decide +kernel
theorem dX8_point_9 : decode cX8_point 9 = .ok (.ifCond .ne 7, 3) := by decide +kernel
theorem dX8_point_12 : decode cX8_point 12 = .ok (.iconst 1, 1) := by decide +kernel
theorem dX8_point_13 : decode cX8_point 13 = .ok (.goto 20, 3) := by decide +kernel
theorem dX8_point_16 : decode cX8_point 16 = .ok (.iload_n 2, 1) := by decide +kernel
theorem dX8_point_17 : decode cX8_point 17 = .ok (.i2l, 1) := by decide +kernel
theorem dX8_point_18 : decode cX8_point 18 = .ok (.lconst 0, 1) := by decide +kernel
theorem dX8_point_19 : decode cX8_point 19 = .ok (.ldc2_w 218, 3) := by decide +kernel
theorem dX8_point_22 : decode cX8_point 22 = .ok (.invokestatic 51, 3) := by decide +kernel
theorem dX8_point_25 : decode cX8_point 25 = .ok (.ifCond .eq 7, 3) := by decide +kernel
theorem dX8_point_28 : decode cX8_point 28 = .ok (.iconst 0, 1) := by decide +kernel
theorem dX8_point_29 : decode cX8_point 29 = .ok (.goto 4, 3) := by decide +kernel
theorem dX8_point_32 : decode cX8_point 32 = .ok (.iconst 2, 1) := by decide +kernel
theorem dX8_point_33 : decode cX8_point 33 = .ok (.invokevirtual 163, 3) := by decide +kernel
theorem dX8_point_36 : decode cX8_point 36 = .ok (.ifCond .eq 5, 3) := by decide +kernel
theorem dX8_point_39 : decode cX8_point 39 = .ok (.iconst 0, 1) := by decide +kernel
theorem dX8_point_40 : decode cX8_point 40 = .ok (.ireturn, 1) := by decide +kernel
theorem dX8_point_41 : decode cX8_point 41 = .ok (.aload_n 0, 1) := by decide +kernel
theorem dX8_point_42 : decode cX8_point 42 = .ok (.getfield 13, 3) := by decide +kernel
theorem dX8_point_45 : decode cX8_point 45 = .ok (.iload_n 1, 1) := by decide +kernel
theorem dX8_point_46 : decode cX8_point 46 = .ok (.invokestatic 232, 3) := by decide +kernel
theorem dX8_point_49 : decode cX8_point 49 = .ok (.lstore_n 3, 1) := by decide +kernel
theorem dX8_point_50 : decode cX8_point 50 = .ok (.lload_n 3, 1) := by decide +kernel
theorem dX8_point_51 : decode cX8_point 51 = .ok (.lconst 0, 1) := by decide +kernel
theorem dX8_point_52 : decode cX8_point 52 = .ok (.lcmp, 1) := by decide +kernel
theorem dX8_point_53 : decode cX8_point 53 = .ok (.ifCond .ne 7, 3) := by decide +kernel
theorem dX8_point_56 : decode cX8_point 56 = .ok (.iconst 1, 1) := by decide +kernel
theorem dX8_point_57 : decode cX8_point 57 = .ok (.goto 4, 3) := by decide +kernel
theorem dX8_point_60 : decode cX8_point 60 = .ok (.iconst 0, 1) := by decide +kernel
theorem dX8_point_61 : decode cX8_point 61 = .ok (.istore 5, 2) := by decide +kernel
theorem dX8_point_63 : decode cX8_point 63 = .ok (.iload_n 2, 1) := by decide +kernel
theorem dX8_point_64 : decode cX8_point 64 = .ok (.tableswitch 124 0 4 #[36, 66, 71, 92, 101], 36) := by decide +kernel
theorem dX8_point_100 : decode cX8_point 100 = .ok (.iload 5, 2) := by decide +kernel
theorem dX8_point_102 : decode cX8_point 102 = .ok (.ifCond .eq 7, 3) := by decide +kernel
theorem dX8_point_105 : decode cX8_point 105 = .ok (.iconst (-1), 1) := by decide +kernel
theorem dX8_point_106 : decode cX8_point 106 = .ok (.goto 23, 3) := by decide +kernel
theorem dX8_point_109 : decode cX8_point 109 = .ok (.aload_n 0, 1) := by decide +kernel
theorem dX8_point_110 : decode cX8_point 110 = .ok (.getfield 13, 3) := by decide +kernel
theorem dX8_point_113 : decode cX8_point 113 = .ok (.iconst 0, 1) := by decide +kernel
theorem dX8_point_114 : decode cX8_point 114 = .ok (.invokestatic 105, 3) := by decide +kernel
theorem dX8_point_117 : decode cX8_point 117 = .ok (.iload_n 1, 1) := by decide +kernel
theorem dX8_point_118 : decode cX8_point 118 = .ok (.invokestatic 58, 3) := by decide +kernel
theorem dX8_point_121 : decode cX8_point 121 = .ok (.ifCond .eq 7, 3) := by decide +kernel
theorem dX8_point_124 : decode cX8_point 124 = .ok (.iconst 0, 1) := by decide +kernel
theorem dX8_point_125 : decode cX8_point 125 = .ok (.goto 4, 3) := by decide +kernel
theorem dX8_point_128 : decode cX8_point 128 = .ok (.iconst 1, 1) := by decide +kernel
theorem dX8_point_129 : decode cX8_point 129 = .ok (.ireturn, 1) := by decide +kernel
theorem dX8_point_130 : decode cX8_point 130 = .ok (.lload_n 3, 1) := by decide +kernel
theorem dX8_point_131 : decode cX8_point 131 = .ok (.invokestatic 95, 3) := by decide +kernel
theorem dX8_point_134 : decode cX8_point 134 = .ok (.ireturn, 1) := by decide +kernel
theorem dX8_point_135 : decode cX8_point 135 = .ok (.iload 5, 2) := by decide +kernel
theorem dX8_point_137 : decode cX8_point 137 = .ok (.ifCond .eq 7, 3) := by decide +kernel
theorem dX8_point_140 : decode cX8_point 140 = .ok (.iconst 0, 1) := by decide +kernel
theorem dX8_point_141 : decode cX8_point 141 = .ok (.goto 14, 3) := by decide +kernel
theorem dX8_point_144 : decode cX8_point 144 = .ok (.aload_n 0, 1) := by decide +kernel
theorem dX8_point_145 : decode cX8_point 145 = .ok (.getfield 13, 3) := by decide +kernel
theorem dX8_point_148 : decode cX8_point 148 = .ok (.lload_n 3, 1) := by decide +kernel
theorem dX8_point_149 : decode cX8_point 149 = .ok (.invokestatic 226, 3) := by decide +kernel
theorem dX8_point_152 : decode cX8_point 152 = .ok (.invokestatic 95, 3) := by decide +kernel
theorem dX8_point_155 : decode cX8_point 155 = .ok (.ireturn, 1) := by decide +kernel
theorem dX8_point_156 : decode cX8_point 156 = .ok (.aload_n 0, 1) := by decide +kernel
theorem dX8_point_157 : decode cX8_point 157 = .ok (.getfield 13, 3) := by decide +kernel
theorem dX8_point_160 : decode cX8_point 160 = .ok (.iload_n 1, 1) := by decide +kernel
theorem dX8_point_161 : decode cX8_point 161 = .ok (.invokestatic 229, 3) := by decide +kernel
theorem dX8_point_164 : decode cX8_point 164 = .ok (.ireturn, 1) := by decide +kernel
theorem dX8_point_165 : decode cX8_point 165 = .ok (.iload 5, 2) := by decide +kernel
theorem dX8_point_167 : decode cX8_point 167 = .ok (.ifCond .eq 19, 3) := by decide +kernel
theorem dX8_point_170 : decode cX8_point 170 = .ok (.aload_n 0, 1) := by decide +kernel
theorem dX8_point_171 : decode cX8_point 171 = .ok (.getfield 13, 3) := by decide +kernel
theorem dX8_point_174 : decode cX8_point 174 = .ok (.lconst 1, 1) := by decide +kernel
theorem dX8_point_175 : decode cX8_point 175 = .ok (.iload_n 1, 1) := by decide +kernel
theorem dX8_point_176 : decode cX8_point 176 = .ok (.lshl, 1) := by decide +kernel
theorem dX8_point_177 : decode cX8_point 177 = .ok (.invokestatic 132, 3) := by decide +kernel
theorem dX8_point_180 : decode cX8_point 180 = .ok (.invokestatic 95, 3) := by decide +kernel
theorem dX8_point_183 : decode cX8_point 183 = .ok (.goto 4, 3) := by decide +kernel
theorem dX8_point_186 : decode cX8_point 186 = .ok (.iconst 0, 1) := by decide +kernel
theorem dX8_point_187 : decode cX8_point 187 = .ok (.ireturn, 1) := by decide +kernel
theorem dX8_point_188 : decode cX8_point 188 = .ok (.iload 5, 2) := by decide +kernel
theorem dX8_point_190 : decode cX8_point 190 = .ok (.ifCond .eq 7, 3) := by decide +kernel
theorem dX8_point_193 : decode cX8_point 193 = .ok (.iconst 0, 1) := by decide +kernel
theorem dX8_point_194 : decode cX8_point 194 = .ok (.goto 11, 3) := by decide +kernel
theorem dX8_point_197 : decode cX8_point 197 = .ok (.aload_n 0, 1) := by decide +kernel
theorem dX8_point_198 : decode cX8_point 198 = .ok (.getfield 13, 3) := by decide +kernel
theorem dX8_point_201 : decode cX8_point 201 = .ok (.lload_n 3, 1) := by decide +kernel
theorem dX8_point_202 : decode cX8_point 202 = .ok (.invokestatic 235, 3) := by decide +kernel
theorem dX8_point_205 : decode cX8_point 205 = .ok (.ireturn, 1) := by decide +kernel
set_option maxRecDepth 20000 in
theorem ggX8_group_X8_isPoint : GoodIn wsX8_group wsX8_isPoint := goodIn_r _ [5, 6, 7, 4, 8, 9, 10, 11] (by decide +kernel) (by decide +kernel)
set_option maxRecDepth 20000 in
theorem gX8_group_X8_isPoint : GoodIn wsX8_group (va_wsS RX8 182 yX8_isPoint wsX8_isPoint) := goodIn_app (goodIn_of _ (by decide +kernel)) ggX8_group_X8_isPoint
set_option maxRecDepth 20000 in
theorem ggX8_group_X8_in : GoodIn wsX8_group wsX8_in := goodIn_r _ [11] (by decide +kernel) (by decide +kernel)
set_option maxRecDepth 20000 in
theorem gX8_group_X8_in : GoodIn wsX8_group (va_wsS RX8 51 yX8_in wsX8_in) := goodIn_app (goodIn_of _ (by decide +kernel)) ggX8_group_X8_in
set_option maxRecDepth 20000 in
theorem ggX8_group_X8_refused : GoodIn wsX8_group wsX8_refused := goodIn_r _ [15, 16, 51, 52, 53, 54, 55, 56, 57, 58, 59, 60, 61, 62, 63, 64, 65, 66, 67, 68, 69] (by decide +kernel) (by decide +kernel)
set_option maxRecDepth 20000 in
theorem gX8_group_X8_refused : GoodIn wsX8_group (wsV RX8 163 RX8 yX8_refused wsX8_refused) := goodIn_app (goodIn_of _ (by decide +kernel)) ggX8_group_X8_refused
set_option maxRecDepth 20000 in
theorem ggX8_group_X8_groupAt : GoodIn wsX8_group wsX8_groupAt := goodIn_r _ [19, 20, 21, 4, 22, 23, 24, 25, 26, 27, 28, 29, 30, 31, 32, 33, 34, 35, 36, 37, 38, 39, 40, 41, 42, 43, 44] (by decide +kernel) (by decide +kernel)
set_option maxRecDepth 20000 in
theorem gX8_group_X8_groupAt : GoodIn wsX8_group (va_wsS RX8 232 yX8_groupAt wsX8_groupAt) := goodIn_app (goodIn_of _ (by decide +kernel)) ggX8_group_X8_groupAt
set_option maxRecDepth 20000 in
theorem ggX8_group_X8_freeOf : GoodIn wsX8_group wsX8_freeOf := goodIn_r _ [47, 20, 21, 4, 22, 23, 24, 25, 48, 49, 50, 38, 32, 33, 34, 35, 36, 37, 39, 40, 41, 42, 43, 44] (by decide +kernel) (by decide +kernel)
set_option maxRecDepth 20000 in
theorem gX8_group_X8_freeOf : GoodIn wsX8_group (va_wsS RX8 226 yX8_freeOf wsX8_freeOf) := goodIn_app (goodIn_of _ (by decide +kernel)) ggX8_group_X8_freeOf
theorem dX8_group_0 : decode cX8_group 0 = .ok (.aload_n 0, 1) := by decide +kernel
theorem dX8_group_1 : decode cX8_group 1 = .ok (.aload_n 0, 1) := by decide +kernel
theorem dX8_group_2 : decode cX8_group 2 = .ok (.getfield 13, 3) := by decide +kernel
theorem dX8_group_5 : decode cX8_group 5 = .ok (.iload_n 1, 1) := by decide +kernel
theorem dX8_group_6 : decode cX8_group 6 = .ok (.invokestatic 182, 3) := by decide +kernel
theorem dX8_group_9 : decode cX8_group 9 = .ok (.ifCond .ne 7, 3) := by decide +kernel
theorem dX8_group_12 : decode cX8_group 12 = .ok (.iconst 1, 1) := by decide +kernel
theorem dX8_group_13 : decode cX8_group 13 = .ok (.goto 18, 3) := by decide +kernel
theorem dX8_group_16 : decode cX8_group 16 = .ok (.iload_n 2, 1) := by decide +kernel
theorem dX8_group_17 : decode cX8_group 17 = .ok (.i2l, 1) := by decide +kernel
theorem dX8_group_18 : decode cX8_group 18 = .ok (.lconst 0, 1) := by decide +kernel
theorem dX8_group_19 : decode cX8_group 19 = .ok (.lconst 1, 1) := by decide +kernel
theorem dX8_group_20 : decode cX8_group 20 = .ok (.invokestatic 51, 3) := by decide +kernel
theorem dX8_group_23 : decode cX8_group 23 = .ok (.ifCond .eq 7, 3) := by decide +kernel
theorem dX8_group_26 : decode cX8_group 26 = .ok (.iconst 0, 1) := by decide +kernel
theorem dX8_group_27 : decode cX8_group 27 = .ok (.goto 4, 3) := by decide +kernel
theorem dX8_group_30 : decode cX8_group 30 = .ok (.iconst 2, 1) := by decide +kernel
theorem dX8_group_31 : decode cX8_group 31 = .ok (.invokevirtual 163, 3) := by decide +kernel
theorem dX8_group_34 : decode cX8_group 34 = .ok (.ifCond .eq 5, 3) := by decide +kernel
theorem dX8_group_37 : decode cX8_group 37 = .ok (.lconst 0, 1) := by decide +kernel
theorem dX8_group_38 : decode cX8_group 38 = .ok (.lreturn, 1) := by decide +kernel
theorem dX8_group_39 : decode cX8_group 39 = .ok (.aload_n 0, 1) := by decide +kernel
theorem dX8_group_40 : decode cX8_group 40 = .ok (.getfield 13, 3) := by decide +kernel
theorem dX8_group_43 : decode cX8_group 43 = .ok (.iload_n 1, 1) := by decide +kernel
theorem dX8_group_44 : decode cX8_group 44 = .ok (.invokestatic 232, 3) := by decide +kernel
theorem dX8_group_47 : decode cX8_group 47 = .ok (.lstore_n 3, 1) := by decide +kernel
theorem dX8_group_48 : decode cX8_group 48 = .ok (.iload_n 2, 1) := by decide +kernel
theorem dX8_group_49 : decode cX8_group 49 = .ok (.ifCond .eq 9, 3) := by decide +kernel
theorem dX8_group_52 : decode cX8_group 52 = .ok (.lload_n 3, 1) := by decide +kernel
theorem dX8_group_53 : decode cX8_group 53 = .ok (.lconst 0, 1) := by decide +kernel
theorem dX8_group_54 : decode cX8_group 54 = .ok (.lcmp, 1) := by decide +kernel
theorem dX8_group_55 : decode cX8_group 55 = .ok (.ifCond .ne 7, 3) := by decide +kernel
theorem dX8_group_58 : decode cX8_group 58 = .ok (.lload_n 3, 1) := by decide +kernel
theorem dX8_group_59 : decode cX8_group 59 = .ok (.goto 11, 3) := by decide +kernel
theorem dX8_group_62 : decode cX8_group 62 = .ok (.aload_n 0, 1) := by decide +kernel
theorem dX8_group_63 : decode cX8_group 63 = .ok (.getfield 13, 3) := by decide +kernel
theorem dX8_group_66 : decode cX8_group 66 = .ok (.lload_n 3, 1) := by decide +kernel
theorem dX8_group_67 : decode cX8_group 67 = .ok (.invokestatic 226, 3) := by decide +kernel
theorem dX8_group_70 : decode cX8_group 70 = .ok (.lreturn, 1) := by decide +kernel
set_option maxRecDepth 20000 in
theorem ggX8_why_X8_isPoint : GoodIn wsX8_why wsX8_isPoint := goodIn_r _ [5, 6, 7, 4, 8, 9, 10, 11] (by decide +kernel) (by decide +kernel)
set_option maxRecDepth 20000 in
theorem gX8_why_X8_isPoint : GoodIn wsX8_why (va_wsS RX8 182 yX8_isPoint wsX8_isPoint) := goodIn_app (goodIn_of _ (by decide +kernel)) ggX8_why_X8_isPoint
set_option maxRecDepth 20000 in
theorem ggX8_why_X8_refused : GoodIn wsX8_why wsX8_refused := goodIn_r _ [15, 16, 66, 67, 68, 69, 70, 71, 72, 73, 74, 75, 76, 77, 78, 79, 80, 81, 82, 83, 84] (by decide +kernel) (by decide +kernel)
set_option maxRecDepth 20000 in
theorem gX8_why_X8_refused : GoodIn wsX8_why (wsV RX8 163 RX8 yX8_refused wsX8_refused) := goodIn_app (goodIn_of _ (by decide +kernel)) ggX8_why_X8_refused
set_option maxRecDepth 20000 in
theorem ggX8_why_X8_whyNot : GoodIn wsX8_why wsX8_whyNot := goodIn_r _ [20, 21, 22, 23, 24, 4, 25, 26, 27, 28, 29, 30, 31, 32, 33, 34, 35, 36, 37, 38, 39, 40, 41, 42, 43, 44, 45, 46, 47, 48, 49, 50, 51, 52, 53, 54, 55, 56, 57, 58, 59, 60, 61, 62, 63, 64, 65, 66, 67, 68, 69, 70, 71, 72, 73, 74, 75, 76, 77, 78, 79, 80, 81, 82, 83, 84] (by decide +kernel) (by decide +kernel)
set_option maxRecDepth 20000 in
theorem gX8_why_X8_whyNot : GoodIn wsX8_why (wsV RX8 186 RX8 yX8_whyNot wsX8_whyNot) := goodIn_app (goodIn_of _ (by decide +kernel)) ggX8_why_X8_whyNot
theorem dX8_why_0 : decode cX8_why 0 = .ok (.aload_n 0, 1) := by decide +kernel
theorem dX8_why_1 : decode cX8_why 1 = .ok (.aload_n 0, 1) := by decide +kernel
theorem dX8_why_2 : decode cX8_why 2 = .ok (.getfield 13, 3) := by decide +kernel
theorem dX8_why_5 : decode cX8_why 5 = .ok (.iload_n 1, 1) := by decide +kernel
theorem dX8_why_6 : decode cX8_why 6 = .ok (.invokestatic 182, 3) := by decide +kernel
theorem dX8_why_9 : decode cX8_why 9 = .ok (.ifCond .eq 7, 3) := by decide +kernel
theorem dX8_why_12 : decode cX8_why 12 = .ok (.iconst 0, 1) := by decide +kernel
theorem dX8_why_13 : decode cX8_why 13 = .ok (.goto 4, 3) := by decide +kernel
theorem dX8_why_16 : decode cX8_why 16 = .ok (.iconst 1, 1) := by decide +kernel
theorem dX8_why_17 : decode cX8_why 17 = .ok (.invokevirtual 163, 3) := by decide +kernel
theorem dX8_why_20 : decode cX8_why 20 = .ok (.ifCond .eq 5, 3) := by decide +kernel
theorem dX8_why_23 : decode cX8_why 23 = .ok (.iconst 0, 1) := by decide +kernel
theorem dX8_why_24 : decode cX8_why 24 = .ok (.ireturn, 1) := by decide +kernel
theorem dX8_why_25 : decode cX8_why 25 = .ok (.aload_n 0, 1) := by decide +kernel
theorem dX8_why_26 : decode cX8_why 26 = .ok (.aload_n 0, 1) := by decide +kernel
theorem dX8_why_27 : decode cX8_why 27 = .ok (.getfield 13, 3) := by decide +kernel
theorem dX8_why_30 : decode cX8_why 30 = .ok (.iload_n 1, 1) := by decide +kernel
theorem dX8_why_31 : decode cX8_why 31 = .ok (.invokevirtual 186, 3) := by decide +kernel
theorem dX8_why_34 : decode cX8_why 34 = .ok (.ireturn, 1) := by decide +kernel
set_option maxRecDepth 20000 in
theorem ggX8_remember_X8_copyState : GoodIn wsX8_remember wsX8_copyState := goodIn_r _ [7] (by decide +kernel) (by decide +kernel)
set_option maxRecDepth 20000 in
theorem gX8_remember_X8_copyState : GoodIn wsX8_remember (va_wsS RX8 200 yX8_copyState wsX8_copyState) := goodIn_app (goodIn_of _ (by decide +kernel)) ggX8_remember_X8_copyState
theorem dX8_remember_0 : decode cX8_remember 0 = .ok (.aload_n 0, 1) := by decide +kernel
theorem dX8_remember_1 : decode cX8_remember 1 = .ok (.getfield 204, 3) := by decide +kernel
theorem dX8_remember_4 : decode cX8_remember 4 = .ok (.bipush 14, 2) := by decide +kernel
theorem dX8_remember_6 : decode cX8_remember 6 = .ok (.if_icmp .ne 44, 3) := by decide +kernel
theorem dX8_remember_9 : decode cX8_remember 9 = .ok (.iconst 0, 1) := by decide +kernel
theorem dX8_remember_10 : decode cX8_remember 10 = .ok (.istore_n 1, 1) := by decide +kernel
theorem dX8_remember_11 : decode cX8_remember 11 = .ok (.iload_n 1, 1) := by decide +kernel
theorem dX8_remember_12 : decode cX8_remember 12 = .ok (.sipush 3250, 3) := by decide +kernel
theorem dX8_remember_15 : decode cX8_remember 15 = .ok (.if_icmp .ge 25, 3) := by decide +kernel
theorem dX8_remember_18 : decode cX8_remember 18 = .ok (.aload_n 0, 1) := by decide +kernel
theorem dX8_remember_19 : decode cX8_remember 19 = .ok (.getfield 20, 3) := by decide +kernel
theorem dX8_remember_22 : decode cX8_remember 22 = .ok (.iload_n 1, 1) := by decide +kernel
theorem dX8_remember_23 : decode cX8_remember 23 = .ok (.aload_n 0, 1) := by decide +kernel
theorem dX8_remember_24 : decode cX8_remember 24 = .ok (.getfield 20, 3) := by decide +kernel
theorem dX8_remember_27 : decode cX8_remember 27 = .ok (.iload_n 1, 1) := by decide +kernel
theorem dX8_remember_28 : decode cX8_remember 28 = .ok (.sipush 250, 3) := by decide +kernel
theorem dX8_remember_31 : decode cX8_remember 31 = .ok (.iadd, 1) := by decide +kernel
theorem dX8_remember_32 : decode cX8_remember 32 = .ok (.laload, 1) := by decide +kernel
theorem dX8_remember_33 : decode cX8_remember 33 = .ok (.lastore, 1) := by decide +kernel
theorem dX8_remember_34 : decode cX8_remember 34 = .ok (.iinc 1 1, 3) := by decide +kernel
theorem dX8_remember_37 : decode cX8_remember 37 = .ok (.goto (-26), 3) := by decide +kernel
theorem dX8_remember_40 : decode cX8_remember 40 = .ok (.aload_n 0, 1) := by decide +kernel
theorem dX8_remember_41 : decode cX8_remember 41 = .ok (.dup, 1) := by decide +kernel
theorem dX8_remember_42 : decode cX8_remember 42 = .ok (.getfield 204, 3) := by decide +kernel
theorem dX8_remember_45 : decode cX8_remember 45 = .ok (.iconst 1, 1) := by decide +kernel
theorem dX8_remember_46 : decode cX8_remember 46 = .ok (.isub, 1) := by decide +kernel
theorem dX8_remember_47 : decode cX8_remember 47 = .ok (.putfield 204, 3) := by decide +kernel
theorem dX8_remember_50 : decode cX8_remember 50 = .ok (.aload_n 0, 1) := by decide +kernel
theorem dX8_remember_51 : decode cX8_remember 51 = .ok (.getfield 13, 3) := by decide +kernel
theorem dX8_remember_54 : decode cX8_remember 54 = .ok (.iconst 0, 1) := by decide +kernel
theorem dX8_remember_55 : decode cX8_remember 55 = .ok (.aload_n 0, 1) := by decide +kernel
theorem dX8_remember_56 : decode cX8_remember 56 = .ok (.getfield 20, 3) := by decide +kernel
theorem dX8_remember_59 : decode cX8_remember 59 = .ok (.sipush 250, 3) := by decide +kernel
theorem dX8_remember_62 : decode cX8_remember 62 = .ok (.aload_n 0, 1) := by decide +kernel
theorem dX8_remember_63 : decode cX8_remember 63 = .ok (.getfield 204, 3) := by decide +kernel
theorem dX8_remember_66 : decode cX8_remember 66 = .ok (.imul, 1) := by decide +kernel
theorem dX8_remember_67 : decode cX8_remember 67 = .ok (.invokestatic 200, 3) := by decide +kernel
theorem dX8_remember_70 : decode cX8_remember 70 = .ok (.aload_n 0, 1) := by decide +kernel
theorem dX8_remember_71 : decode cX8_remember 71 = .ok (.dup, 1) := by decide +kernel
theorem dX8_remember_72 : decode cX8_remember 72 = .ok (.getfield 204, 3) := by decide +kernel
theorem dX8_remember_75 : decode cX8_remember 75 = .ok (.iconst 1, 1) := by decide +kernel
theorem dX8_remember_76 : decode cX8_remember 76 = .ok (.iadd, 1) := by decide +kernel
theorem dX8_remember_77 : decode cX8_remember 77 = .ok (.putfield 204, 3) := by decide +kernel
theorem dX8_remember_80 : decode cX8_remember 80 = .ok (.return_, 1) := by decide +kernel
set_option maxRecDepth 20000 in
theorem ggX8_board_X8_in : GoodIn wsX8_board wsX8_in := goodIn_r _ [7] (by decide +kernel) (by decide +kernel)
set_option maxRecDepth 20000 in
theorem gX8_board_X8_in : GoodIn wsX8_board (va_wsS RX8 51 yX8_in wsX8_in) := goodIn_app (goodIn_of _ (by decide +kernel)) ggX8_board_X8_in
set_option maxRecDepth 20000 in
theorem ggX8_board_X8_refused : GoodIn wsX8_board wsX8_refused := goodIn_r _ [11, 12, 25, 26, 27, 28, 29, 30, 31, 32, 33, 34, 35, 36, 37, 38, 39, 40, 41, 42, 43] (by decide +kernel) (by decide +kernel)
set_option maxRecDepth 20000 in
theorem gX8_board_X8_refused : GoodIn wsX8_board (wsV RX8 163 RX8 yX8_refused wsX8_refused) := goodIn_app (goodIn_of _ (by decide +kernel)) ggX8_board_X8_refused
set_option maxRecDepth 20000 in
theorem ggX8_board_X8_remember : GoodIn wsX8_board wsX8_remember := goodIn_r _ [16, 17, 18, 3, 19, 20, 6, 21, 25, 26, 27, 28, 29, 30, 31, 32, 33, 34, 35, 36, 37, 38, 39, 40, 41, 42, 43] (by decide +kernel) (by decide +kernel)
set_option maxRecDepth 20000 in
theorem gX8_board_X8_remember : GoodIn wsX8_board (wsV RX8 241 RX8 yX8_remember wsX8_remember) := goodIn_app (goodIn_of _ (by decide +kernel)) ggX8_board_X8_remember
set_option maxRecDepth 20000 in
theorem ggX8_board_X8_clear : GoodIn wsX8_board wsX8_clear := goodIn_r _ [24] (by decide +kernel) (by decide +kernel)
set_option maxRecDepth 20000 in
theorem gX8_board_X8_clear : GoodIn wsX8_board (va_wsS RX8 39 yX8_clear wsX8_clear) := goodIn_app (goodIn_of _ (by decide +kernel)) ggX8_board_X8_clear
theorem dX8_board_0 : decode cX8_board 0 = .ok (.aload_n 0, 1) := by decide +kernel
theorem dX8_board_1 : decode cX8_board 1 = .ok (.iload_n 1, 1) := by decide +kernel
theorem dX8_board_2 : decode cX8_board 2 = .ok (.i2l, 1) := by decide +kernel
theorem dX8_board_3 : decode cX8_board 3 = .ok (.ldc2_w 239, 3) := by decide +kernel
theorem dX8_board_6 : decode cX8_board 6 = .ok (.ldc2_w 207, 3) := by decide +kernel
theorem dX8_board_9 : decode cX8_board 9 = .ok (.invokestatic 51, 3) := by decide +kernel
theorem dX8_board_12 : decode cX8_board 12 = .ok (.ifCond .eq 7, 3) := by decide +kernel
theorem dX8_board_15 : decode cX8_board 15 = .ok (.iconst 0, 1) := by decide +kernel
theorem dX8_board_16 : decode cX8_board 16 = .ok (.goto 4, 3) := by decide +kernel
theorem dX8_board_19 : decode cX8_board 19 = .ok (.iconst 1, 1) := by decide +kernel
theorem dX8_board_20 : decode cX8_board 20 = .ok (.invokevirtual 163, 3) := by decide +kernel
theorem dX8_board_23 : decode cX8_board 23 = .ok (.ifCond .eq 5, 3) := by decide +kernel
theorem dX8_board_26 : decode cX8_board 26 = .ok (.iconst 0, 1) := by decide +kernel
theorem dX8_board_27 : decode cX8_board 27 = .ok (.ireturn, 1) := by decide +kernel
theorem dX8_board_28 : decode cX8_board 28 = .ok (.aload_n 0, 1) := by decide +kernel
theorem dX8_board_29 : decode cX8_board 29 = .ok (.invokevirtual 241, 3) := by decide +kernel
theorem dX8_board_32 : decode cX8_board 32 = .ok (.aload_n 0, 1) := by decide +kernel
theorem dX8_board_33 : decode cX8_board 33 = .ok (.getfield 13, 3) := by decide +kernel
theorem dX8_board_36 : decode cX8_board 36 = .ok (.iload_n 1, 1) := by decide +kernel
theorem dX8_board_37 : decode cX8_board 37 = .ok (.invokestatic 39, 3) := by decide +kernel
theorem dX8_board_40 : decode cX8_board 40 = .ok (.iload_n 1, 1) := by decide +kernel
theorem dX8_board_41 : decode cX8_board 41 = .ok (.iload_n 1, 1) := by decide +kernel
theorem dX8_board_42 : decode cX8_board 42 = .ok (.imul, 1) := by decide +kernel
theorem dX8_board_43 : decode cX8_board 43 = .ok (.ireturn, 1) := by decide +kernel
set_option maxRecDepth 20000 in
theorem ggX8_play_X8_isPoint : GoodIn wsX8_play wsX8_isPoint := goodIn_r _ [5, 6, 7, 4, 8, 9, 10, 11] (by decide +kernel) (by decide +kernel)
set_option maxRecDepth 20000 in
theorem gX8_play_X8_isPoint : GoodIn wsX8_play (va_wsS RX8 182 yX8_isPoint wsX8_isPoint) := goodIn_app (goodIn_of _ (by decide +kernel)) ggX8_play_X8_isPoint
set_option maxRecDepth 20000 in
theorem ggX8_play_X8_whyNot : GoodIn wsX8_play wsX8_whyNot := goodIn_r _ [15, 16, 17, 18, 19, 4, 20, 21, 22, 23, 24, 25, 26, 27, 28, 29, 30, 31, 32, 33, 34, 35, 36, 37, 38, 39, 40, 41, 42, 43, 44, 45, 46, 47, 48, 49, 50, 51, 52, 53, 54, 55, 56, 57, 58, 59, 60, 82, 83, 84, 85, 86, 87, 88, 89, 90, 91, 92, 93, 94, 95, 96, 97, 98, 99, 100] (by decide +kernel) (by decide +kernel)
set_option maxRecDepth 20000 in
theorem gX8_play_X8_whyNot : GoodIn wsX8_play (wsV RX8 186 RX8 yX8_whyNot wsX8_whyNot) := goodIn_app (goodIn_of _ (by decide +kernel)) ggX8_play_X8_whyNot
set_option maxRecDepth 20000 in
theorem ggX8_play_X8_refused : GoodIn wsX8_play wsX8_refused := goodIn_r _ [64, 65, 82, 83, 84, 85, 86, 87, 88, 89, 90, 91, 92, 93, 94, 95, 96, 97, 98, 99, 100] (by decide +kernel) (by decide +kernel)
set_option maxRecDepth 20000 in
theorem gX8_play_X8_refused : GoodIn wsX8_play (wsV RX8 163 RX8 yX8_refused wsX8_refused) := goodIn_app (goodIn_of _ (by decide +kernel)) ggX8_play_X8_refused
set_option maxRecDepth 20000 in
theorem ggX8_play_X8_remember : GoodIn wsX8_play wsX8_remember := goodIn_r _ [69, 70, 71, 1, 72, 73, 4, 74, 82, 83, 84, 85, 86, 87, 88, 89, 90, 91, 92, 93, 94, 95, 96, 97, 98, 99, 100] (by decide +kernel) (by decide +kernel)
set_option maxRecDepth 20000 in
theorem gX8_play_X8_remember : GoodIn wsX8_play (wsV RX8 241 RX8 yX8_remember wsX8_remember) := goodIn_app (goodIn_of _ (by decide +kernel)) ggX8_play_X8_remember
set_option maxRecDepth 20000 in
theorem ggX8_play_X8_playOn : GoodIn wsX8_play wsX8_playOn := goodIn_r _ [78, 34, 16, 17, 18, 19, 4, 20, 79, 80, 81, 24, 25, 26, 82, 83, 84, 85, 86, 87, 88, 89, 90, 91, 92, 93, 94, 95, 96, 97, 98, 99, 100] (by decide +kernel) (by decide +kernel)
set_option maxRecDepth 20000 in
theorem gX8_play_X8_playOn : GoodIn wsX8_play (wsV RX8 190 RX8 yX8_playOn wsX8_playOn) := goodIn_app (goodIn_of _ (by decide +kernel)) ggX8_play_X8_playOn
theorem dX8_play_0 : decode cX8_play 0 = .ok (.aload_n 0, 1) := by decide +kernel
theorem dX8_play_1 : decode cX8_play 1 = .ok (.aload_n 0, 1) := by decide +kernel
theorem dX8_play_2 : decode cX8_play 2 = .ok (.getfield 13, 3) := by decide +kernel
theorem dX8_play_5 : decode cX8_play 5 = .ok (.iload_n 1, 1) := by decide +kernel
theorem dX8_play_6 : decode cX8_play 6 = .ok (.invokestatic 182, 3) := by decide +kernel
theorem dX8_play_9 : decode cX8_play 9 = .ok (.ifCond .ne 7, 3) := by decide +kernel
theorem dX8_play_12 : decode cX8_play 12 = .ok (.iconst 1, 1) := by decide +kernel
theorem dX8_play_13 : decode cX8_play 13 = .ok (.goto 20, 3) := by decide +kernel
theorem dX8_play_16 : decode cX8_play 16 = .ok (.aload_n 0, 1) := by decide +kernel
theorem dX8_play_17 : decode cX8_play 17 = .ok (.aload_n 0, 1) := by decide +kernel
theorem dX8_play_18 : decode cX8_play 18 = .ok (.getfield 13, 3) := by decide +kernel
theorem dX8_play_21 : decode cX8_play 21 = .ok (.iload_n 1, 1) := by decide +kernel
theorem dX8_play_22 : decode cX8_play 22 = .ok (.invokevirtual 186, 3) := by decide +kernel
theorem dX8_play_25 : decode cX8_play 25 = .ok (.ifCond .ne 7, 3) := by decide +kernel
theorem dX8_play_28 : decode cX8_play 28 = .ok (.iconst 0, 1) := by decide +kernel
theorem dX8_play_29 : decode cX8_play 29 = .ok (.goto 4, 3) := by decide +kernel
theorem dX8_play_32 : decode cX8_play 32 = .ok (.iconst 2, 1) := by decide +kernel
theorem dX8_play_33 : decode cX8_play 33 = .ok (.invokevirtual 163, 3) := by decide +kernel
theorem dX8_play_36 : decode cX8_play 36 = .ok (.ifCond .eq 5, 3) := by decide +kernel
theorem dX8_play_39 : decode cX8_play 39 = .ok (.iconst 0, 1) := by decide +kernel
theorem dX8_play_40 : decode cX8_play 40 = .ok (.ireturn, 1) := by decide +kernel
theorem dX8_play_41 : decode cX8_play 41 = .ok (.aload_n 0, 1) := by decide +kernel
theorem dX8_play_42 : decode cX8_play 42 = .ok (.invokevirtual 241, 3) := by decide +kernel
theorem dX8_play_45 : decode cX8_play 45 = .ok (.aload_n 0, 1) := by decide +kernel
theorem dX8_play_46 : decode cX8_play 46 = .ok (.aload_n 0, 1) := by decide +kernel
theorem dX8_play_47 : decode cX8_play 47 = .ok (.getfield 13, 3) := by decide +kernel
theorem dX8_play_50 : decode cX8_play 50 = .ok (.invokevirtual 190, 3) := by decide +kernel
theorem dX8_play_53 : decode cX8_play 53 = .ok (.ireturn, 1) := by decide +kernel
set_option maxRecDepth 20000 in
theorem ggX8_pass_X8_moves : GoodIn wsX8_pass wsX8_moves := goodIn_r _ [5] (by decide +kernel) (by decide +kernel)
set_option maxRecDepth 20000 in
theorem gX8_pass_X8_moves : GoodIn wsX8_pass (va_wsS RX8 55 yX8_moves wsX8_moves) := goodIn_app (goodIn_of _ (by decide +kernel)) ggX8_pass_X8_moves
set_option maxRecDepth 20000 in
theorem ggX8_pass_X8_refused : GoodIn wsX8_pass wsX8_refused := goodIn_r _ [9, 10, 29, 30, 31, 32, 33, 34, 35, 36, 37, 38, 39, 40, 41, 42, 43, 44, 45, 46, 47] (by decide +kernel) (by decide +kernel)
set_option maxRecDepth 20000 in
theorem gX8_pass_X8_refused : GoodIn wsX8_pass (wsV RX8 163 RX8 yX8_refused wsX8_refused) := goodIn_app (goodIn_of _ (by decide +kernel)) ggX8_pass_X8_refused
set_option maxRecDepth 20000 in
theorem ggX8_pass_X8_remember : GoodIn wsX8_pass wsX8_remember := goodIn_r _ [14, 15, 16, 1, 17, 18, 4, 19, 29, 30, 31, 32, 33, 34, 35, 36, 37, 38, 39, 40, 41, 42, 43, 44, 45, 46, 47] (by decide +kernel) (by decide +kernel)
set_option maxRecDepth 20000 in
theorem gX8_pass_X8_remember : GoodIn wsX8_pass (wsV RX8 241 RX8 yX8_remember wsX8_remember) := goodIn_app (goodIn_of _ (by decide +kernel)) ggX8_pass_X8_remember
set_option maxRecDepth 20000 in
theorem ggX8_pass_X8_passOn : GoodIn wsX8_pass wsX8_passOn := goodIn_r _ [22, 23, 24, 4, 25, 2, 3, 5, 26, 27, 28] (by decide +kernel) (by decide +kernel)
set_option maxRecDepth 20000 in
theorem gX8_pass_X8_passOn : GoodIn wsX8_pass (va_wsS RX8 175 yX8_passOn wsX8_passOn) := goodIn_app (goodIn_of _ (by decide +kernel)) ggX8_pass_X8_passOn
theorem dX8_pass_0 : decode cX8_pass 0 = .ok (.aload_n 0, 1) := by decide +kernel
theorem dX8_pass_1 : decode cX8_pass 1 = .ok (.aload_n 0, 1) := by decide +kernel
theorem dX8_pass_2 : decode cX8_pass 2 = .ok (.getfield 13, 3) := by decide +kernel
theorem dX8_pass_5 : decode cX8_pass 5 = .ok (.invokestatic 55, 3) := by decide +kernel
theorem dX8_pass_8 : decode cX8_pass 8 = .ok (.bipush 120, 2) := by decide +kernel
theorem dX8_pass_10 : decode cX8_pass 10 = .ok (.if_icmp .ge 7, 3) := by decide +kernel
theorem dX8_pass_13 : decode cX8_pass 13 = .ok (.iconst 0, 1) := by decide +kernel
theorem dX8_pass_14 : decode cX8_pass 14 = .ok (.goto 4, 3) := by decide +kernel
theorem dX8_pass_17 : decode cX8_pass 17 = .ok (.iconst 1, 1) := by decide +kernel
theorem dX8_pass_18 : decode cX8_pass 18 = .ok (.invokevirtual 163, 3) := by decide +kernel
theorem dX8_pass_21 : decode cX8_pass 21 = .ok (.ifCond .eq 5, 3) := by decide +kernel
theorem dX8_pass_24 : decode cX8_pass 24 = .ok (.iconst 0, 1) := by decide +kernel
theorem dX8_pass_25 : decode cX8_pass 25 = .ok (.ireturn, 1) := by decide +kernel
theorem dX8_pass_26 : decode cX8_pass 26 = .ok (.aload_n 0, 1) := by decide +kernel
theorem dX8_pass_27 : decode cX8_pass 27 = .ok (.invokevirtual 241, 3) := by decide +kernel
theorem dX8_pass_30 : decode cX8_pass 30 = .ok (.aload_n 0, 1) := by decide +kernel
theorem dX8_pass_31 : decode cX8_pass 31 = .ok (.getfield 13, 3) := by decide +kernel
theorem dX8_pass_34 : decode cX8_pass 34 = .ok (.invokestatic 175, 3) := by decide +kernel
theorem dX8_pass_37 : decode cX8_pass 37 = .ok (.ireturn, 1) := by decide +kernel
set_option maxRecDepth 20000 in
theorem ggX8_set_X8_in : GoodIn wsX8_set wsX8_in := goodIn_r _ [5] (by decide +kernel) (by decide +kernel)
set_option maxRecDepth 20000 in
theorem gX8_set_X8_in : GoodIn wsX8_set (va_wsS RX8 51 yX8_in wsX8_in) := goodIn_app (goodIn_of _ (by decide +kernel)) ggX8_set_X8_in
set_option maxRecDepth 20000 in
theorem ggX8_set_X8_refused : GoodIn wsX8_set wsX8_refused := goodIn_r _ [9, 10, 23, 24, 25, 26, 27, 28, 29, 30, 31, 32, 33, 34, 35, 36, 37, 38, 39, 40, 41] (by decide +kernel) (by decide +kernel)
set_option maxRecDepth 20000 in
theorem gX8_set_X8_refused : GoodIn wsX8_set (wsV RX8 163 RX8 yX8_refused wsX8_refused) := goodIn_app (goodIn_of _ (by decide +kernel)) ggX8_set_X8_refused
set_option maxRecDepth 20000 in
theorem ggX8_set_X8_remember : GoodIn wsX8_set wsX8_remember := goodIn_r _ [14, 15, 16, 1, 17, 18, 4, 19, 23, 24, 25, 26, 27, 28, 29, 30, 31, 32, 33, 34, 35, 36, 37, 38, 39, 40, 41] (by decide +kernel) (by decide +kernel)
set_option maxRecDepth 20000 in
theorem gX8_set_X8_remember : GoodIn wsX8_set (wsV RX8 241 RX8 yX8_remember wsX8_remember) := goodIn_app (goodIn_of _ (by decide +kernel)) ggX8_set_X8_remember
set_option maxRecDepth 20000 in
theorem ggX8_set_X8_ruleOn : GoodIn wsX8_set wsX8_ruleOn := goodIn_r _ [22] (by decide +kernel) (by decide +kernel)
set_option maxRecDepth 20000 in
theorem gX8_set_X8_ruleOn : GoodIn wsX8_set (va_wsS RX8 244 yX8_ruleOn wsX8_ruleOn) := goodIn_app (goodIn_of _ (by decide +kernel)) ggX8_set_X8_ruleOn
theorem dX8_set_0 : decode cX8_set 0 = .ok (.aload_n 0, 1) := by decide +kernel
theorem dX8_set_1 : decode cX8_set 1 = .ok (.iload_n 1, 1) := by decide +kernel
theorem dX8_set_2 : decode cX8_set 2 = .ok (.i2l, 1) := by decide +kernel
theorem dX8_set_3 : decode cX8_set 3 = .ok (.lconst 0, 1) := by decide +kernel
theorem dX8_set_4 : decode cX8_set 4 = .ok (.lconst 1, 1) := by decide +kernel
theorem dX8_set_5 : decode cX8_set 5 = .ok (.invokestatic 51, 3) := by decide +kernel
theorem dX8_set_8 : decode cX8_set 8 = .ok (.ifCond .eq 7, 3) := by decide +kernel
theorem dX8_set_11 : decode cX8_set 11 = .ok (.iconst 0, 1) := by decide +kernel
theorem dX8_set_12 : decode cX8_set 12 = .ok (.goto 4, 3) := by decide +kernel
theorem dX8_set_15 : decode cX8_set 15 = .ok (.iconst 1, 1) := by decide +kernel
theorem dX8_set_16 : decode cX8_set 16 = .ok (.invokevirtual 163, 3) := by decide +kernel
theorem dX8_set_19 : decode cX8_set 19 = .ok (.ifCond .eq 5, 3) := by decide +kernel
theorem dX8_set_22 : decode cX8_set 22 = .ok (.iconst 0, 1) := by decide +kernel
theorem dX8_set_23 : decode cX8_set 23 = .ok (.ireturn, 1) := by decide +kernel
theorem dX8_set_24 : decode cX8_set 24 = .ok (.aload_n 0, 1) := by decide +kernel
theorem dX8_set_25 : decode cX8_set 25 = .ok (.invokevirtual 241, 3) := by decide +kernel
theorem dX8_set_28 : decode cX8_set 28 = .ok (.aload_n 0, 1) := by decide +kernel
theorem dX8_set_29 : decode cX8_set 29 = .ok (.getfield 13, 3) := by decide +kernel
theorem dX8_set_32 : decode cX8_set 32 = .ok (.iload_n 1, 1) := by decide +kernel
theorem dX8_set_33 : decode cX8_set 33 = .ok (.invokestatic 244, 3) := by decide +kernel
theorem dX8_set_36 : decode cX8_set 36 = .ok (.ireturn, 1) := by decide +kernel
set_option maxRecDepth 20000 in
theorem ggX8_undo_X8_refused : GoodIn wsX8_undo wsX8_refused := goodIn_r _ [8, 9, 13, 14, 15, 16, 17, 18, 19, 20, 21, 22, 23, 24, 25, 26, 27, 28, 29, 30, 31] (by decide +kernel) (by decide +kernel)
set_option maxRecDepth 20000 in
theorem gX8_undo_X8_refused : GoodIn wsX8_undo (wsV RX8 163 RX8 yX8_refused wsX8_refused) := goodIn_app (goodIn_of _ (by decide +kernel)) ggX8_undo_X8_refused
set_option maxRecDepth 20000 in
theorem ggX8_undo_X8_copyState : GoodIn wsX8_undo wsX8_copyState := goodIn_r _ [12] (by decide +kernel) (by decide +kernel)
set_option maxRecDepth 20000 in
theorem gX8_undo_X8_copyState : GoodIn wsX8_undo (va_wsS RX8 200 yX8_copyState wsX8_copyState) := goodIn_app (goodIn_of _ (by decide +kernel)) ggX8_undo_X8_copyState
theorem dX8_undo_0 : decode cX8_undo 0 = .ok (.aload_n 0, 1) := by decide +kernel
theorem dX8_undo_1 : decode cX8_undo 1 = .ok (.aload_n 0, 1) := by decide +kernel
theorem dX8_undo_2 : decode cX8_undo 2 = .ok (.getfield 204, 3) := by decide +kernel
theorem dX8_undo_5 : decode cX8_undo 5 = .ok (.ifCond .ne 7, 3) := by decide +kernel
theorem dX8_undo_8 : decode cX8_undo 8 = .ok (.iconst 1, 1) := by decide +kernel
theorem dX8_undo_9 : decode cX8_undo 9 = .ok (.goto 4, 3) := by decide +kernel
theorem dX8_undo_12 : decode cX8_undo 12 = .ok (.iconst 0, 1) := by decide +kernel
theorem dX8_undo_13 : decode cX8_undo 13 = .ok (.invokevirtual 163, 3) := by decide +kernel
theorem dX8_undo_16 : decode cX8_undo 16 = .ok (.ifCond .eq 5, 3) := by decide +kernel
theorem dX8_undo_19 : decode cX8_undo 19 = .ok (.iconst 0, 1) := by decide +kernel
theorem dX8_undo_20 : decode cX8_undo 20 = .ok (.ireturn, 1) := by decide +kernel
theorem dX8_undo_21 : decode cX8_undo 21 = .ok (.aload_n 0, 1) := by decide +kernel
theorem dX8_undo_22 : decode cX8_undo 22 = .ok (.dup, 1) := by decide +kernel
theorem dX8_undo_23 : decode cX8_undo 23 = .ok (.getfield 204, 3) := by decide +kernel
theorem dX8_undo_26 : decode cX8_undo 26 = .ok (.iconst 1, 1) := by decide +kernel
theorem dX8_undo_27 : decode cX8_undo 27 = .ok (.isub, 1) := by decide +kernel
theorem dX8_undo_28 : decode cX8_undo 28 = .ok (.putfield 204, 3) := by decide +kernel
theorem dX8_undo_31 : decode cX8_undo 31 = .ok (.aload_n 0, 1) := by decide +kernel
theorem dX8_undo_32 : decode cX8_undo 32 = .ok (.getfield 20, 3) := by decide +kernel
theorem dX8_undo_35 : decode cX8_undo 35 = .ok (.sipush 250, 3) := by decide +kernel
theorem dX8_undo_38 : decode cX8_undo 38 = .ok (.aload_n 0, 1) := by decide +kernel
theorem dX8_undo_39 : decode cX8_undo 39 = .ok (.getfield 204, 3) := by decide +kernel
theorem dX8_undo_42 : decode cX8_undo 42 = .ok (.imul, 1) := by decide +kernel
theorem dX8_undo_43 : decode cX8_undo 43 = .ok (.aload_n 0, 1) := by decide +kernel
theorem dX8_undo_44 : decode cX8_undo 44 = .ok (.getfield 13, 3) := by decide +kernel
theorem dX8_undo_47 : decode cX8_undo 47 = .ok (.iconst 0, 1) := by decide +kernel
theorem dX8_undo_48 : decode cX8_undo 48 = .ok (.invokestatic 200, 3) := by decide +kernel
theorem dX8_undo_51 : decode cX8_undo 51 = .ok (.aload_n 0, 1) := by decide +kernel
theorem dX8_undo_52 : decode cX8_undo 52 = .ok (.getfield 204, 3) := by decide +kernel
theorem dX8_undo_55 : decode cX8_undo 55 = .ok (.ireturn, 1) := by decide +kernel
set_option maxRecDepth 20000 in
theorem ggX8_ifPlayed_X8_isPoint : GoodIn wsX8_ifPlayed wsX8_isPoint := goodIn_r _ [10, 11, 12, 9, 13, 14, 15, 16] (by decide +kernel) (by decide +kernel)
set_option maxRecDepth 20000 in
theorem gX8_ifPlayed_X8_isPoint : GoodIn wsX8_ifPlayed (va_wsS RX8 182 yX8_isPoint wsX8_isPoint) := goodIn_app (goodIn_of _ (by decide +kernel)) ggX8_ifPlayed_X8_isPoint
set_option maxRecDepth 20000 in
theorem ggX8_ifPlayed_X8_in : GoodIn wsX8_ifPlayed wsX8_in := goodIn_r _ [16] (by decide +kernel) (by decide +kernel)
set_option maxRecDepth 20000 in
theorem gX8_ifPlayed_X8_in : GoodIn wsX8_ifPlayed (va_wsS RX8 51 yX8_in wsX8_in) := goodIn_app (goodIn_of _ (by decide +kernel)) ggX8_ifPlayed_X8_in
set_option maxRecDepth 20000 in
theorem ggX8_ifPlayed_X8_refused : GoodIn wsX8_ifPlayed wsX8_refused := goodIn_r _ [20, 21, 70, 71, 72, 73, 74, 75, 76, 77, 78, 79, 80, 81, 82, 83, 84, 85, 86, 87, 88] (by decide +kernel) (by decide +kernel)
set_option maxRecDepth 20000 in
theorem gX8_ifPlayed_X8_refused : GoodIn wsX8_ifPlayed (wsV RX8 163 RX8 yX8_refused wsX8_refused) := goodIn_app (goodIn_of _ (by decide +kernel)) ggX8_ifPlayed_X8_refused
set_option maxRecDepth 20000 in
theorem ggX8_ifPlayed_X8_whyNot : GoodIn wsX8_ifPlayed wsX8_whyNot := goodIn_r _ [25, 5, 6, 26, 27, 9, 28, 29, 30, 31, 32, 33, 34, 35, 36, 37, 38, 39, 40, 41, 3, 42, 4, 43, 44, 45, 46, 47, 48, 49, 50, 51, 52, 53, 54, 55, 56, 57, 58, 59, 60, 61, 62, 63, 64, 65, 66, 70, 71, 72, 73, 74, 75, 76, 77, 78, 79, 80, 81, 82, 83, 84, 85, 86, 87, 88] (by decide +kernel) (by decide +kernel)
set_option maxRecDepth 20000 in
theorem gX8_ifPlayed_X8_whyNot : GoodIn wsX8_ifPlayed (wsV RX8 186 RX8 yX8_whyNot wsX8_whyNot) := goodIn_app (goodIn_of _ (by decide +kernel)) ggX8_ifPlayed_X8_whyNot
set_option maxRecDepth 20000 in
theorem ggX8_ifPlayed_X8_bits : GoodIn wsX8_ifPlayed wsX8_bits := goodIn_r _ [63, 35, 36, 9, 37] (by decide +kernel) (by decide +kernel)
set_option maxRecDepth 20000 in
theorem gX8_ifPlayed_X8_bits : GoodIn wsX8_ifPlayed (va_wsS RX8 95 yX8_bits wsX8_bits) := goodIn_app (goodIn_of _ (by decide +kernel)) ggX8_ifPlayed_X8_bits
set_option maxRecDepth 20000 in
theorem ggX8_ifPlayed_X8_grown : GoodIn wsX8_ifPlayed wsX8_grown := goodIn_r _ [57, 43, 44, 9, 45, 46, 47, 48, 42, 49, 50, 51, 52, 53, 54] (by decide +kernel) (by decide +kernel)
set_option maxRecDepth 20000 in
theorem gX8_ifPlayed_X8_grown : GoodIn wsX8_ifPlayed (va_wsS RX8 88 yX8_grown wsX8_grown) := goodIn_app (goodIn_of _ (by decide +kernel)) ggX8_ifPlayed_X8_grown
set_option maxRecDepth 20000 in
theorem ggX8_ifPlayed_X8_groups : GoodIn wsX8_ifPlayed wsX8_groups := goodIn_r _ [69, 42, 55, 56, 9, 57, 43, 44, 45, 46, 47, 48, 49, 50, 51, 52, 53, 54, 58, 59, 60, 61, 62, 63, 35, 36, 37] (by decide +kernel) (by decide +kernel)
set_option maxRecDepth 20000 in
theorem gX8_ifPlayed_X8_groups : GoodIn wsX8_ifPlayed (va_wsS RX8 121 yX8_groups wsX8_groups) := goodIn_app (goodIn_of _ (by decide +kernel)) ggX8_ifPlayed_X8_groups
theorem dX8_ifPlayed_0 : decode cX8_ifPlayed 0 = .ok (.aload_n 0, 1) := by decide +kernel
theorem dX8_ifPlayed_1 : decode cX8_ifPlayed 1 = .ok (.aload_n 0, 1) := by decide +kernel
theorem dX8_ifPlayed_2 : decode cX8_ifPlayed 2 = .ok (.getfield 13, 3) := by decide +kernel
theorem dX8_ifPlayed_5 : decode cX8_ifPlayed 5 = .ok (.iload_n 1, 1) := by decide +kernel
theorem dX8_ifPlayed_6 : decode cX8_ifPlayed 6 = .ok (.invokestatic 182, 3) := by decide +kernel
theorem dX8_ifPlayed_9 : decode cX8_ifPlayed 9 = .ok (.ifCond .ne 7, 3) := by decide +kernel
theorem dX8_ifPlayed_12 : decode cX8_ifPlayed 12 = .ok (.iconst 1, 1) := by decide +kernel
theorem dX8_ifPlayed_13 : decode cX8_ifPlayed 13 = .ok (.goto 20, 3) := by decide +kernel
theorem dX8_ifPlayed_16 : decode cX8_ifPlayed 16 = .ok (.iload_n 2, 1) := by decide +kernel
