set_option maxRecDepth 20000 in
theorem gX7_colour_X0_areaOf : GoodIn wsX7_colour (wsV RX7 165 RX0 yX0_areaOf wsX0_areaOf) := goodIn_app (goodIn_of _ (by decide +kernel)) ggX7_colour_X0_areaOf
set_option maxRecDepth 20000 in
theorem ggX7_colour_X0_trueEyes : GoodIn wsX7_colour wsX0_trueEyes := goodIn_r _ [58, 34, 59, 35, 11, 12, 13, 14, 15, 16, 60, 61, 62, 40, 63, 42, 43, 44, 45, 46, 47, 48, 49, 50, 64, 65, 66, 67, 68, 69, 70, 71, 72, 18, 19, 20, 21, 22, 23, 91, 92, 93, 94, 95, 96, 97, 98, 99, 100, 101, 102, 103, 104, 105, 106] (by decide +kernel) (by decide +kernel)
set_option maxRecDepth 20000 in
theorem gX7_colour_X0_trueEyes : GoodIn wsX7_colour (wsV RX7 168 RX0 yX0_trueEyes wsX0_trueEyes) := goodIn_app (goodIn_of _ (by decide +kernel)) ggX7_colour_X0_trueEyes
set_option maxRecDepth 20000 in
theorem ggX7_colour_X0_falseEyes : GoodIn wsX7_colour wsX0_falseEyes := goodIn_r _ [76, 34, 35, 11, 12, 13, 14, 15, 16, 60, 61, 62, 40, 63, 42, 43, 44, 45, 46, 47, 48, 49, 50, 64, 65, 66, 67, 68, 69, 70, 71, 72, 18, 19, 20, 21, 22, 23, 91, 92, 93, 94, 95, 96, 97, 98, 99, 100, 101, 102, 103, 104, 105, 106] (by decide +kernel) (by decide +kernel)
set_option maxRecDepth 20000 in
theorem gX7_colour_X0_falseEyes : GoodIn wsX7_colour (wsV RX7 171 RX0 yX0_falseEyes wsX0_falseEyes) := goodIn_app (goodIn_of _ (by decide +kernel)) ggX7_colour_X0_falseEyes
set_option maxRecDepth 20000 in
theorem ggX7_colour_X0_groupsOf : GoodIn wsX7_colour wsX0_groupsOf := goodIn_r _ [80, 34, 35, 11, 12, 13, 14, 15, 16, 81, 82, 83, 40, 84, 43, 51, 52, 53, 54, 44, 45, 46, 47, 48, 49, 50, 42, 91, 92, 93, 94, 95, 96, 97, 98, 99, 100, 101, 102, 103, 104, 105, 106] (by decide +kernel) (by decide +kernel)
set_option maxRecDepth 20000 in
theorem gX7_colour_X0_groupsOf : GoodIn wsX7_colour (wsV RX7 136 RX0 yX0_groupsOf wsX0_groupsOf) := goodIn_app (goodIn_of _ (by decide +kernel)) ggX7_colour_X0_groupsOf
theorem dX7_colour_0 : decode cX7_colour 0 = .ok (.iload_n 1, 1) := by decide +kernel
theorem dX7_colour_1 : decode cX7_colour 1 = .ok (.invokestatic 144, 3) := by decide +kernel
theorem dX7_colour_4 : decode cX7_colour 4 = .ok (.ifCond .ne 13, 3) := by decide +kernel
theorem dX7_colour_7 : decode cX7_colour 7 = .ok (.new 147, 3) := by decide +kernel
theorem dX7_colour_10 : decode cX7_colour 10 = .ok (.dup, 1) := by decide +kernel
theorem dX7_colour_11 : decode cX7_colour 11 = .ok (.ldc 149, 2) := by decide +kernel
theorem dX7_colour_13 : decode cX7_colour 13 = .ok (.invokespecial 151, 3) := by decide +kernel
theorem dX7_colour_16 : decode cX7_colour 16 = .ok (.athrow, 1) := by decide +kernel
theorem dX7_colour_17 : decode cX7_colour 17 = .ok (.iload_n 2, 1) := by decide +kernel
theorem dX7_colour_18 : decode cX7_colour 18 = .ok (.tableswitch 101 0 5 #[38, 50, 59, 68, 80, 92], 38) := by decide +kernel
theorem dX7_colour_56 : decode cX7_colour 56 = .ok (.aload_n 0, 1) := by decide +kernel
theorem dX7_colour_57 : decode cX7_colour 57 = .ok (.getfield 26, 3) := by decide +kernel
theorem dX7_colour_60 : decode cX7_colour 60 = .ok (.iload_n 1, 1) := by decide +kernel
theorem dX7_colour_61 : decode cX7_colour 61 = .ok (.invokevirtual 152, 3) := by decide +kernel
theorem dX7_colour_64 : decode cX7_colour 64 = .ok (.invokestatic 156, 3) := by decide +kernel
theorem dX7_colour_67 : decode cX7_colour 67 = .ok (.ireturn, 1) := by decide +kernel
theorem dX7_colour_68 : decode cX7_colour 68 = .ok (.aload_n 0, 1) := by decide +kernel
theorem dX7_colour_69 : decode cX7_colour 69 = .ok (.getfield 26, 3) := by decide +kernel
theorem dX7_colour_72 : decode cX7_colour 72 = .ok (.iload_n 1, 1) := by decide +kernel
theorem dX7_colour_73 : decode cX7_colour 73 = .ok (.invokevirtual 162, 3) := by decide +kernel
theorem dX7_colour_76 : decode cX7_colour 76 = .ok (.ireturn, 1) := by decide +kernel
theorem dX7_colour_77 : decode cX7_colour 77 = .ok (.aload_n 0, 1) := by decide +kernel
theorem dX7_colour_78 : decode cX7_colour 78 = .ok (.getfield 26, 3) := by decide +kernel
theorem dX7_colour_81 : decode cX7_colour 81 = .ok (.iload_n 1, 1) := by decide +kernel
theorem dX7_colour_82 : decode cX7_colour 82 = .ok (.invokevirtual 165, 3) := by decide +kernel
theorem dX7_colour_85 : decode cX7_colour 85 = .ok (.ireturn, 1) := by decide +kernel
theorem dX7_colour_86 : decode cX7_colour 86 = .ok (.aload_n 0, 1) := by decide +kernel
theorem dX7_colour_87 : decode cX7_colour 87 = .ok (.getfield 26, 3) := by decide +kernel
theorem dX7_colour_90 : decode cX7_colour 90 = .ok (.iload_n 1, 1) := by decide +kernel
theorem dX7_colour_91 : decode cX7_colour 91 = .ok (.invokevirtual 168, 3) := by decide +kernel
theorem dX7_colour_94 : decode cX7_colour 94 = .ok (.invokestatic 156, 3) := by decide +kernel
theorem dX7_colour_97 : decode cX7_colour 97 = .ok (.ireturn, 1) := by decide +kernel
theorem dX7_colour_98 : decode cX7_colour 98 = .ok (.aload_n 0, 1) := by decide +kernel
theorem dX7_colour_99 : decode cX7_colour 99 = .ok (.getfield 26, 3) := by decide +kernel
theorem dX7_colour_102 : decode cX7_colour 102 = .ok (.iload_n 1, 1) := by decide +kernel
theorem dX7_colour_103 : decode cX7_colour 103 = .ok (.invokevirtual 171, 3) := by decide +kernel
theorem dX7_colour_106 : decode cX7_colour 106 = .ok (.invokestatic 156, 3) := by decide +kernel
theorem dX7_colour_109 : decode cX7_colour 109 = .ok (.ireturn, 1) := by decide +kernel
theorem dX7_colour_110 : decode cX7_colour 110 = .ok (.aload_n 0, 1) := by decide +kernel
theorem dX7_colour_111 : decode cX7_colour 111 = .ok (.getfield 26, 3) := by decide +kernel
theorem dX7_colour_114 : decode cX7_colour 114 = .ok (.iload_n 1, 1) := by decide +kernel
theorem dX7_colour_115 : decode cX7_colour 115 = .ok (.invokevirtual 136, 3) := by decide +kernel
theorem dX7_colour_118 : decode cX7_colour 118 = .ok (.ireturn, 1) := by decide +kernel
theorem dX7_colour_119 : decode cX7_colour 119 = .ok (.new 50, 3) := by decide +kernel
theorem dX7_colour_122 : decode cX7_colour 122 = .ok (.dup, 1) := by decide +kernel
theorem dX7_colour_123 : decode cX7_colour 123 = .ok (.ldc 174, 2) := by decide +kernel
theorem dX7_colour_125 : decode cX7_colour 125 = .ok (.invokespecial 54, 3) := by decide +kernel
theorem dX7_colour_128 : decode cX7_colour 128 = .ok (.athrow, 1) := by decide +kernel
set_option maxRecDepth 20000 in
theorem ggX7_point_X2_has : GoodIn wsX7_point wsX2_has := goodIn_r _ [10, 11, 112, 113, 114, 115, 116] (by decide +kernel) (by decide +kernel)
set_option maxRecDepth 20000 in
theorem gX7_point_X2_has : GoodIn wsX7_point (wsV RX7 176 RX2 yX2_has wsX2_has) := goodIn_app (goodIn_of _ (by decide +kernel)) ggX7_point_X2_has
set_option maxRecDepth 20000 in
theorem ggX7_point_X0_colourAt : GoodIn wsX7_point wsX0_colourAt := goodIn_r _ [16, 17, 18, 101, 102, 103, 104, 105, 106, 107, 108, 109, 110, 111] (by decide +kernel) (by decide +kernel)
set_option maxRecDepth 20000 in
theorem gX7_point_X0_colourAt : GoodIn wsX7_point (wsV RX7 181 RX0 yX0_colourAt wsX0_colourAt) := goodIn_app (goodIn_of _ (by decide +kernel)) ggX7_point_X0_colourAt
set_option maxRecDepth 20000 in
theorem ggX7_point_X0_groupAt : GoodIn wsX7_point wsX0_groupAt := goodIn_r _ [22, 23, 24, 13, 14, 15, 16, 17, 18, 25, 26, 27, 28, 29, 30, 31, 9, 32, 33, 34, 35, 36, 37, 38, 39, 40, 101, 102, 103, 104, 105, 106, 107, 108, 109, 110, 111, 112, 113, 114, 115, 116] (by decide +kernel) (by decide +kernel)
set_option maxRecDepth 20000 in
theorem gX7_point_X0_groupAt : GoodIn wsX7_point (wsV RX7 184 RX0 yX0_groupAt wsX0_groupAt) := goodIn_app (goodIn_of _ (by decide +kernel)) ggX7_point_X0_groupAt
set_option maxRecDepth 20000 in
theorem ggX7_point_J13_bitCount_95d88 : GoodIn wsX7_point wsJ13_bitCount_95d88 := goodIn_r _ [44, 45, 46, 47] (by decide +kernel) (by decide +kernel)
set_option maxRecDepth 20000 in
theorem gX7_point_J13_bitCount_95d88 : GoodIn wsX7_point (va_wsS RX7 156 yJ13_bitCount_95d88 wsJ13_bitCount_95d88) := goodIn_app (goodIn_of _ (by decide +kernel)) ggX7_point_J13_bitCount_95d88
set_option maxRecDepth 20000 in
theorem ggX7_point_X0_libertiesAt : GoodIn wsX7_point wsX0_libertiesAt := goodIn_r _ [51, 23, 24, 13, 14, 15, 16, 17, 18, 25, 26, 27, 28, 52, 53, 54, 9, 55, 40, 56, 57, 30, 31, 32, 33, 34, 35, 36, 37, 38, 39, 101, 102, 103, 104, 105, 106, 107, 108, 109, 110, 111, 112, 113, 114, 115, 116] (by decide +kernel) (by decide +kernel)
set_option maxRecDepth 20000 in
theorem gX7_point_X0_libertiesAt : GoodIn wsX7_point (wsV RX7 187 RX0 yX0_libertiesAt wsX0_libertiesAt) := goodIn_app (goodIn_of _ (by decide +kernel)) ggX7_point_X0_libertiesAt
set_option maxRecDepth 20000 in
theorem ggX7_point_X0_eyeAt : GoodIn wsX7_point wsX0_eyeAt := goodIn_r _ [61, 62, 63, 64, 15, 65, 23, 25, 26, 27, 28, 17, 18, 66, 67, 68, 9, 69, 40, 56, 33, 34, 35, 36, 37, 38, 39, 70, 71, 72, 73, 74, 75, 76, 77, 78, 42, 43, 44, 45, 46, 47, 79, 80, 81, 82, 83, 101, 102, 103, 104, 105, 106, 107, 108, 109, 110, 111, 112, 113, 114, 115, 116] (by decide +kernel) (by decide +kernel)
set_option maxRecDepth 20000 in
theorem gX7_point_X0_eyeAt : GoodIn wsX7_point (wsV RX7 190 RX0 yX0_eyeAt wsX0_eyeAt) := goodIn_app (goodIn_of _ (by decide +kernel)) ggX7_point_X0_eyeAt
set_option maxRecDepth 20000 in
theorem ggX7_point_X0_partAt : GoodIn wsX7_point wsX0_partAt := goodIn_r _ [87, 23, 88, 17, 18, 83, 29, 30, 31, 9, 32, 33, 34, 35, 36, 37, 38, 39, 40, 101, 102, 103, 104, 105, 106, 107, 108, 109, 110, 111, 112, 113, 114, 115, 116] (by decide +kernel) (by decide +kernel)
set_option maxRecDepth 20000 in
theorem gX7_point_X0_partAt : GoodIn wsX7_point (wsV RX7 193 RX0 yX0_partAt wsX0_partAt) := goodIn_app (goodIn_of _ (by decide +kernel)) ggX7_point_X0_partAt
set_option maxRecDepth 20000 in
theorem ggX7_point_X0_trueEyesAt : GoodIn wsX7_point wsX0_trueEyesAt := goodIn_r _ [92, 24, 13, 14, 15, 16, 17, 18, 93, 49, 50, 51, 23, 25, 26, 27, 28, 52, 53, 54, 9, 55, 40, 56, 57, 30, 31, 32, 33, 34, 35, 36, 37, 38, 39, 79, 80, 81, 82, 83, 66, 67, 68, 69, 70, 71, 72, 73, 74, 75, 76, 77, 78, 42, 43, 44, 45, 46, 47, 94, 101, 102, 103, 104, 105, 106, 107, 108, 109, 110, 111, 112, 113, 114, 115, 116] (by decide +kernel) (by decide +kernel)
set_option maxRecDepth 20000 in
theorem gX7_point_X0_trueEyesAt : GoodIn wsX7_point (wsV RX7 196 RX0 yX0_trueEyesAt wsX0_trueEyesAt) := goodIn_app (goodIn_of _ (by decide +kernel)) ggX7_point_X0_trueEyesAt
theorem dX7_point_0 : decode cX7_point 0 = .ok (.aload_n 0, 1) := by decide +kernel
theorem dX7_point_1 : decode cX7_point 1 = .ok (.getfield 26, 3) := by decide +kernel
theorem dX7_point_4 : decode cX7_point 4 = .ok (.getfield 118, 3) := by decide +kernel
theorem dX7_point_7 : decode cX7_point 7 = .ok (.iload_n 1, 1) := by decide +kernel
theorem dX7_point_8 : decode cX7_point 8 = .ok (.invokevirtual 176, 3) := by decide +kernel
theorem dX7_point_11 : decode cX7_point 11 = .ok (.ifCond .ne 13, 3) := by decide +kernel
theorem dX7_point_14 : decode cX7_point 14 = .ok (.new 147, 3) := by decide +kernel
theorem dX7_point_17 : decode cX7_point 17 = .ok (.dup, 1) := by decide +kernel
theorem dX7_point_18 : decode cX7_point 18 = .ok (.ldc 179, 2) := by decide +kernel
theorem dX7_point_20 : decode cX7_point 20 = .ok (.invokespecial 151, 3) := by decide +kernel
theorem dX7_point_23 : decode cX7_point 23 = .ok (.athrow, 1) := by decide +kernel
theorem dX7_point_24 : decode cX7_point 24 = .ok (.iload_n 2, 1) := by decide +kernel
theorem dX7_point_25 : decode cX7_point 25 = .ok (.tableswitch 102 0 5 #[39, 48, 60, 72, 81, 93], 39) := by decide +kernel
theorem dX7_point_64 : decode cX7_point 64 = .ok (.aload_n 0, 1) := by decide +kernel
theorem dX7_point_65 : decode cX7_point 65 = .ok (.getfield 26, 3) := by decide +kernel
theorem dX7_point_68 : decode cX7_point 68 = .ok (.iload_n 1, 1) := by decide +kernel
theorem dX7_point_69 : decode cX7_point 69 = .ok (.invokevirtual 181, 3) := by decide +kernel
theorem dX7_point_72 : decode cX7_point 72 = .ok (.ireturn, 1) := by decide +kernel
theorem dX7_point_73 : decode cX7_point 73 = .ok (.aload_n 0, 1) := by decide +kernel
theorem dX7_point_74 : decode cX7_point 74 = .ok (.getfield 26, 3) := by decide +kernel
theorem dX7_point_77 : decode cX7_point 77 = .ok (.iload_n 1, 1) := by decide +kernel
theorem dX7_point_78 : decode cX7_point 78 = .ok (.invokevirtual 184, 3) := by decide +kernel
theorem dX7_point_81 : decode cX7_point 81 = .ok (.invokestatic 156, 3) := by decide +kernel
theorem dX7_point_84 : decode cX7_point 84 = .ok (.ireturn, 1) := by decide +kernel
theorem dX7_point_85 : decode cX7_point 85 = .ok (.aload_n 0, 1) := by decide +kernel
theorem dX7_point_86 : decode cX7_point 86 = .ok (.getfield 26, 3) := by decide +kernel
theorem dX7_point_89 : decode cX7_point 89 = .ok (.iload_n 1, 1) := by decide +kernel
theorem dX7_point_90 : decode cX7_point 90 = .ok (.invokevirtual 187, 3) := by decide +kernel
theorem dX7_point_93 : decode cX7_point 93 = .ok (.invokestatic 156, 3) := by decide +kernel
theorem dX7_point_96 : decode cX7_point 96 = .ok (.ireturn, 1) := by decide +kernel
theorem dX7_point_97 : decode cX7_point 97 = .ok (.aload_n 0, 1) := by decide +kernel
theorem dX7_point_98 : decode cX7_point 98 = .ok (.getfield 26, 3) := by decide +kernel
theorem dX7_point_101 : decode cX7_point 101 = .ok (.iload_n 1, 1) := by decide +kernel
theorem dX7_point_102 : decode cX7_point 102 = .ok (.invokevirtual 190, 3) := by decide +kernel
theorem dX7_point_105 : decode cX7_point 105 = .ok (.ireturn, 1) := by decide +kernel
theorem dX7_point_106 : decode cX7_point 106 = .ok (.aload_n 0, 1) := by decide +kernel
theorem dX7_point_107 : decode cX7_point 107 = .ok (.getfield 26, 3) := by decide +kernel
theorem dX7_point_110 : decode cX7_point 110 = .ok (.iload_n 1, 1) := by decide +kernel
theorem dX7_point_111 : decode cX7_point 111 = .ok (.invokevirtual 193, 3) := by decide +kernel
theorem dX7_point_114 : decode cX7_point 114 = .ok (.invokestatic 156, 3) := by decide +kernel
theorem dX7_point_117 : decode cX7_point 117 = .ok (.ireturn, 1) := by decide +kernel
theorem dX7_point_118 : decode cX7_point 118 = .ok (.aload_n 0, 1) := by decide +kernel
theorem dX7_point_119 : decode cX7_point 119 = .ok (.getfield 26, 3) := by decide +kernel
theorem dX7_point_122 : decode cX7_point 122 = .ok (.iload_n 1, 1) := by decide +kernel
theorem dX7_point_123 : decode cX7_point 123 = .ok (.invokevirtual 196, 3) := by decide +kernel
theorem dX7_point_126 : decode cX7_point 126 = .ok (.ireturn, 1) := by decide +kernel
theorem dX7_point_127 : decode cX7_point 127 = .ok (.new 50, 3) := by decide +kernel
theorem dX7_point_130 : decode cX7_point 130 = .ok (.dup, 1) := by decide +kernel
theorem dX7_point_131 : decode cX7_point 131 = .ok (.ldc 174, 2) := by decide +kernel
theorem dX7_point_133 : decode cX7_point 133 = .ok (.invokespecial 54, 3) := by decide +kernel
theorem dX7_point_136 : decode cX7_point 136 = .ok (.athrow, 1) := by decide +kernel
set_option maxRecDepth 20000 in
theorem ggX7_group_X2_has : GoodIn wsX7_group wsX2_has := goodIn_r _ [10, 11, 67, 68, 69, 70, 71] (by decide +kernel) (by decide +kernel)
set_option maxRecDepth 20000 in
theorem gX7_group_X2_has : GoodIn wsX7_group (wsV RX7 176 RX2 yX2_has wsX2_has) := goodIn_app (goodIn_of _ (by decide +kernel)) ggX7_group_X2_has
set_option maxRecDepth 20000 in
theorem ggX7_group_X0_groupAt : GoodIn wsX7_group wsX0_groupAt := goodIn_r _ [16, 17, 18, 19, 20, 15, 21, 22, 23, 24, 25, 26, 27, 28, 29, 30, 9, 31, 32, 33, 34, 35, 36, 37, 38, 39, 56, 57, 58, 59, 60, 61, 62, 63, 64, 65, 66, 67, 68, 69, 70, 71] (by decide +kernel) (by decide +kernel)
set_option maxRecDepth 20000 in
theorem gX7_group_X0_groupAt : GoodIn wsX7_group (wsV RX7 184 RX0 yX0_groupAt wsX0_groupAt) := goodIn_app (goodIn_of _ (by decide +kernel)) ggX7_group_X0_groupAt
set_option maxRecDepth 20000 in
theorem ggX7_group_X0_libertiesAt : GoodIn wsX7_group wsX0_libertiesAt := goodIn_r _ [43, 17, 18, 19, 20, 15, 21, 22, 23, 24, 25, 26, 27, 44, 45, 46, 9, 47, 39, 48, 49, 29, 30, 31, 32, 33, 34, 35, 36, 37, 38, 56, 57, 58, 59, 60, 61, 62, 63, 64, 65, 66, 67, 68, 69, 70, 71] (by decide +kernel) (by decide +kernel)
set_option maxRecDepth 20000 in
theorem gX7_group_X0_libertiesAt : GoodIn wsX7_group (wsV RX7 187 RX0 yX0_libertiesAt wsX0_libertiesAt) := goodIn_app (goodIn_of _ (by decide +kernel)) ggX7_group_X0_libertiesAt
theorem dX7_group_0 : decode cX7_group 0 = .ok (.aload_n 0, 1) := by decide +kernel
theorem dX7_group_1 : decode cX7_group 1 = .ok (.getfield 26, 3) := by decide +kernel
theorem dX7_group_4 : decode cX7_group 4 = .ok (.getfield 118, 3) := by decide +kernel
theorem dX7_group_7 : decode cX7_group 7 = .ok (.iload_n 1, 1) := by decide +kernel
theorem dX7_group_8 : decode cX7_group 8 = .ok (.invokevirtual 176, 3) := by decide +kernel
theorem dX7_group_11 : decode cX7_group 11 = .ok (.ifCond .ne 13, 3) := by decide +kernel
theorem dX7_group_14 : decode cX7_group 14 = .ok (.new 147, 3) := by decide +kernel
theorem dX7_group_17 : decode cX7_group 17 = .ok (.dup, 1) := by decide +kernel
theorem dX7_group_18 : decode cX7_group 18 = .ok (.ldc 179, 2) := by decide +kernel
theorem dX7_group_20 : decode cX7_group 20 = .ok (.invokespecial 151, 3) := by decide +kernel
theorem dX7_group_23 : decode cX7_group 23 = .ok (.athrow, 1) := by decide +kernel
theorem dX7_group_24 : decode cX7_group 24 = .ok (.iload_n 2, 1) := by decide +kernel
theorem dX7_group_25 : decode cX7_group 25 = .ok (.ifCond .eq 18, 3) := by decide +kernel
theorem dX7_group_28 : decode cX7_group 28 = .ok (.iload_n 2, 1) := by decide +kernel
theorem dX7_group_29 : decode cX7_group 29 = .ok (.iconst 1, 1) := by decide +kernel
theorem dX7_group_30 : decode cX7_group 30 = .ok (.if_icmp .eq 13, 3) := by decide +kernel
theorem dX7_group_33 : decode cX7_group 33 = .ok (.new 50, 3) := by decide +kernel
theorem dX7_group_36 : decode cX7_group 36 = .ok (.dup, 1) := by decide +kernel
theorem dX7_group_37 : decode cX7_group 37 = .ok (.ldc 199, 2) := by decide +kernel
theorem dX7_group_39 : decode cX7_group 39 = .ok (.invokespecial 54, 3) := by decide +kernel
theorem dX7_group_42 : decode cX7_group 42 = .ok (.athrow, 1) := by decide +kernel
theorem dX7_group_43 : decode cX7_group 43 = .ok (.iload_n 2, 1) := by decide +kernel
theorem dX7_group_44 : decode cX7_group 44 = .ok (.ifCond .ne 14, 3) := by decide +kernel
theorem dX7_group_47 : decode cX7_group 47 = .ok (.aload_n 0, 1) := by decide +kernel
theorem dX7_group_48 : decode cX7_group 48 = .ok (.getfield 26, 3) := by decide +kernel
theorem dX7_group_51 : decode cX7_group 51 = .ok (.iload_n 1, 1) := by decide +kernel
theorem dX7_group_52 : decode cX7_group 52 = .ok (.invokevirtual 184, 3) := by decide +kernel
theorem dX7_group_55 : decode cX7_group 55 = .ok (.goto 11, 3) := by decide +kernel
theorem dX7_group_58 : decode cX7_group 58 = .ok (.aload_n 0, 1) := by decide +kernel
theorem dX7_group_59 : decode cX7_group 59 = .ok (.getfield 26, 3) := by decide +kernel
theorem dX7_group_62 : decode cX7_group 62 = .ok (.iload_n 1, 1) := by decide +kernel
theorem dX7_group_63 : decode cX7_group 63 = .ok (.invokevirtual 187, 3) := by decide +kernel
theorem dX7_group_66 : decode cX7_group 66 = .ok (.lreturn, 1) := by decide +kernel
set_option maxRecDepth 20000 in
theorem ggX7_why_X2_has : GoodIn wsX7_why wsX2_has := goodIn_r _ [8, 9, 77, 78, 79, 80, 81] (by decide +kernel) (by decide +kernel)
set_option maxRecDepth 20000 in
theorem gX7_why_X2_has : GoodIn wsX7_why (wsV RX7 176 RX2 yX2_has wsX2_has) := goodIn_app (goodIn_of _ (by decide +kernel)) ggX7_why_X2_has
set_option maxRecDepth 20000 in
theorem ggX7_why_X0_reasonAt : GoodIn wsX7_why wsX0_reasonAt := goodIn_r _ [14, 15, 16, 17, 18, 19, 20, 13, 21, 22, 23, 24, 25, 26, 27, 28, 29, 30, 7, 31, 32, 33, 34, 35, 36, 37, 38, 39, 40, 41, 42, 43, 44, 45, 46, 47, 48, 49, 50, 51, 52, 53, 54, 55, 56, 57, 58, 59, 66, 67, 68, 69, 70, 71, 72, 73, 74, 75, 76, 77, 78, 79, 80, 81] (by decide +kernel) (by decide +kernel)
set_option maxRecDepth 20000 in
theorem gX7_why_X0_reasonAt : GoodIn wsX7_why (wsV RX7 201 RX0 yX0_reasonAt wsX0_reasonAt) := goodIn_app (goodIn_of _ (by decide +kernel)) ggX7_why_X0_reasonAt
theorem dX7_why_0 : decode cX7_why 0 = .ok (.aload_n 0, 1) := by decide +kernel
theorem dX7_why_1 : decode cX7_why 1 = .ok (.getfield 26, 3) := by decide +kernel
theorem dX7_why_4 : decode cX7_why 4 = .ok (.getfield 118, 3) := by decide +kernel
theorem dX7_why_7 : decode cX7_why 7 = .ok (.iload_n 1, 1) := by decide +kernel
theorem dX7_why_8 : decode cX7_why 8 = .ok (.invokevirtual 176, 3) := by decide +kernel
theorem dX7_why_11 : decode cX7_why 11 = .ok (.ifCond .ne 13, 3) := by decide +kernel
theorem dX7_why_14 : decode cX7_why 14 = .ok (.new 147, 3) := by decide +kernel
theorem dX7_why_17 : decode cX7_why 17 = .ok (.dup, 1) := by decide +kernel
theorem dX7_why_18 : decode cX7_why 18 = .ok (.ldc 179, 2) := by decide +kernel
theorem dX7_why_20 : decode cX7_why 20 = .ok (.invokespecial 151, 3) := by decide +kernel
theorem dX7_why_23 : decode cX7_why 23 = .ok (.athrow, 1) := by decide +kernel
theorem dX7_why_24 : decode cX7_why 24 = .ok (.aload_n 0, 1) := by decide +kernel
theorem dX7_why_25 : decode cX7_why 25 = .ok (.getfield 26, 3) := by decide +kernel
theorem dX7_why_28 : decode cX7_why 28 = .ok (.iload_n 1, 1) := by decide +kernel
theorem dX7_why_29 : decode cX7_why 29 = .ok (.invokevirtual 201, 3) := by decide +kernel
theorem dX7_why_32 : decode cX7_why 32 = .ok (.ireturn, 1) := by decide +kernel
set_option maxRecDepth 20000 in
theorem ggX7_board_X4_remember : GoodIn wsX7_board wsX4_remember := goodIn_r _ [10, 11, 12, 13, 14, 15, 9, 16, 17, 18, 19, 20, 21, 22, 23, 24, 25, 26, 27, 28, 29, 30, 31, 32, 33, 79, 80, 81, 63, 64, 65, 66, 67, 68, 69, 70, 71, 72, 73] (by decide +kernel) (by decide +kernel)
set_option maxRecDepth 20000 in
theorem gX7_board_X4_remember : GoodIn wsX7_board (wsV RX7 206 RX4 yX4_remember wsX4_remember) := goodIn_app (goodIn_of _ (by decide +kernel)) ggX7_board_X4_remember
set_option maxRecDepth 20000 in
theorem ggX7_board_X0_layOut : GoodIn wsX7_board wsX0_layOut := goodIn_r _ [37, 38, 39, 40, 23, 25, 26, 27, 28, 29, 30, 31, 41, 42, 43, 44, 45, 46, 47, 48, 49, 50, 51, 52, 53, 54, 55, 21, 56, 32, 33, 74, 75, 76, 77, 78, 63, 64, 65, 66, 67, 68, 69, 70, 71, 72, 73] (by decide +kernel) (by decide +kernel)
set_option maxRecDepth 20000 in
theorem gX7_board_X0_layOut : GoodIn wsX7_board (wsV RX7 82 RX0 yX0_layOut wsX0_layOut) := goodIn_app (goodIn_of _ (by decide +kernel)) ggX7_board_X0_layOut
theorem dX7_board_0 : decode cX7_board 0 = .ok (.iload_n 1, 1) := by decide +kernel
theorem dX7_board_1 : decode cX7_board 1 = .ok (.iconst 3, 1) := by decide +kernel
theorem dX7_board_2 : decode cX7_board 2 = .ok (.if_icmp .lt 9, 3) := by decide +kernel
theorem dX7_board_5 : decode cX7_board 5 = .ok (.iload_n 1, 1) := by decide +kernel
theorem dX7_board_6 : decode cX7_board 6 = .ok (.bipush 7, 2) := by decide +kernel
theorem dX7_board_8 : decode cX7_board 8 = .ok (.if_icmp .le 13, 3) := by decide +kernel
theorem dX7_board_11 : decode cX7_board 11 = .ok (.new 50, 3) := by decide +kernel
theorem dX7_board_14 : decode cX7_board 14 = .ok (.dup, 1) := by decide +kernel
theorem dX7_board_15 : decode cX7_board 15 = .ok (.ldc 204, 2) := by decide +kernel
theorem dX7_board_17 : decode cX7_board 17 = .ok (.invokespecial 54, 3) := by decide +kernel
theorem dX7_board_20 : decode cX7_board 20 = .ok (.athrow, 1) := by decide +kernel
theorem dX7_board_21 : decode cX7_board 21 = .ok (.aload_n 0, 1) := by decide +kernel
theorem dX7_board_22 : decode cX7_board 22 = .ok (.getfield 36, 3) := by decide +kernel
theorem dX7_board_25 : decode cX7_board 25 = .ok (.aload_n 0, 1) := by decide +kernel
theorem dX7_board_26 : decode cX7_board 26 = .ok (.getfield 26, 3) := by decide +kernel
theorem dX7_board_29 : decode cX7_board 29 = .ok (.invokevirtual 206, 3) := by decide +kernel
theorem dX7_board_32 : decode cX7_board 32 = .ok (.aload_n 0, 1) := by decide +kernel
theorem dX7_board_33 : decode cX7_board 33 = .ok (.getfield 26, 3) := by decide +kernel
theorem dX7_board_36 : decode cX7_board 36 = .ok (.iload_n 1, 1) := by decide +kernel
theorem dX7_board_37 : decode cX7_board 37 = .ok (.invokevirtual 82, 3) := by decide +kernel
theorem dX7_board_40 : decode cX7_board 40 = .ok (.aload_n 0, 1) := by decide +kernel
theorem dX7_board_41 : decode cX7_board 41 = .ok (.getfield 26, 3) := by decide +kernel
theorem dX7_board_44 : decode cX7_board 44 = .ok (.getfield 118, 3) := by decide +kernel
theorem dX7_board_47 : decode cX7_board 47 = .ok (.getfield 210, 3) := by decide +kernel
theorem dX7_board_50 : decode cX7_board 50 = .ok (.ireturn, 1) := by decide +kernel
set_option maxRecDepth 20000 in
theorem ggX7_play_X2_has : GoodIn wsX7_play wsX2_has := goodIn_r _ [11, 12, 115, 116, 117, 118, 119] (by decide +kernel) (by decide +kernel)
set_option maxRecDepth 20000 in
theorem gX7_play_X2_has : GoodIn wsX7_play (wsV RX7 176 RX2 yX2_has wsX2_has) := goodIn_app (goodIn_of _ (by decide +kernel)) ggX7_play_X2_has
set_option maxRecDepth 20000 in
theorem ggX7_play_X0_reasonAt : GoodIn wsX7_play wsX0_reasonAt := goodIn_r _ [17, 18, 19, 20, 21, 22, 23, 16, 24, 25, 26, 27, 28, 29, 30, 31, 32, 33, 10, 34, 35, 36, 37, 38, 39, 40, 41, 42, 43, 44, 45, 46, 47, 48, 49, 50, 51, 52, 53, 54, 55, 56, 57, 58, 59, 60, 61, 62, 104, 105, 106, 107, 108, 109, 110, 111, 112, 113, 114, 115, 116, 117, 118, 119] (by decide +kernel) (by decide +kernel)
set_option maxRecDepth 20000 in
theorem gX7_play_X0_reasonAt : GoodIn wsX7_play (wsV RX7 201 RX0 yX0_reasonAt wsX0_reasonAt) := goodIn_app (goodIn_of _ (by decide +kernel)) ggX7_play_X0_reasonAt
set_option maxRecDepth 20000 in
theorem ggX7_play_X4_remember : GoodIn wsX7_play wsX4_remember := goodIn_r _ [67, 68, 69, 70, 71, 72, 66, 73, 74, 75, 76, 77, 16, 78, 18, 56, 20, 79, 80, 29, 30, 81, 82, 61, 62, 120, 121, 122, 104, 105, 106, 107, 108, 109, 110, 111, 112, 113, 114] (by decide +kernel) (by decide +kernel)
set_option maxRecDepth 20000 in
theorem gX7_play_X4_remember : GoodIn wsX7_play (wsV RX7 206 RX4 yX4_remember wsX4_remember) := goodIn_app (goodIn_of _ (by decide +kernel)) ggX7_play_X4_remember
set_option maxRecDepth 20000 in
theorem ggX7_play_X0_lay : GoodIn wsX7_play wsX0_lay := goodIn_r _ [86, 18, 29, 30, 19, 81, 82, 20, 80, 21, 22, 23, 16, 24, 25, 26, 27, 28, 31, 32, 33, 10, 34, 35, 36, 37, 38, 39, 40, 41, 42, 43, 44, 45, 46, 47, 87, 88, 89, 90, 91, 92, 93, 94, 95, 96, 97, 61, 62, 104, 105, 106, 107, 108, 109, 110, 111, 112, 113, 114, 115, 116, 117, 118, 119] (by decide +kernel) (by decide +kernel)
set_option maxRecDepth 20000 in
theorem gX7_play_X0_lay : GoodIn wsX7_play (wsV RX7 215 RX0 yX0_lay wsX0_lay) := goodIn_app (goodIn_of _ (by decide +kernel)) ggX7_play_X0_lay
theorem dX7_play_0 : decode cX7_play 0 = .ok (.aload_n 0, 1) := by decide +kernel
theorem dX7_play_1 : decode cX7_play 1 = .ok (.getfield 26, 3) := by decide +kernel
theorem dX7_play_4 : decode cX7_play 4 = .ok (.getfield 118, 3) := by decide +kernel
theorem dX7_play_7 : decode cX7_play 7 = .ok (.iload_n 1, 1) := by decide +kernel
theorem dX7_play_8 : decode cX7_play 8 = .ok (.invokevirtual 176, 3) := by decide +kernel
theorem dX7_play_11 : decode cX7_play 11 = .ok (.ifCond .ne 13, 3) := by decide +kernel
theorem dX7_play_14 : decode cX7_play 14 = .ok (.new 147, 3) := by decide +kernel
theorem dX7_play_17 : decode cX7_play 17 = .ok (.dup, 1) := by decide +kernel
theorem dX7_play_18 : decode cX7_play 18 = .ok (.ldc 179, 2) := by decide +kernel
theorem dX7_play_20 : decode cX7_play 20 = .ok (.invokespecial 151, 3) := by decide +kernel
theorem dX7_play_23 : decode cX7_play 23 = .ok (.athrow, 1) := by decide +kernel
theorem dX7_play_24 : decode cX7_play 24 = .ok (.aload_n 0, 1) := by decide +kernel
theorem dX7_play_25 : decode cX7_play 25 = .ok (.getfield 26, 3) := by decide +kernel
theorem dX7_play_28 : decode cX7_play 28 = .ok (.iload_n 1, 1) := by decide +kernel
theorem dX7_play_29 : decode cX7_play 29 = .ok (.invokevirtual 201, 3) := by decide +kernel
theorem dX7_play_32 : decode cX7_play 32 = .ok (.ifCond .eq 13, 3) := by decide +kernel
theorem dX7_play_35 : decode cX7_play 35 = .ok (.new 61, 3) := by decide +kernel
theorem dX7_play_38 : decode cX7_play 38 = .ok (.dup, 1) := by decide +kernel
theorem dX7_play_39 : decode cX7_play 39 = .ok (.ldc 213, 2) := by decide +kernel
theorem dX7_play_41 : decode cX7_play 41 = .ok (.invokespecial 65, 3) := by decide +kernel
theorem dX7_play_44 : decode cX7_play 44 = .ok (.athrow, 1) := by decide +kernel
theorem dX7_play_45 : decode cX7_play 45 = .ok (.aload_n 0, 1) := by decide +kernel
theorem dX7_play_46 : decode cX7_play 46 = .ok (.getfield 36, 3) := by decide +kernel
theorem dX7_play_49 : decode cX7_play 49 = .ok (.aload_n 0, 1) := by decide +kernel
theorem dX7_play_50 : decode cX7_play 50 = .ok (.getfield 26, 3) := by decide +kernel
theorem dX7_play_53 : decode cX7_play 53 = .ok (.invokevirtual 206, 3) := by decide +kernel
theorem dX7_play_56 : decode cX7_play 56 = .ok (.aload_n 0, 1) := by decide +kernel
theorem dX7_play_57 : decode cX7_play 57 = .ok (.getfield 26, 3) := by decide +kernel
theorem dX7_play_60 : decode cX7_play 60 = .ok (.iload_n 1, 1) := by decide +kernel
theorem dX7_play_61 : decode cX7_play 61 = .ok (.invokevirtual 215, 3) := by decide +kernel
theorem dX7_play_64 : decode cX7_play 64 = .ok (.ireturn, 1) := by decide +kernel
set_option maxRecDepth 20000 in
theorem ggX7_pass_X4_remember : GoodIn wsX7_pass wsX4_remember := goodIn_r _ [9, 10, 11, 12, 13, 14, 8, 15, 16, 17, 18, 19, 20, 21, 22, 23, 24, 25, 26, 27, 28, 29, 30, 31, 32, 58, 59, 60, 47, 48, 49, 50, 51, 52, 53, 54, 55, 56, 57] (by decide +kernel) (by decide +kernel)
set_option maxRecDepth 20000 in
theorem gX7_pass_X4_remember : GoodIn wsX7_pass (wsV RX7 206 RX4 yX4_remember wsX4_remember) := goodIn_app (goodIn_of _ (by decide +kernel)) ggX7_pass_X4_remember
set_option maxRecDepth 20000 in
theorem ggX7_pass_X0_passIfAllowed : GoodIn wsX7_pass wsX0_passIfAllowed := goodIn_r _ [36, 24, 25, 26, 37, 38, 39, 20, 40, 31, 32, 27, 28, 47, 48, 49, 50, 51, 52, 53, 54, 55, 56, 57] (by decide +kernel) (by decide +kernel)
set_option maxRecDepth 20000 in
theorem gX7_pass_X0_passIfAllowed : GoodIn wsX7_pass (wsV RX7 101 RX0 yX0_passIfAllowed wsX0_passIfAllowed) := goodIn_app (goodIn_of _ (by decide +kernel)) ggX7_pass_X0_passIfAllowed
theorem dX7_pass_0 : decode cX7_pass 0 = .ok (.aload_n 0, 1) := by decide +kernel
theorem dX7_pass_1 : decode cX7_pass 1 = .ok (.getfield 26, 3) := by decide +kernel
theorem dX7_pass_4 : decode cX7_pass 4 = .ok (.getfield 124, 3) := by decide +kernel
theorem dX7_pass_7 : decode cX7_pass 7 = .ok (.bipush 120, 2) := by decide +kernel
theorem dX7_pass_9 : decode cX7_pass 9 = .ok (.if_icmp .lt 13, 3) := by decide +kernel
theorem dX7_pass_12 : decode cX7_pass 12 = .ok (.new 61, 3) := by decide +kernel
theorem dX7_pass_15 : decode cX7_pass 15 = .ok (.dup, 1) := by decide +kernel
theorem dX7_pass_16 : decode cX7_pass 16 = .ok (.ldc 218, 2) := by decide +kernel
theorem dX7_pass_18 : decode cX7_pass 18 = .ok (.invokespecial 65, 3) := by decide +kernel
theorem dX7_pass_21 : decode cX7_pass 21 = .ok (.athrow, 1) := by decide +kernel
theorem dX7_pass_22 : decode cX7_pass 22 = .ok (.aload_n 0, 1) := by decide +kernel
theorem dX7_pass_23 : decode cX7_pass 23 = .ok (.getfield 36, 3) := by decide +kernel
theorem dX7_pass_26 : decode cX7_pass 26 = .ok (.aload_n 0, 1) := by decide +kernel
theorem dX7_pass_27 : decode cX7_pass 27 = .ok (.getfield 26, 3) := by decide +kernel
theorem dX7_pass_30 : decode cX7_pass 30 = .ok (.invokevirtual 206, 3) := by decide +kernel
theorem dX7_pass_33 : decode cX7_pass 33 = .ok (.aload_n 0, 1) := by decide +kernel
theorem dX7_pass_34 : decode cX7_pass 34 = .ok (.getfield 26, 3) := by decide +kernel
theorem dX7_pass_37 : decode cX7_pass 37 = .ok (.invokevirtual 101, 3) := by decide +kernel
theorem dX7_pass_40 : decode cX7_pass 40 = .ok (.pop, 1) := by decide +kernel
theorem dX7_pass_41 : decode cX7_pass 41 = .ok (.aload_n 0, 1) := by decide +kernel
theorem dX7_pass_42 : decode cX7_pass 42 = .ok (.getfield 26, 3) := by decide +kernel
theorem dX7_pass_45 : decode cX7_pass 45 = .ok (.getfield 130, 3) := by decide +kernel
theorem dX7_pass_48 : decode cX7_pass 48 = .ok (.ireturn, 1) := by decide +kernel
set_option maxRecDepth 20000 in
theorem ggX7_set_X4_remember : GoodIn wsX7_set wsX4_remember := goodIn_r _ [9, 10, 11, 12, 13, 14, 8, 15, 16, 17, 18, 19, 20, 21, 22, 23, 24, 25, 26, 27, 28, 29, 30, 31, 32, 50, 51, 52, 39, 40, 41, 42, 43, 44, 45, 46, 47, 48, 49] (by decide +kernel) (by decide +kernel)
set_option maxRecDepth 20000 in
theorem gX7_set_X4_remember : GoodIn wsX7_set (wsV RX7 206 RX4 yX4_remember wsX4_remember) := goodIn_app (goodIn_of _ (by decide +kernel)) ggX7_set_X4_remember
theorem dX7_set_0 : decode cX7_set 0 = .ok (.iload_n 1, 1) := by decide +kernel
theorem dX7_set_1 : decode cX7_set 1 = .ok (.ifCond .eq 18, 3) := by decide +kernel
theorem dX7_set_4 : decode cX7_set 4 = .ok (.iload_n 1, 1) := by decide +kernel
theorem dX7_set_5 : decode cX7_set 5 = .ok (.iconst 1, 1) := by decide +kernel
theorem dX7_set_6 : decode cX7_set 6 = .ok (.if_icmp .eq 13, 3) := by decide +kernel
theorem dX7_set_9 : decode cX7_set 9 = .ok (.new 50, 3) := by decide +kernel
theorem dX7_set_12 : decode cX7_set 12 = .ok (.dup, 1) := by decide +kernel
theorem dX7_set_13 : decode cX7_set 13 = .ok (.ldc 220, 2) := by decide +kernel
theorem dX7_set_15 : decode cX7_set 15 = .ok (.invokespecial 54, 3) := by decide +kernel
theorem dX7_set_18 : decode cX7_set 18 = .ok (.athrow, 1) := by decide +kernel
theorem dX7_set_19 : decode cX7_set 19 = .ok (.aload_n 0, 1) := by decide +kernel
theorem dX7_set_20 : decode cX7_set 20 = .ok (.getfield 36, 3) := by decide +kernel
theorem dX7_set_23 : decode cX7_set 23 = .ok (.aload_n 0, 1) := by decide +kernel
theorem dX7_set_24 : decode cX7_set 24 = .ok (.getfield 26, 3) := by decide +kernel
theorem dX7_set_27 : decode cX7_set 27 = .ok (.invokevirtual 206, 3) := by decide +kernel
theorem dX7_set_30 : decode cX7_set 30 = .ok (.aload_n 0, 1) := by decide +kernel
theorem dX7_set_31 : decode cX7_set 31 = .ok (.getfield 26, 3) := by decide +kernel
theorem dX7_set_34 : decode cX7_set 34 = .ok (.getfield 88, 3) := by decide +kernel
theorem dX7_set_37 : decode cX7_set 37 = .ok (.istore_n 2, 1) := by decide +kernel
theorem dX7_set_38 : decode cX7_set 38 = .ok (.aload_n 0, 1) := by decide +kernel
theorem dX7_set_39 : decode cX7_set 39 = .ok (.getfield 26, 3) := by decide +kernel
theorem dX7_set_42 : decode cX7_set 42 = .ok (.iload_n 1, 1) := by decide +kernel
theorem dX7_set_43 : decode cX7_set 43 = .ok (.putfield 88, 3) := by decide +kernel
theorem dX7_set_46 : decode cX7_set 46 = .ok (.iload_n 2, 1) := by decide +kernel
theorem dX7_set_47 : decode cX7_set 47 = .ok (.ireturn, 1) := by decide +kernel
set_option maxRecDepth 20000 in
theorem ggX7_undo_X4_takeBackInto : GoodIn wsX7_undo wsX4_takeBackInto := goodIn_r _ [9, 10, 11, 12, 13, 8, 14, 15, 16, 17, 18, 19, 20, 21, 22, 23, 24, 25, 26, 27, 28, 29, 30, 31, 32, 39, 40, 41, 42, 43, 44, 45, 46, 47, 48, 49, 50, 51, 52] (by decide +kernel) (by decide +kernel)
set_option maxRecDepth 20000 in
theorem gX7_undo_X4_takeBackInto : GoodIn wsX7_undo (wsV RX7 227 RX4 yX4_takeBackInto wsX4_takeBackInto) := goodIn_app (goodIn_of _ (by decide +kernel)) ggX7_undo_X4_takeBackInto
theorem dX7_undo_0 : decode cX7_undo 0 = .ok (.aload_n 0, 1) := by decide +kernel
theorem dX7_undo_1 : decode cX7_undo 1 = .ok (.getfield 36, 3) := by decide +kernel
theorem dX7_undo_4 : decode cX7_undo 4 = .ok (.getfield 222, 3) := by decide +kernel
theorem dX7_undo_7 : decode cX7_undo 7 = .ok (.ifCond .gt 13, 3) := by decide +kernel
theorem dX7_undo_10 : decode cX7_undo 10 = .ok (.new 61, 3) := by decide +kernel
theorem dX7_undo_13 : decode cX7_undo 13 = .ok (.dup, 1) := by decide +kernel
theorem dX7_undo_14 : decode cX7_undo 14 = .ok (.ldc 225, 2) := by decide +kernel
theorem dX7_undo_16 : decode cX7_undo 16 = .ok (.invokespecial 65, 3) := by decide +kernel
theorem dX7_undo_19 : decode cX7_undo 19 = .ok (.athrow, 1) := by decide +kernel
theorem dX7_undo_20 : decode cX7_undo 20 = .ok (.aload_n 0, 1) := by decide +kernel
theorem dX7_undo_21 : decode cX7_undo 21 = .ok (.getfield 36, 3) := by decide +kernel
theorem dX7_undo_24 : decode cX7_undo 24 = .ok (.aload_n 0, 1) := by decide +kernel
theorem dX7_undo_25 : decode cX7_undo 25 = .ok (.getfield 26, 3) := by decide +kernel
theorem dX7_undo_28 : decode cX7_undo 28 = .ok (.invokevirtual 227, 3) := by decide +kernel
theorem dX7_undo_31 : decode cX7_undo 31 = .ok (.ireturn, 1) := by decide +kernel
set_option maxRecDepth 20000 in
theorem ggX7_ifPlayed_X2_has : GoodIn wsX7_ifPlayed wsX2_has := goodIn_r _ [10, 11, 97, 98, 99, 100, 101] (by decide +kernel) (by decide +kernel)
set_option maxRecDepth 20000 in
theorem gX7_ifPlayed_X2_has : GoodIn wsX7_ifPlayed (wsV RX7 176 RX2 yX2_has wsX2_has) := goodIn_app (goodIn_of _ (by decide +kernel)) ggX7_ifPlayed_X2_has
set_option maxRecDepth 20000 in
theorem ggX7_ifPlayed_X0_reasonAt : GoodIn wsX7_ifPlayed wsX0_reasonAt := goodIn_r _ [16, 17, 18, 19, 20, 21, 22, 15, 23, 24, 25, 26, 27, 28, 29, 30, 31, 32, 9, 33, 34, 35, 36, 37, 38, 39, 40, 41, 42, 43, 44, 45, 46, 47, 48, 49, 50, 51, 52, 53, 54, 55, 56, 57, 58, 59, 60, 61, 86, 87, 88, 89, 90, 91, 92, 93, 94, 95, 96, 97, 98, 99, 100, 101] (by decide +kernel) (by decide +kernel)
set_option maxRecDepth 20000 in
theorem gX7_ifPlayed_X0_reasonAt : GoodIn wsX7_ifPlayed (wsV RX7 201 RX0 yX0_reasonAt wsX0_reasonAt) := goodIn_app (goodIn_of _ (by decide +kernel)) ggX7_ifPlayed_X0_reasonAt
set_option maxRecDepth 20000 in
theorem ggX7_ifPlayed_X0_effectOf : GoodIn wsX7_ifPlayed wsX0_effectOf := goodIn_r _ [65, 17, 18, 20, 21, 22, 15, 23, 19, 24, 25, 26, 27, 28, 29, 30, 31, 32, 9, 33, 34, 35, 36, 37, 38, 39, 40, 41, 42, 43, 44, 45, 46, 66, 67, 68, 69, 70, 71, 72, 47, 48, 49, 50, 73, 74, 75, 76, 77, 78, 79, 86, 87, 88, 89, 90, 91, 92, 93, 94, 95, 96, 97, 98, 99, 100, 101] (by decide +kernel) (by decide +kernel)
set_option maxRecDepth 20000 in
theorem gX7_ifPlayed_X0_effectOf : GoodIn wsX7_ifPlayed (wsV RX7 233 RX0 yX0_effectOf wsX0_effectOf) := goodIn_app (goodIn_of _ (by decide +kernel)) ggX7_ifPlayed_X0_effectOf
theorem dX7_ifPlayed_0 : decode cX7_ifPlayed 0 = .ok (.aload_n 0, 1) := by decide +kernel
theorem dX7_ifPlayed_1 : decode cX7_ifPlayed 1 = .ok (.getfield 26, 3) := by decide +kernel
theorem dX7_ifPlayed_4 : decode cX7_ifPlayed 4 = .ok (.getfield 118, 3) := by decide +kernel
theorem dX7_ifPlayed_7 : decode cX7_ifPlayed 7 = .ok (.iload_n 1, 1) := by decide +kernel
theorem dX7_ifPlayed_8 : decode cX7_ifPlayed 8 = .ok (.invokevirtual 176, 3) := by decide +kernel
theorem dX7_ifPlayed_11 : decode cX7_ifPlayed 11 = .ok (.ifCond .ne 13, 3) := by decide +kernel
theorem dX7_ifPlayed_14 : decode cX7_ifPlayed 14 = .ok (.new 147, 3) := by decide +kernel
theorem dX7_ifPlayed_17 : decode cX7_ifPlayed 17 = .ok (.dup, 1) := by decide +kernel
theorem dX7_ifPlayed_18 : decode cX7_ifPlayed 18 = .ok (.ldc 179, 2) := by decide +kernel
theorem dX7_ifPlayed_20 : decode cX7_ifPlayed 20 = .ok (.invokespecial 151, 3) := by decide +kernel
theorem dX7_ifPlayed_23 : decode cX7_ifPlayed 23 = .ok (.athrow, 1) := by decide +kernel
theorem dX7_ifPlayed_24 : decode cX7_ifPlayed 24 = .ok (.iload_n 2, 1) := by decide +kernel
theorem dX7_ifPlayed_25 : decode cX7_ifPlayed 25 = .ok (.ifCond .lt 8, 3) := by decide +kernel
theorem dX7_ifPlayed_28 : decode cX7_ifPlayed 28 = .ok (.iload_n 2, 1) := by decide +kernel
theorem dX7_ifPlayed_29 : decode cX7_ifPlayed 29 = .ok (.iconst 3, 1) := by decide +kernel
theorem dX7_ifPlayed_30 : decode cX7_ifPlayed 30 = .ok (.if_icmp .le 13, 3) := by decide +kernel
theorem dX7_ifPlayed_33 : decode cX7_ifPlayed 33 = .ok (.new 50, 3) := by decide +kernel
theorem dX7_ifPlayed_36 : decode cX7_ifPlayed 36 = .ok (.dup, 1) := by decide +kernel
theorem dX7_ifPlayed_37 : decode cX7_ifPlayed 37 = .ok (.ldc 231, 2) := by decide +kernel
theorem dX7_ifPlayed_39 : decode cX7_ifPlayed 39 = .ok (.invokespecial 54, 3) := by decide +kernel
theorem dX7_ifPlayed_42 : decode cX7_ifPlayed 42 = .ok (.athrow, 1) := by decide +kernel
theorem dX7_ifPlayed_43 : decode cX7_ifPlayed 43 = .ok (.aload_n 0, 1) := by decide +kernel
theorem dX7_ifPlayed_44 : decode cX7_ifPlayed 44 = .ok (.getfield 26, 3) := by decide +kernel
theorem dX7_ifPlayed_47 : decode cX7_ifPlayed 47 = .ok (.iload_n 1, 1) := by decide +kernel
theorem dX7_ifPlayed_48 : decode cX7_ifPlayed 48 = .ok (.invokevirtual 201, 3) := by decide +kernel
theorem dX7_ifPlayed_51 : decode cX7_ifPlayed 51 = .ok (.ifCond .ne 15, 3) := by decide +kernel
theorem dX7_ifPlayed_54 : decode cX7_ifPlayed 54 = .ok (.aload_n 0, 1) := by decide +kernel
theorem dX7_ifPlayed_55 : decode cX7_ifPlayed 55 = .ok (.getfield 26, 3) := by decide +kernel
theorem dX7_ifPlayed_58 : decode cX7_ifPlayed 58 = .ok (.iload_n 1, 1) := by decide +kernel
theorem dX7_ifPlayed_59 : decode cX7_ifPlayed 59 = .ok (.iload_n 2, 1) := by decide +kernel
theorem dX7_ifPlayed_60 : decode cX7_ifPlayed 60 = .ok (.invokevirtual 233, 3) := by decide +kernel
theorem dX7_ifPlayed_63 : decode cX7_ifPlayed 63 = .ok (.goto 4, 3) := by decide +kernel
theorem dX7_ifPlayed_66 : decode cX7_ifPlayed 66 = .ok (.iconst (-1), 1) := by decide +kernel
theorem dX7_ifPlayed_67 : decode cX7_ifPlayed 67 = .ok (.ireturn, 1) := by decide +kernel
set_option maxRecDepth 20000 in
theorem ggX7_bestTake_X0_reasonAt : GoodIn wsX7_bestTake wsX0_reasonAt := goodIn_r _ [7, 8, 9, 10, 11, 12, 13, 6, 14, 15, 16, 17, 18, 19, 20, 21, 22, 23, 24, 25, 26, 27, 28, 29, 30, 31, 32, 33, 34, 35, 36, 37, 38, 39, 40, 41, 42, 43, 44, 45, 46, 47, 48, 49, 50, 51, 52, 53, 78, 79, 80, 81, 82, 83, 84, 85, 86, 87, 88, 89, 90, 91, 92, 93] (by decide +kernel) (by decide +kernel)
set_option maxRecDepth 20000 in
theorem gX7_bestTake_X0_reasonAt : GoodIn wsX7_bestTake (wsV RX7 201 RX0 yX0_reasonAt wsX0_reasonAt) := goodIn_app (goodIn_of _ (by decide +kernel)) ggX7_bestTake_X0_reasonAt
set_option maxRecDepth 20000 in
theorem ggX7_bestTake_X0_effectOf : GoodIn wsX7_bestTake wsX0_effectOf := goodIn_r _ [57, 8, 9, 11, 12, 13, 6, 14, 10, 15, 16, 17, 18, 19, 20, 21, 22, 23, 24, 25, 26, 27, 28, 29, 30, 31, 32, 33, 34, 35, 36, 37, 38, 58, 59, 60, 61, 62, 63, 64, 39, 40, 41, 42, 65, 66, 67, 68, 69, 70, 71, 78, 79, 80, 81, 82, 83, 84, 85, 86, 87, 88, 89, 90, 91, 92, 93] (by decide +kernel) (by decide +kernel)
set_option maxRecDepth 20000 in
theorem gX7_bestTake_X0_effectOf : GoodIn wsX7_bestTake (wsV RX7 233 RX0 yX0_effectOf wsX0_effectOf) := goodIn_app (goodIn_of _ (by decide +kernel)) ggX7_bestTake_X0_effectOf
theorem dX7_bestTake_0 : decode cX7_bestTake 0 = .ok (.iconst (-1), 1) := by decide +kernel
theorem dX7_bestTake_1 : decode cX7_bestTake 1 = .ok (.istore_n 1, 1) := by decide +kernel
theorem dX7_bestTake_2 : decode cX7_bestTake 2 = .ok (.iconst 0, 1) := by decide +kernel
theorem dX7_bestTake_3 : decode cX7_bestTake 3 = .ok (.istore_n 2, 1) := by decide +kernel
theorem dX7_bestTake_4 : decode cX7_bestTake 4 = .ok (.iconst 0, 1) := by decide +kernel
theorem dX7_bestTake_5 : decode cX7_bestTake 5 = .ok (.istore_n 3, 1) := by decide +kernel
theorem dX7_bestTake_6 : decode cX7_bestTake 6 = .ok (.iload_n 3, 1) := by decide +kernel
theorem dX7_bestTake_7 : decode cX7_bestTake 7 = .ok (.aload_n 0, 1) := by decide +kernel
theorem dX7_bestTake_8 : decode cX7_bestTake 8 = .ok (.getfield 26, 3) := by decide +kernel
theorem dX7_bestTake_11 : decode cX7_bestTake 11 = .ok (.getfield 118, 3) := by decide +kernel
theorem dX7_bestTake_14 : decode cX7_bestTake 14 = .ok (.getfield 210, 3) := by decide +kernel
theorem dX7_bestTake_17 : decode cX7_bestTake 17 = .ok (.if_icmp .ge 46, 3) := by decide +kernel
theorem dX7_bestTake_20 : decode cX7_bestTake 20 = .ok (.aload_n 0, 1) := by decide +kernel
theorem dX7_bestTake_21 : decode cX7_bestTake 21 = .ok (.getfield 26, 3) := by decide +kernel
theorem dX7_bestTake_24 : decode cX7_bestTake 24 = .ok (.iload_n 3, 1) := by decide +kernel
theorem dX7_bestTake_25 : decode cX7_bestTake 25 = .ok (.invokevirtual 201, 3) := by decide +kernel
theorem dX7_bestTake_28 : decode cX7_bestTake 28 = .ok (.ifCond .ne 15, 3) := by decide +kernel
theorem dX7_bestTake_31 : decode cX7_bestTake 31 = .ok (.aload_n 0, 1) := by decide +kernel
theorem dX7_bestTake_32 : decode cX7_bestTake 32 = .ok (.getfield 26, 3) := by decide +kernel
theorem dX7_bestTake_35 : decode cX7_bestTake 35 = .ok (.iload_n 3, 1) := by decide +kernel
theorem dX7_bestTake_36 : decode cX7_bestTake 36 = .ok (.iconst 0, 1) := by decide +kernel
theorem dX7_bestTake_37 : decode cX7_bestTake 37 = .ok (.invokevirtual 233, 3) := by decide +kernel
theorem dX7_bestTake_40 : decode cX7_bestTake 40 = .ok (.goto 4, 3) := by decide +kernel
theorem dX7_bestTake_43 : decode cX7_bestTake 43 = .ok (.iconst 0, 1) := by decide +kernel
theorem dX7_bestTake_44 : decode cX7_bestTake 44 = .ok (.istore 4, 2) := by decide +kernel
theorem dX7_bestTake_46 : decode cX7_bestTake 46 = .ok (.iload 4, 2) := by decide +kernel
theorem dX7_bestTake_48 : decode cX7_bestTake 48 = .ok (.iload_n 2, 1) := by decide +kernel
theorem dX7_bestTake_49 : decode cX7_bestTake 49 = .ok (.if_icmp .le 8, 3) := by decide +kernel
theorem dX7_bestTake_52 : decode cX7_bestTake 52 = .ok (.iload_n 3, 1) := by decide +kernel
theorem dX7_bestTake_53 : decode cX7_bestTake 53 = .ok (.istore_n 1, 1) := by decide +kernel
theorem dX7_bestTake_54 : decode cX7_bestTake 54 = .ok (.iload 4, 2) := by decide +kernel
theorem dX7_bestTake_56 : decode cX7_bestTake 56 = .ok (.istore_n 2, 1) := by decide +kernel
theorem dX7_bestTake_57 : decode cX7_bestTake 57 = .ok (.iinc 3 1, 3) := by decide +kernel
theorem dX7_bestTake_60 : decode cX7_bestTake 60 = .ok (.goto (-54), 3) := by decide +kernel
theorem dX7_bestTake_63 : decode cX7_bestTake 63 = .ok (.iload_n 1, 1) := by decide +kernel
theorem dX7_bestTake_64 : decode cX7_bestTake 64 = .ok (.ireturn, 1) := by decide +kernel
set_option maxRecDepth 20000 in
theorem ggX7_choices_X0_reasonAt : GoodIn wsX7_choices wsX0_reasonAt := goodIn_r _ [7, 8, 9, 10, 11, 12, 13, 6, 14, 15, 16, 17, 18, 19, 20, 21, 22, 23, 24, 25, 26, 27, 28, 29, 30, 31, 32, 33, 34, 35, 36, 37, 38, 39, 40, 41, 42, 43, 44, 45, 46, 47, 48, 49, 50, 51, 52, 53, 60, 61, 62, 63, 64, 65, 66, 67, 68, 69, 70, 71, 72, 73, 74, 75] (by decide +kernel) (by decide +kernel)
set_option maxRecDepth 20000 in
theorem gX7_choices_X0_reasonAt : GoodIn wsX7_choices (wsV RX7 201 RX0 yX0_reasonAt wsX0_reasonAt) := goodIn_app (goodIn_of _ (by decide +kernel)) ggX7_choices_X0_reasonAt
theorem dX7_choices_0 : decode cX7_choices 0 = .ok (.iconst 0, 1) := by decide +kernel
theorem dX7_choices_1 : decode cX7_choices 1 = .ok (.istore_n 1, 1) := by decide +kernel
theorem dX7_choices_2 : decode cX7_choices 2 = .ok (.iconst 0, 1) := by decide +kernel
theorem dX7_choices_3 : decode cX7_choices 3 = .ok (.istore_n 2, 1) := by decide +kernel
theorem dX7_choices_4 : decode cX7_choices 4 = .ok (.iload_n 2, 1) := by decide +kernel
theorem dX7_choices_5 : decode cX7_choices 5 = .ok (.aload_n 0, 1) := by decide +kernel
theorem dX7_choices_6 : decode cX7_choices 6 = .ok (.getfield 26, 3) := by decide +kernel
theorem dX7_choices_9 : decode cX7_choices 9 = .ok (.getfield 118, 3) := by decide +kernel
theorem dX7_choices_12 : decode cX7_choices 12 = .ok (.getfield 210, 3) := by decide +kernel
theorem dX7_choices_15 : decode cX7_choices 15 = .ok (.if_icmp .ge 23, 3) := by decide +kernel
theorem dX7_choices_18 : decode cX7_choices 18 = .ok (.aload_n 0, 1) := by decide +kernel
theorem dX7_choices_19 : decode cX7_choices 19 = .ok (.getfield 26, 3) := by decide +kernel
theorem dX7_choices_22 : decode cX7_choices 22 = .ok (.iload_n 2, 1) := by decide +kernel
theorem dX7_choices_23 : decode cX7_choices 23 = .ok (.invokevirtual 201, 3) := by decide +kernel
theorem dX7_choices_26 : decode cX7_choices 26 = .ok (.ifCond .ne 6, 3) := by decide +kernel
theorem dX7_choices_29 : decode cX7_choices 29 = .ok (.iinc 1 1, 3) := by decide +kernel
theorem dX7_choices_32 : decode cX7_choices 32 = .ok (.iinc 2 1, 3) := by decide +kernel
theorem dX7_choices_35 : decode cX7_choices 35 = .ok (.goto (-31), 3) := by decide +kernel
theorem dX7_choices_38 : decode cX7_choices 38 = .ok (.iload_n 1, 1) := by decide +kernel
theorem dX7_choices_39 : decode cX7_choices 39 = .ok (.ireturn, 1) := by decide +kernel
set_option maxRecDepth 20000 in
theorem ggX7_ladder_X2_has : GoodIn wsX7_ladder wsX2_has := goodIn_r _ [10, 11, 76, 77, 78, 79, 80] (by decide +kernel) (by decide +kernel)
set_option maxRecDepth 20000 in
theorem gX7_ladder_X2_has : GoodIn wsX7_ladder (wsV RX7 176 RX2 yX2_has wsX2_has) := goodIn_app (goodIn_of _ (by decide +kernel)) ggX7_ladder_X2_has
set_option maxRecDepth 20000 in
theorem ggX7_ladder_X0_colourAt : GoodIn wsX7_ladder wsX0_colourAt := goodIn_r _ [16, 17, 18, 65, 66, 67, 68, 69, 70, 71, 72, 73, 74, 75] (by decide +kernel) (by decide +kernel)
set_option maxRecDepth 20000 in
theorem gX7_ladder_X0_colourAt : GoodIn wsX7_ladder (wsV RX7 181 RX0 yX0_colourAt wsX0_colourAt) := goodIn_app (goodIn_of _ (by decide +kernel)) ggX7_ladder_X0_colourAt
set_option maxRecDepth 20000 in
theorem ggX7_ladder_X0_stonesOf : GoodIn wsX7_ladder wsX0_stonesOf := goodIn_r _ [22, 17, 18, 65, 66, 67, 68, 69, 70, 71, 72, 73, 74, 75] (by decide +kernel) (by decide +kernel)
set_option maxRecDepth 20000 in
theorem gX7_ladder_X0_stonesOf : GoodIn wsX7_ladder (wsV RX7 152 RX0 yX0_stonesOf wsX0_stonesOf) := goodIn_app (goodIn_of _ (by decide +kernel)) ggX7_ladder_X0_stonesOf
set_option maxRecDepth 20000 in
theorem ggX7_ladder_X3_firstStone : GoodIn wsX7_ladder wsX3_firstStone := goodIn_r _ [25, 26, 27, 28, 29, 9, 30, 31, 32, 33, 34, 35, 36, 37, 38, 39, 40, 41, 42, 43, 44, 45, 46, 47, 48, 49, 50, 51, 52, 53, 54, 55, 56, 24, 57, 58, 23, 76, 77, 78, 79, 80] (by decide +kernel) (by decide +kernel)
set_option maxRecDepth 20000 in
theorem gX7_ladder_X3_firstStone_n237 : GoodIn wsX7_ladder (wsX3_firstStone) := ggX7_ladder_X3_firstStone
set_option maxRecDepth 20000 in
theorem ggX7_ladder_X3_holdsOwner : GoodIn wsX7_ladder wsX3_holdsOwner := goodIn_r _ [57, 26, 27, 28, 29, 9, 30, 31, 32, 33, 34, 35, 36, 37, 38, 39, 40, 41, 42, 43, 44, 45, 46, 47, 48, 49, 50, 51, 52, 53, 54, 58, 23, 24, 25, 55, 56, 76, 77, 78, 79, 80] (by decide +kernel) (by decide +kernel)
set_option maxRecDepth 20000 in
theorem gX7_ladder_X3_holdsOwner_n243 : GoodIn wsX7_ladder (wsX3_holdsOwner) := ggX7_ladder_X3_holdsOwner
theorem dX7_ladder_0 : decode cX7_ladder 0 = .ok (.aload_n 0, 1) := by decide +kernel
theorem dX7_ladder_1 : decode cX7_ladder 1 = .ok (.getfield 26, 3) := by decide +kernel
theorem dX7_ladder_4 : decode cX7_ladder 4 = .ok (.getfield 118, 3) := by decide +kernel
theorem dX7_ladder_7 : decode cX7_ladder 7 = .ok (.iload_n 1, 1) := by decide +kernel
theorem dX7_ladder_8 : decode cX7_ladder 8 = .ok (.invokevirtual 176, 3) := by decide +kernel
theorem dX7_ladder_11 : decode cX7_ladder 11 = .ok (.ifCond .ne 13, 3) := by decide +kernel
theorem dX7_ladder_14 : decode cX7_ladder 14 = .ok (.new 147, 3) := by decide +kernel
theorem dX7_ladder_17 : decode cX7_ladder 17 = .ok (.dup, 1) := by decide +kernel
theorem dX7_ladder_18 : decode cX7_ladder 18 = .ok (.ldc 179, 2) := by decide +kernel
theorem dX7_ladder_20 : decode cX7_ladder 20 = .ok (.invokespecial 151, 3) := by decide +kernel
theorem dX7_ladder_23 : decode cX7_ladder 23 = .ok (.athrow, 1) := by decide +kernel
theorem dX7_ladder_24 : decode cX7_ladder 24 = .ok (.iload_n 2, 1) := by decide +kernel
theorem dX7_ladder_25 : decode cX7_ladder 25 = .ok (.ifCond .eq 18, 3) := by decide +kernel
theorem dX7_ladder_28 : decode cX7_ladder 28 = .ok (.iload_n 2, 1) := by decide +kernel
theorem dX7_ladder_29 : decode cX7_ladder 29 = .ok (.iconst 1, 1) := by decide +kernel
theorem dX7_ladder_30 : decode cX7_ladder 30 = .ok (.if_icmp .eq 13, 3) := by decide +kernel
theorem dX7_ladder_33 : decode cX7_ladder 33 = .ok (.new 50, 3) := by decide +kernel
theorem dX7_ladder_36 : decode cX7_ladder 36 = .ok (.dup, 1) := by decide +kernel
theorem dX7_ladder_37 : decode cX7_ladder 37 = .ok (.ldc 199, 2) := by decide +kernel
theorem dX7_ladder_39 : decode cX7_ladder 39 = .ok (.invokespecial 54, 3) := by decide +kernel
theorem dX7_ladder_42 : decode cX7_ladder 42 = .ok (.athrow, 1) := by decide +kernel
theorem dX7_ladder_43 : decode cX7_ladder 43 = .ok (.aload_n 0, 1) := by decide +kernel
theorem dX7_ladder_44 : decode cX7_ladder 44 = .ok (.getfield 26, 3) := by decide +kernel
theorem dX7_ladder_47 : decode cX7_ladder 47 = .ok (.iload_n 1, 1) := by decide +kernel
theorem dX7_ladder_48 : decode cX7_ladder 48 = .ok (.invokevirtual 181, 3) := by decide +kernel
theorem dX7_ladder_51 : decode cX7_ladder 51 = .ok (.istore_n 3, 1) := by decide +kernel
theorem dX7_ladder_52 : decode cX7_ladder 52 = .ok (.iload_n 3, 1) := by decide +kernel
theorem dX7_ladder_53 : decode cX7_ladder 53 = .ok (.iconst (-1), 1) := by decide +kernel
theorem dX7_ladder_54 : decode cX7_ladder 54 = .ok (.if_icmp .ne 5, 3) := by decide +kernel
theorem dX7_ladder_57 : decode cX7_ladder 57 = .ok (.iconst (-1), 1) := by decide +kernel
theorem dX7_ladder_58 : decode cX7_ladder 58 = .ok (.ireturn, 1) := by decide +kernel
theorem dX7_ladder_59 : decode cX7_ladder 59 = .ok (.iload_n 2, 1) := by decide +kernel
theorem dX7_ladder_60 : decode cX7_ladder 60 = .ok (.ifCond .ne 49, 3) := by decide +kernel
theorem dX7_ladder_63 : decode cX7_ladder 63 = .ok (.aload_n 0, 1) := by decide +kernel
theorem dX7_ladder_64 : decode cX7_ladder 64 = .ok (.getfield 26, 3) := by decide +kernel
theorem dX7_ladder_67 : decode cX7_ladder 67 = .ok (.getfield 118, 3) := by decide +kernel
theorem dX7_ladder_70 : decode cX7_ladder 70 = .ok (.aload_n 0, 1) := by decide +kernel
theorem dX7_ladder_71 : decode cX7_ladder 71 = .ok (.getfield 26, 3) := by decide +kernel
theorem dX7_ladder_74 : decode cX7_ladder 74 = .ok (.iconst 1, 1) := by decide +kernel
theorem dX7_ladder_75 : decode cX7_ladder 75 = .ok (.iload_n 3, 1) := by decide +kernel
theorem dX7_ladder_76 : decode cX7_ladder 76 = .ok (.isub, 1) := by decide +kernel
theorem dX7_ladder_77 : decode cX7_ladder 77 = .ok (.invokevirtual 152, 3) := by decide +kernel
theorem dX7_ladder_80 : decode cX7_ladder 80 = .ok (.aload_n 0, 1) := by decide +kernel
theorem dX7_ladder_81 : decode cX7_ladder 81 = .ok (.getfield 26, 3) := by decide +kernel
theorem dX7_ladder_84 : decode cX7_ladder 84 = .ok (.iload_n 3, 1) := by decide +kernel
theorem dX7_ladder_85 : decode cX7_ladder 85 = .ok (.invokevirtual 152, 3) := by decide +kernel
theorem dX7_ladder_88 : decode cX7_ladder 88 = .ok (.lconst 1, 1) := by decide +kernel
theorem dX7_ladder_89 : decode cX7_ladder 89 = .ok (.iload_n 1, 1) := by decide +kernel
theorem dX7_ladder_90 : decode cX7_ladder 90 = .ok (.lshl, 1) := by decide +kernel
theorem dX7_ladder_91 : decode cX7_ladder 91 = .ok (.bipush 12, 2) := by decide +kernel
theorem dX7_ladder_93 : decode cX7_ladder 93 = .ok (.invokestatic 237, 3) := by decide +kernel
theorem dX7_ladder_96 : decode cX7_ladder 96 = .ok (.lconst 0, 1) := by decide +kernel
theorem dX7_ladder_97 : decode cX7_ladder 97 = .ok (.lcmp, 1) := by decide +kernel
theorem dX7_ladder_98 : decode cX7_ladder 98 = .ok (.ifCond .eq 7, 3) := by decide +kernel
theorem dX7_ladder_101 : decode cX7_ladder 101 = .ok (.iconst 1, 1) := by decide +kernel
theorem dX7_ladder_102 : decode cX7_ladder 102 = .ok (.goto 40, 3) := by decide +kernel
theorem dX7_ladder_105 : decode cX7_ladder 105 = .ok (.iconst 0, 1) := by decide +kernel
theorem dX7_ladder_106 : decode cX7_ladder 106 = .ok (.goto 36, 3) := by decide +kernel
theorem dX7_ladder_109 : decode cX7_ladder 109 = .ok (.aload_n 0, 1) := by decide +kernel
theorem dX7_ladder_110 : decode cX7_ladder 110 = .ok (.getfield 26, 3) := by decide +kernel
theorem dX7_ladder_113 : decode cX7_ladder 113 = .ok (.getfield 118, 3) := by decide +kernel
theorem dX7_ladder_116 : decode cX7_ladder 116 = .ok (.aload_n 0, 1) := by decide +kernel
theorem dX7_ladder_117 : decode cX7_ladder 117 = .ok (.getfield 26, 3) := by decide +kernel
theorem dX7_ladder_120 : decode cX7_ladder 120 = .ok (.iconst 1, 1) := by decide +kernel
theorem dX7_ladder_121 : decode cX7_ladder 121 = .ok (.iload_n 3, 1) := by decide +kernel
theorem dX7_ladder_122 : decode cX7_ladder 122 = .ok (.isub, 1) := by decide +kernel
theorem dX7_ladder_123 : decode cX7_ladder 123 = .ok (.invokevirtual 152, 3) := by decide +kernel
theorem dX7_ladder_126 : decode cX7_ladder 126 = .ok (.aload_n 0, 1) := by decide +kernel
theorem dX7_ladder_127 : decode cX7_ladder 127 = .ok (.getfield 26, 3) := by decide +kernel
theorem dX7_ladder_130 : decode cX7_ladder 130 = .ok (.iload_n 3, 1) := by decide +kernel
theorem dX7_ladder_131 : decode cX7_ladder 131 = .ok (.invokevirtual 152, 3) := by decide +kernel
theorem dX7_ladder_134 : decode cX7_ladder 134 = .ok (.lconst 1, 1) := by decide +kernel
theorem dX7_ladder_135 : decode cX7_ladder 135 = .ok (.iload_n 1, 1) := by decide +kernel
theorem dX7_ladder_136 : decode cX7_ladder 136 = .ok (.lshl, 1) := by decide +kernel
theorem dX7_ladder_137 : decode cX7_ladder 137 = .ok (.bipush 12, 2) := by decide +kernel
theorem dX7_ladder_139 : decode cX7_ladder 139 = .ok (.invokestatic 243, 3) := by decide +kernel
theorem dX7_ladder_142 : decode cX7_ladder 142 = .ok (.istore 4, 2) := by decide +kernel
theorem dX7_ladder_144 : decode cX7_ladder 144 = .ok (.iload 4, 2) := by decide +kernel
theorem dX7_ladder_146 : decode cX7_ladder 146 = .ok (.ifCond .eq 7, 3) := by decide +kernel
theorem dX7_ladder_149 : decode cX7_ladder 149 = .ok (.iconst 1, 1) := by decide +kernel
theorem dX7_ladder_150 : decode cX7_ladder 150 = .ok (.goto 4, 3) := by decide +kernel
theorem dX7_ladder_153 : decode cX7_ladder 153 = .ok (.iconst 0, 1) := by decide +kernel
theorem dX7_ladder_154 : decode cX7_ladder 154 = .ok (.ireturn, 1) := by decide +kernel
set_option maxRecDepth 20000 in
theorem ggX7_chase_X2_has : GoodIn wsX7_chase wsX2_has := goodIn_r _ [8, 9, 75, 76, 77, 78, 79] (by decide +kernel) (by decide +kernel)
set_option maxRecDepth 20000 in
theorem gX7_chase_X2_has : GoodIn wsX7_chase (wsV RX7 176 RX2 yX2_has wsX2_has) := goodIn_app (goodIn_of _ (by decide +kernel)) ggX7_chase_X2_has
set_option maxRecDepth 20000 in
theorem ggX7_chase_X0_colourAt : GoodIn wsX7_chase wsX0_colourAt := goodIn_r _ [14, 15, 16, 64, 65, 66, 67, 68, 69, 70, 71, 72, 73, 74] (by decide +kernel) (by decide +kernel)
set_option maxRecDepth 20000 in
theorem gX7_chase_X0_colourAt : GoodIn wsX7_chase (wsV RX7 181 RX0 yX0_colourAt wsX0_colourAt) := goodIn_app (goodIn_of _ (by decide +kernel)) ggX7_chase_X0_colourAt
set_option maxRecDepth 20000 in
theorem ggX7_chase_X0_stonesOf : GoodIn wsX7_chase wsX0_stonesOf := goodIn_r _ [20, 15, 16, 64, 65, 66, 67, 68, 69, 70, 71, 72, 73, 74] (by decide +kernel) (by decide +kernel)
set_option maxRecDepth 20000 in
theorem gX7_chase_X0_stonesOf : GoodIn wsX7_chase (wsV RX7 152 RX0 yX0_stonesOf wsX0_stonesOf) := goodIn_app (goodIn_of _ (by decide +kernel)) ggX7_chase_X0_stonesOf
set_option maxRecDepth 20000 in
theorem ggX7_chase_X3_firstStone : GoodIn wsX7_chase wsX3_firstStone := goodIn_r _ [23, 24, 25, 26, 27, 7, 28, 29, 30, 31, 32, 33, 34, 35, 36, 37, 38, 39, 40, 41, 42, 43, 44, 45, 46, 47, 48, 49, 50, 51, 52, 53, 54, 22, 55, 56, 21, 75, 76, 77, 78, 79] (by decide +kernel) (by decide +kernel)
set_option maxRecDepth 20000 in
theorem gX7_chase_X3_firstStone_n237 : GoodIn wsX7_chase (wsX3_firstStone) := ggX7_chase_X3_firstStone
set_option maxRecDepth 20000 in
theorem ggX7_chase_J13_bitCount_95d88 : GoodIn wsX7_chase wsJ13_bitCount_95d88 := goodIn_r _ [45, 46, 47, 48] (by decide +kernel) (by decide +kernel)
set_option maxRecDepth 20000 in
theorem gX7_chase_J13_bitCount_95d88 : GoodIn wsX7_chase (va_wsS RX7 156 yJ13_bitCount_95d88 wsJ13_bitCount_95d88) := goodIn_app (goodIn_of _ (by decide +kernel)) ggX7_chase_J13_bitCount_95d88
theorem dX7_chase_0 : decode cX7_chase 0 = .ok (.aload_n 0, 1) := by decide +kernel
theorem dX7_chase_1 : decode cX7_chase 1 = .ok (.getfield 26, 3) := by decide +kernel
theorem dX7_chase_4 : decode cX7_chase 4 = .ok (.getfield 118, 3) := by decide +kernel
theorem dX7_chase_7 : decode cX7_chase 7 = .ok (.iload_n 1, 1) := by decide +kernel
theorem dX7_chase_8 : decode cX7_chase 8 = .ok (.invokevirtual 176, 3) := by decide +kernel
theorem dX7_chase_11 : decode cX7_chase 11 = .ok (.ifCond .ne 13, 3) := by decide +kernel
theorem dX7_chase_14 : decode cX7_chase 14 = .ok (.new 147, 3) := by decide +kernel
theorem dX7_chase_17 : decode cX7_chase 17 = .ok (.dup, 1) := by decide +kernel
theorem dX7_chase_18 : decode cX7_chase 18 = .ok (.ldc 179, 2) := by decide +kernel
theorem dX7_chase_20 : decode cX7_chase 20 = .ok (.invokespecial 151, 3) := by decide +kernel
theorem dX7_chase_23 : decode cX7_chase 23 = .ok (.athrow, 1) := by decide +kernel
theorem dX7_chase_24 : decode cX7_chase 24 = .ok (.aload_n 0, 1) := by decide +kernel
theorem dX7_chase_25 : decode cX7_chase 25 = .ok (.getfield 26, 3) := by decide +kernel
theorem dX7_chase_28 : decode cX7_chase 28 = .ok (.iload_n 1, 1) := by decide +kernel
theorem dX7_chase_29 : decode cX7_chase 29 = .ok (.invokevirtual 181, 3) := by decide +kernel
theorem dX7_chase_32 : decode cX7_chase 32 = .ok (.istore_n 2, 1) := by decide +kernel
theorem dX7_chase_33 : decode cX7_chase 33 = .ok (.iload_n 2, 1) := by decide +kernel
theorem dX7_chase_34 : decode cX7_chase 34 = .ok (.iconst (-1), 1) := by decide +kernel
theorem dX7_chase_35 : decode cX7_chase 35 = .ok (.if_icmp .ne 5, 3) := by decide +kernel
theorem dX7_chase_38 : decode cX7_chase 38 = .ok (.iconst (-1), 1) := by decide +kernel
theorem dX7_chase_39 : decode cX7_chase 39 = .ok (.ireturn, 1) := by decide +kernel
theorem dX7_chase_40 : decode cX7_chase 40 = .ok (.aload_n 0, 1) := by decide +kernel
theorem dX7_chase_41 : decode cX7_chase 41 = .ok (.getfield 26, 3) := by decide +kernel
theorem dX7_chase_44 : decode cX7_chase 44 = .ok (.getfield 118, 3) := by decide +kernel
theorem dX7_chase_47 : decode cX7_chase 47 = .ok (.aload_n 0, 1) := by decide +kernel
theorem dX7_chase_48 : decode cX7_chase 48 = .ok (.getfield 26, 3) := by decide +kernel
theorem dX7_chase_51 : decode cX7_chase 51 = .ok (.iconst 1, 1) := by decide +kernel
theorem dX7_chase_52 : decode cX7_chase 52 = .ok (.iload_n 2, 1) := by decide +kernel
theorem dX7_chase_53 : decode cX7_chase 53 = .ok (.isub, 1) := by decide +kernel
theorem dX7_chase_54 : decode cX7_chase 54 = .ok (.invokevirtual 152, 3) := by decide +kernel
theorem dX7_chase_57 : decode cX7_chase 57 = .ok (.aload_n 0, 1) := by decide +kernel
theorem dX7_chase_58 : decode cX7_chase 58 = .ok (.getfield 26, 3) := by decide +kernel
theorem dX7_chase_61 : decode cX7_chase 61 = .ok (.iload_n 2, 1) := by decide +kernel
theorem dX7_chase_62 : decode cX7_chase 62 = .ok (.invokevirtual 152, 3) := by decide +kernel
theorem dX7_chase_65 : decode cX7_chase 65 = .ok (.lconst 1, 1) := by decide +kernel
theorem dX7_chase_66 : decode cX7_chase 66 = .ok (.iload_n 1, 1) := by decide +kernel
theorem dX7_chase_67 : decode cX7_chase 67 = .ok (.lshl, 1) := by decide +kernel
theorem dX7_chase_68 : decode cX7_chase 68 = .ok (.bipush 12, 2) := by decide +kernel
theorem dX7_chase_70 : decode cX7_chase 70 = .ok (.invokestatic 237, 3) := by decide +kernel
theorem dX7_chase_73 : decode cX7_chase 73 = .ok (.lstore_n 3, 1) := by decide +kernel
theorem dX7_chase_74 : decode cX7_chase 74 = .ok (.lload_n 3, 1) := by decide +kernel
theorem dX7_chase_75 : decode cX7_chase 75 = .ok (.lconst 0, 1) := by decide +kernel
theorem dX7_chase_76 : decode cX7_chase 76 = .ok (.lcmp, 1) := by decide +kernel
theorem dX7_chase_77 : decode cX7_chase 77 = .ok (.ifCond .ne 7, 3) := by decide +kernel
theorem dX7_chase_80 : decode cX7_chase 80 = .ok (.iconst (-1), 1) := by decide +kernel
theorem dX7_chase_81 : decode cX7_chase 81 = .ok (.goto 9, 3) := by decide +kernel
theorem dX7_chase_84 : decode cX7_chase 84 = .ok (.lload_n 3, 1) := by decide +kernel
theorem dX7_chase_85 : decode cX7_chase 85 = .ok (.lconst 1, 1) := by decide +kernel
theorem dX7_chase_86 : decode cX7_chase 86 = .ok (.lsub, 1) := by decide +kernel
theorem dX7_chase_87 : decode cX7_chase 87 = .ok (.invokestatic 156, 3) := by decide +kernel
theorem dX7_chase_90 : decode cX7_chase 90 = .ok (.ireturn, 1) := by decide +kernel
set_option maxRecDepth 20000 in
theorem ggX7_lead_X0_areaOf : GoodIn wsX7_lead wsX0_areaOf := goodIn_r _ [6, 7, 8, 9, 10, 5, 11, 12, 13, 14, 15, 16, 17, 18, 19, 20, 21, 22, 23, 24, 25, 26, 27, 28, 29, 30, 31, 32, 33, 34, 35, 36, 37, 38, 45, 46, 47, 48, 49, 50, 51, 52, 53, 54, 55, 56, 57, 58, 59, 60] (by decide +kernel) (by decide +kernel)
set_option maxRecDepth 20000 in
theorem gX7_lead_X0_areaOf : GoodIn wsX7_lead (wsV RX7 165 RX0 yX0_areaOf wsX0_areaOf) := goodIn_app (goodIn_of _ (by decide +kernel)) ggX7_lead_X0_areaOf
theorem dX7_lead_0 : decode cX7_lead 0 = .ok (.aload_n 0, 1) := by decide +kernel
theorem dX7_lead_1 : decode cX7_lead 1 = .ok (.getfield 26, 3) := by decide +kernel
theorem dX7_lead_4 : decode cX7_lead 4 = .ok (.iconst 0, 1) := by decide +kernel
theorem dX7_lead_5 : decode cX7_lead 5 = .ok (.invokevirtual 165, 3) := by decide +kernel
theorem dX7_lead_8 : decode cX7_lead 8 = .ok (.aload_n 0, 1) := by decide +kernel
theorem dX7_lead_9 : decode cX7_lead 9 = .ok (.getfield 26, 3) := by decide +kernel
theorem dX7_lead_12 : decode cX7_lead 12 = .ok (.iconst 1, 1) := by decide +kernel
theorem dX7_lead_13 : decode cX7_lead 13 = .ok (.invokevirtual 165, 3) := by decide +kernel
theorem dX7_lead_16 : decode cX7_lead 16 = .ok (.isub, 1) := by decide +kernel
theorem dX7_lead_17 : decode cX7_lead 17 = .ok (.ireturn, 1) := by decide +kernel
set_option maxRecDepth 20000 in
theorem ggX7_runScript_X7_commandsIn : GoodIn wsX7_runScript wsX7_commandsIn := goodIn_r _ [8, 9] (by decide +kernel) (by decide +kernel)
set_option maxRecDepth 20000 in
theorem gX7_runScript_X7_commandsIn : GoodIn wsX7_runScript (va_wsS RX7 249 yX7_commandsIn wsX7_commandsIn) := goodIn_app (goodIn_of _ (by decide +kernel)) ggX7_runScript_X7_commandsIn
set_option maxRecDepth 20000 in
theorem ggX7_runScript_X0_copyFrom : GoodIn wsX7_runScript wsX0_copyFrom := goodIn_r _ [14, 15, 16, 17, 18, 19, 20, 21, 22, 23, 24, 25, 180, 181, 182, 183, 184, 185, 186, 187, 188, 189, 190] (by decide +kernel) (by decide +kernel)
set_option maxRecDepth 20000 in
theorem gX7_runScript_X0_copyFrom : GoodIn wsX7_runScript (wsV RX7 254 RX0 yX0_copyFrom wsX0_copyFrom) := goodIn_app (goodIn_of _ (by decide +kernel)) ggX7_runScript_X0_copyFrom
set_option maxRecDepth 20000 in
theorem ggX7_runScript_X5_commandFromEnd : GoodIn wsX7_runScript wsX5_commandFromEnd := goodIn_r _ [29, 30] (by decide +kernel) (by decide +kernel)
set_option maxRecDepth 20000 in
theorem gX7_runScript_X5_commandFromEnd : GoodIn wsX7_runScript (va_wsS RX7 257 yX5_commandFromEnd wsX5_commandFromEnd) := goodIn_app (goodIn_of _ (by decide +kernel)) ggX7_runScript_X5_commandFromEnd
set_option maxRecDepth 20000 in
theorem ggX7_runScript_X5_succeeds : GoodIn wsX7_runScript wsX5_succeeds := goodIn_r _ [33, 34, 35, 36, 13, 37, 15, 38, 39, 40, 41, 42, 43, 44, 45, 46, 47, 48, 17, 49, 50, 51, 52, 53, 54, 55, 56, 20, 21, 57, 58, 59, 60, 61, 62, 63, 64, 65, 66, 67, 68, 69, 70, 71, 72, 73, 74, 75, 76, 77, 78, 79, 80, 81, 16, 82, 83, 84, 85, 24, 25, 86, 87, 88, 89, 22, 23, 19, 90, 91, 92, 93, 94, 95, 96, 97, 98, 99, 100, 101, 102, 103, 104, 18, 105, 106, 28, 107, 108, 7, 109, 110, 111, 112, 113, 114, 115, 116, 117, 118, 119, 120, 121, 122, 123, 124, 125, 126, 127, 128, 129, 130, 131, 132, 133, 134, 135, 136, 137, 138, 139, 140, 141, 142, 143, 144, 145, 146, 147, 148, 149, 150, 151, 152, 153, 154, 155, 156, 157, 158, 159, 160, 161, 162, 163, 164, 165, 166, 167, 168, 169, 170, 171, 172, 173, 180, 181, 182, 183, 184, 185, 186, 187, 188, 189, 190, 191, 192, 193, 194, 195] (by decide +kernel) (by decide +kernel)
set_option maxRecDepth 20000 in
theorem gX7_runScript_X5_succeeds : GoodIn wsX7_runScript (va_wsS RX7 263 yX5_succeeds wsX5_succeeds) := goodIn_app (goodIn_of _ (by decide +kernel)) ggX7_runScript_X5_succeeds
theorem dX7_runScript_0 : decode cX7_runScript 0 = .ok (.iload_n 1, 1) := by decide +kernel
theorem dX7_runScript_1 : decode cX7_runScript 1 = .ok (.iconst 1, 1) := by decide +kernel
theorem dX7_runScript_2 : decode cX7_runScript 2 = .ok (.if_icmp .lt 8, 3) := by decide +kernel
theorem dX7_runScript_5 : decode cX7_runScript 5 = .ok (.iload_n 1, 1) := by decide +kernel
theorem dX7_runScript_6 : decode cX7_runScript 6 = .ok (.iconst 4, 1) := by decide +kernel
theorem dX7_runScript_7 : decode cX7_runScript 7 = .ok (.if_icmp .le 13, 3) := by decide +kernel
theorem dX7_runScript_10 : decode cX7_runScript 10 = .ok (.new 50, 3) := by decide +kernel
theorem dX7_runScript_13 : decode cX7_runScript 13 = .ok (.dup, 1) := by decide +kernel
theorem dX7_runScript_14 : decode cX7_runScript 14 = .ok (.ldc 247, 2) := by decide +kernel
theorem dX7_runScript_16 : decode cX7_runScript 16 = .ok (.invokespecial 54, 3) := by decide +kernel
theorem dX7_runScript_19 : decode cX7_runScript 19 = .ok (.athrow, 1) := by decide +kernel
theorem dX7_runScript_20 : decode cX7_runScript 20 = .ok (.lload_n 2, 1) := by decide +kernel
theorem dX7_runScript_21 : decode cX7_runScript 21 = .ok (.lconst 0, 1) := by decide +kernel
theorem dX7_runScript_22 : decode cX7_runScript 22 = .ok (.lcmp, 1) := by decide +kernel
theorem dX7_runScript_23 : decode cX7_runScript 23 = .ok (.ifCond .lt 11, 3) := by decide +kernel
theorem dX7_runScript_26 : decode cX7_runScript 26 = .ok (.lload_n 2, 1) := by decide +kernel
theorem dX7_runScript_27 : decode cX7_runScript 27 = .ok (.invokestatic 249, 3) := by decide +kernel
theorem dX7_runScript_30 : decode cX7_runScript 30 = .ok (.iload_n 1, 1) := by decide +kernel
theorem dX7_runScript_31 : decode cX7_runScript 31 = .ok (.if_icmp .le 13, 3) := by decide +kernel
theorem dX7_runScript_34 : decode cX7_runScript 34 = .ok (.new 50, 3) := by decide +kernel
theorem dX7_runScript_37 : decode cX7_runScript 37 = .ok (.dup, 1) := by decide +kernel
theorem dX7_runScript_38 : decode cX7_runScript 38 = .ok (.ldc 252, 2) := by decide +kernel
theorem dX7_runScript_40 : decode cX7_runScript 40 = .ok (.invokespecial 54, 3) := by decide +kernel
theorem dX7_runScript_43 : decode cX7_runScript 43 = .ok (.athrow, 1) := by decide +kernel
theorem dX7_runScript_44 : decode cX7_runScript 44 = .ok (.aload_n 0, 1) := by decide +kernel
theorem dX7_runScript_45 : decode cX7_runScript 45 = .ok (.getfield 30, 3) := by decide +kernel
theorem dX7_runScript_48 : decode cX7_runScript 48 = .ok (.aload_n 0, 1) := by decide +kernel
theorem dX7_runScript_49 : decode cX7_runScript 49 = .ok (.getfield 26, 3) := by decide +kernel
theorem dX7_runScript_52 : decode cX7_runScript 52 = .ok (.invokevirtual 254, 3) := by decide +kernel
theorem dX7_runScript_55 : decode cX7_runScript 55 = .ok (.iconst 0, 1) := by decide +kernel
theorem dX7_runScript_56 : decode cX7_runScript 56 = .ok (.istore 4, 2) := by decide +kernel
theorem dX7_runScript_58 : decode cX7_runScript 58 = .ok (.iload 4, 2) := by decide +kernel
theorem dX7_runScript_60 : decode cX7_runScript 60 = .ok (.iload_n 1, 1) := by decide +kernel
theorem dX7_runScript_61 : decode cX7_runScript 61 = .ok (.if_icmp .ge 32, 3) := by decide +kernel
theorem dX7_runScript_64 : decode cX7_runScript 64 = .ok (.aload_n 0, 1) := by decide +kernel
theorem dX7_runScript_65 : decode cX7_runScript 65 = .ok (.getfield 30, 3) := by decide +kernel
theorem dX7_runScript_68 : decode cX7_runScript 68 = .ok (.lload_n 2, 1) := by decide +kernel
theorem dX7_runScript_69 : decode cX7_runScript 69 = .ok (.iload_n 1, 1) := by decide +kernel
theorem dX7_runScript_70 : decode cX7_runScript 70 = .ok (.iconst 1, 1) := by decide +kernel
theorem dX7_runScript_71 : decode cX7_runScript 71 = .ok (.isub, 1) := by decide +kernel
theorem dX7_runScript_72 : decode cX7_runScript 72 = .ok (.iload 4, 2) := by decide +kernel
theorem dX7_runScript_74 : decode cX7_runScript 74 = .ok (.isub, 1) := by decide +kernel
theorem dX7_runScript_75 : decode cX7_runScript 75 = .ok (.invokestatic 257, 3) := by decide +kernel
theorem dX7_runScript_78 : decode cX7_runScript 78 = .ok (.invokestatic 263, 3) := by decide +kernel
theorem dX7_runScript_81 : decode cX7_runScript 81 = .ok (.ifCond .ne 6, 3) := by decide +kernel
theorem dX7_runScript_84 : decode cX7_runScript 84 = .ok (.iload 4, 2) := by decide +kernel
theorem dX7_runScript_86 : decode cX7_runScript 86 = .ok (.ireturn, 1) := by decide +kernel
theorem dX7_runScript_87 : decode cX7_runScript 87 = .ok (.iinc 4 1, 3) := by decide +kernel
theorem dX7_runScript_90 : decode cX7_runScript 90 = .ok (.goto (-32), 3) := by decide +kernel
theorem dX7_runScript_93 : decode cX7_runScript 93 = .ok (.iconst (-1), 1) := by decide +kernel
theorem dX7_runScript_94 : decode cX7_runScript 94 = .ok (.ireturn, 1) := by decide +kernel
set_option maxRecDepth 20000 in
theorem ggX7_simulate_X0_copyFrom : GoodIn wsX7_simulate wsX0_copyFrom := goodIn_r _ [12, 13, 14, 15, 16, 17, 18, 19, 20, 21, 22, 23, 115, 116, 117, 118, 119, 120, 121, 122, 123, 124, 125] (by decide +kernel) (by decide +kernel)
set_option maxRecDepth 20000 in
theorem gX7_simulate_X0_copyFrom : GoodIn wsX7_simulate (wsV RX7 254 RX0 yX0_copyFrom wsX0_copyFrom) := goodIn_app (goodIn_of _ (by decide +kernel)) ggX7_simulate_X0_copyFrom
set_option maxRecDepth 20000 in
theorem ggX7_simulate_X0_passIfAllowed : GoodIn wsX7_simulate wsX0_passIfAllowed := goodIn_r _ [27, 15, 16, 17, 28, 29, 30, 11, 31, 22, 23, 18, 19, 115, 116, 117, 118, 119, 120, 121, 122, 123, 124, 125] (by decide +kernel) (by decide +kernel)
set_option maxRecDepth 20000 in
theorem gX7_simulate_X0_passIfAllowed : GoodIn wsX7_simulate (wsV RX7 101 RX0 yX0_passIfAllowed wsX0_passIfAllowed) := goodIn_app (goodIn_of _ (by decide +kernel)) ggX7_simulate_X0_passIfAllowed
set_option maxRecDepth 20000 in
theorem ggX7_simulate_X0_layIfAllowed : GoodIn wsX7_simulate wsX0_layIfAllowed := goodIn_r _ [35, 13, 36, 37, 38, 39, 40, 41, 42, 43, 44, 11, 45, 46, 15, 47, 48, 49, 50, 51, 52, 53, 54, 18, 19, 55, 56, 57, 58, 59, 60, 61, 62, 63, 64, 65, 66, 67, 68, 69, 70, 71, 72, 73, 74, 75, 76, 77, 78, 79, 14, 80, 81, 82, 83, 22, 23, 84, 85, 86, 87, 20, 21, 17, 88, 89, 90, 91, 92, 93, 94, 28, 29, 30, 31, 115, 116, 117, 118, 119, 120, 121, 122, 123, 124, 125, 126, 127, 128, 129, 130] (by decide +kernel) (by decide +kernel)
set_option maxRecDepth 20000 in
theorem gX7_simulate_X0_layIfAllowed : GoodIn wsX7_simulate (wsV RX7 108 RX0 yX0_layIfAllowed wsX0_layIfAllowed) := goodIn_app (goodIn_of _ (by decide +kernel)) ggX7_simulate_X0_layIfAllowed
set_option maxRecDepth 20000 in
theorem ggX7_simulate_X0_captivesOf : GoodIn wsX7_simulate wsX0_captivesOf := goodIn_r _ [98, 20, 21, 115, 116, 117, 118, 119, 120, 121, 122, 123, 124, 125] (by decide +kernel) (by decide +kernel)
set_option maxRecDepth 20000 in
theorem gX7_simulate_X0_captivesOf : GoodIn wsX7_simulate (wsV RX7 162 RX0 yX0_captivesOf wsX0_captivesOf) := goodIn_app (goodIn_of _ (by decide +kernel)) ggX7_simulate_X0_captivesOf
set_option maxRecDepth 20000 in
theorem ggX7_simulate_X0_groupsOf : GoodIn wsX7_simulate wsX0_groupsOf := goodIn_r _ [102, 13, 51, 52, 53, 11, 54, 18, 19, 103, 104, 105, 39, 106, 60, 68, 69, 70, 71, 61, 62, 63, 64, 65, 66, 67, 59, 115, 116, 117, 118, 119, 120, 121, 122, 123, 124, 125, 126, 127, 128, 129, 130] (by decide +kernel) (by decide +kernel)
set_option maxRecDepth 20000 in
theorem gX7_simulate_X0_groupsOf : GoodIn wsX7_simulate (wsV RX7 136 RX0 yX0_groupsOf wsX0_groupsOf) := goodIn_app (goodIn_of _ (by decide +kernel)) ggX7_simulate_X0_groupsOf
set_option maxRecDepth 20000 in
theorem ggX7_simulate_X0_stonesOf : GoodIn wsX7_simulate wsX0_stonesOf := goodIn_r _ [54, 18, 19, 115, 116, 117, 118, 119, 120, 121, 122, 123, 124, 125] (by decide +kernel) (by decide +kernel)
set_option maxRecDepth 20000 in
theorem gX7_simulate_X0_stonesOf : GoodIn wsX7_simulate (wsV RX7 152 RX0 yX0_stonesOf wsX0_stonesOf) := goodIn_app (goodIn_of _ (by decide +kernel)) ggX7_simulate_X0_stonesOf
set_option maxRecDepth 20000 in
theorem ggX7_simulate_J13_bitCount_95d88 : GoodIn wsX7_simulate wsJ13_bitCount_95d88 := goodIn_r _ [91, 92, 93, 94] (by decide +kernel) (by decide +kernel)
set_option maxRecDepth 20000 in
theorem gX7_simulate_J13_bitCount_95d88 : GoodIn wsX7_simulate (va_wsS RX7 156 yJ13_bitCount_95d88 wsJ13_bitCount_95d88) := goodIn_app (goodIn_of _ (by decide +kernel)) ggX7_simulate_J13_bitCount_95d88
theorem dX7_simulate_0 : decode cX7_simulate 0 = .ok (.iload_n 3, 1) := by decide +kernel
theorem dX7_simulate_1 : decode cX7_simulate 1 = .ok (.iconst 1, 1) := by decide +kernel
theorem dX7_simulate_2 : decode cX7_simulate 2 = .ok (.if_icmp .lt 9, 3) := by decide +kernel
theorem dX7_simulate_5 : decode cX7_simulate 5 = .ok (.iload_n 3, 1) := by decide +kernel
theorem dX7_simulate_6 : decode cX7_simulate 6 = .ok (.bipush 100, 2) := by decide +kernel
theorem dX7_simulate_8 : decode cX7_simulate 8 = .ok (.if_icmp .le 14, 3) := by decide +kernel
theorem dX7_simulate_11 : decode cX7_simulate 11 = .ok (.new 50, 3) := by decide +kernel
theorem dX7_simulate_14 : decode cX7_simulate 14 = .ok (.dup, 1) := by decide +kernel
theorem dX7_simulate_15 : decode cX7_simulate 15 = .ok (.ldc_w 267, 3) := by decide +kernel
theorem dX7_simulate_18 : decode cX7_simulate 18 = .ok (.invokespecial 54, 3) := by decide +kernel
theorem dX7_simulate_21 : decode cX7_simulate 21 = .ok (.athrow, 1) := by decide +kernel
theorem dX7_simulate_22 : decode cX7_simulate 22 = .ok (.aload_n 0, 1) := by decide +kernel
theorem dX7_simulate_23 : decode cX7_simulate 23 = .ok (.getfield 30, 3) := by decide +kernel
theorem dX7_simulate_26 : decode cX7_simulate 26 = .ok (.aload_n 0, 1) := by decide +kernel
theorem dX7_simulate_27 : decode cX7_simulate 27 = .ok (.getfield 26, 3) := by decide +kernel
theorem dX7_simulate_30 : decode cX7_simulate 30 = .ok (.invokevirtual 254, 3) := by decide +kernel
theorem dX7_simulate_33 : decode cX7_simulate 33 = .ok (.aload_n 0, 1) := by decide +kernel
theorem dX7_simulate_34 : decode cX7_simulate 34 = .ok (.getfield 30, 3) := by decide +kernel
theorem dX7_simulate_37 : decode cX7_simulate 37 = .ok (.getfield 118, 3) := by decide +kernel
theorem dX7_simulate_40 : decode cX7_simulate 40 = .ok (.getfield 210, 3) := by decide +kernel
theorem dX7_simulate_43 : decode cX7_simulate 43 = .ok (.istore 4, 2) := by decide +kernel
theorem dX7_simulate_45 : decode cX7_simulate 45 = .ok (.lload_n 1, 1) := by decide +kernel
theorem dX7_simulate_46 : decode cX7_simulate 46 = .ok (.lstore 5, 2) := by decide +kernel
theorem dX7_simulate_48 : decode cX7_simulate 48 = .ok (.iconst 0, 1) := by decide +kernel
theorem dX7_simulate_49 : decode cX7_simulate 49 = .ok (.istore 7, 2) := by decide +kernel
theorem dX7_simulate_51 : decode cX7_simulate 51 = .ok (.iload 7, 2) := by decide +kernel
theorem dX7_simulate_53 : decode cX7_simulate 53 = .ok (.iload_n 3, 1) := by decide +kernel
theorem dX7_simulate_54 : decode cX7_simulate 54 = .ok (.if_icmp .ge 69, 3) := by decide +kernel
theorem dX7_simulate_57 : decode cX7_simulate 57 = .ok (.lload 5, 2) := by decide +kernel
theorem dX7_simulate_59 : decode cX7_simulate 59 = .ok (.ldc2_w 269, 3) := by decide +kernel
theorem dX7_simulate_62 : decode cX7_simulate 62 = .ok (.lmul, 1) := by decide +kernel
theorem dX7_simulate_63 : decode cX7_simulate 63 = .ok (.ldc2_w 271, 3) := by decide +kernel
theorem dX7_simulate_66 : decode cX7_simulate 66 = .ok (.ladd, 1) := by decide +kernel
theorem dX7_simulate_67 : decode cX7_simulate 67 = .ok (.lstore 5, 2) := by decide +kernel
theorem dX7_simulate_69 : decode cX7_simulate 69 = .ok (.lload 5, 2) := by decide +kernel
theorem dX7_simulate_71 : decode cX7_simulate 71 = .ok (.bipush 33, 2) := by decide +kernel
theorem dX7_simulate_73 : decode cX7_simulate 73 = .ok (.lushr, 1) := by decide +kernel
theorem dX7_simulate_74 : decode cX7_simulate 74 = .ok (.l2i, 1) := by decide +kernel
theorem dX7_simulate_75 : decode cX7_simulate 75 = .ok (.istore 8, 2) := by decide +kernel
theorem dX7_simulate_77 : decode cX7_simulate 77 = .ok (.iload 8, 2) := by decide +kernel
theorem dX7_simulate_79 : decode cX7_simulate 79 = .ok (.bipush 16, 2) := by decide +kernel
theorem dX7_simulate_81 : decode cX7_simulate 81 = .ok (.irem, 1) := by decide +kernel
theorem dX7_simulate_82 : decode cX7_simulate 82 = .ok (.ifCond .ne 14, 3) := by decide +kernel
theorem dX7_simulate_85 : decode cX7_simulate 85 = .ok (.aload_n 0, 1) := by decide +kernel
theorem dX7_simulate_86 : decode cX7_simulate 86 = .ok (.getfield 30, 3) := by decide +kernel
theorem dX7_simulate_89 : decode cX7_simulate 89 = .ok (.invokevirtual 101, 3) := by decide +kernel
theorem dX7_simulate_92 : decode cX7_simulate 92 = .ok (.pop, 1) := by decide +kernel
theorem dX7_simulate_93 : decode cX7_simulate 93 = .ok (.goto 24, 3) := by decide +kernel
theorem dX7_simulate_96 : decode cX7_simulate 96 = .ok (.iload 4, 2) := by decide +kernel
theorem dX7_simulate_98 : decode cX7_simulate 98 = .ok (.ifCond .le 19, 3) := by decide +kernel
theorem dX7_simulate_101 : decode cX7_simulate 101 = .ok (.aload_n 0, 1) := by decide +kernel
theorem dX7_simulate_102 : decode cX7_simulate 102 = .ok (.getfield 30, 3) := by decide +kernel
theorem dX7_simulate_105 : decode cX7_simulate 105 = .ok (.iload 8, 2) := by decide +kernel
theorem dX7_simulate_107 : decode cX7_simulate 107 = .ok (.bipush 16, 2) := by decide +kernel
theorem dX7_simulate_109 : decode cX7_simulate 109 = .ok (.idiv, 1) := by decide +kernel
theorem dX7_simulate_110 : decode cX7_simulate 110 = .ok (.iload 4, 2) := by decide +kernel
theorem dX7_simulate_112 : decode cX7_simulate 112 = .ok (.irem, 1) := by decide +kernel
theorem dX7_simulate_113 : decode cX7_simulate 113 = .ok (.invokevirtual 108, 3) := by decide +kernel
theorem dX7_simulate_116 : decode cX7_simulate 116 = .ok (.pop, 1) := by decide +kernel
theorem dX7_simulate_117 : decode cX7_simulate 117 = .ok (.iinc 7 1, 3) := by decide +kernel
theorem dX7_simulate_120 : decode cX7_simulate 120 = .ok (.goto (-69), 3) := by decide +kernel
theorem dX7_simulate_123 : decode cX7_simulate 123 = .ok (.aload_n 0, 1) := by decide +kernel
theorem dX7_simulate_124 : decode cX7_simulate 124 = .ok (.getfield 30, 3) := by decide +kernel
theorem dX7_simulate_127 : decode cX7_simulate 127 = .ok (.iconst 0, 1) := by decide +kernel
theorem dX7_simulate_128 : decode cX7_simulate 128 = .ok (.invokevirtual 162, 3) := by decide +kernel
theorem dX7_simulate_131 : decode cX7_simulate 131 = .ok (.aload_n 0, 1) := by decide +kernel
theorem dX7_simulate_132 : decode cX7_simulate 132 = .ok (.getfield 30, 3) := by decide +kernel
theorem dX7_simulate_135 : decode cX7_simulate 135 = .ok (.iconst 1, 1) := by decide +kernel
theorem dX7_simulate_136 : decode cX7_simulate 136 = .ok (.invokevirtual 162, 3) := by decide +kernel
theorem dX7_simulate_139 : decode cX7_simulate 139 = .ok (.iadd, 1) := by decide +kernel
theorem dX7_simulate_140 : decode cX7_simulate 140 = .ok (.istore 7, 2) := by decide +kernel
theorem dX7_simulate_142 : decode cX7_simulate 142 = .ok (.aload_n 0, 1) := by decide +kernel
theorem dX7_simulate_143 : decode cX7_simulate 143 = .ok (.getfield 30, 3) := by decide +kernel
theorem dX7_simulate_146 : decode cX7_simulate 146 = .ok (.iconst 0, 1) := by decide +kernel
theorem dX7_simulate_147 : decode cX7_simulate 147 = .ok (.invokevirtual 136, 3) := by decide +kernel
theorem dX7_simulate_150 : decode cX7_simulate 150 = .ok (.aload_n 0, 1) := by decide +kernel
theorem dX7_simulate_151 : decode cX7_simulate 151 = .ok (.getfield 30, 3) := by decide +kernel
theorem dX7_simulate_154 : decode cX7_simulate 154 = .ok (.iconst 1, 1) := by decide +kernel
theorem dX7_simulate_155 : decode cX7_simulate 155 = .ok (.invokevirtual 136, 3) := by decide +kernel
theorem dX7_simulate_158 : decode cX7_simulate 158 = .ok (.iadd, 1) := by decide +kernel
theorem dX7_simulate_159 : decode cX7_simulate 159 = .ok (.istore 8, 2) := by decide +kernel
theorem dX7_simulate_161 : decode cX7_simulate 161 = .ok (.sipush 10000, 3) := by decide +kernel
theorem dX7_simulate_164 : decode cX7_simulate 164 = .ok (.iload 7, 2) := by decide +kernel
theorem dX7_simulate_166 : decode cX7_simulate 166 = .ok (.imul, 1) := by decide +kernel
theorem dX7_simulate_167 : decode cX7_simulate 167 = .ok (.bipush 100, 2) := by decide +kernel
theorem dX7_simulate_169 : decode cX7_simulate 169 = .ok (.iload 8, 2) := by decide +kernel
theorem dX7_simulate_171 : decode cX7_simulate 171 = .ok (.imul, 1) := by decide +kernel
theorem dX7_simulate_172 : decode cX7_simulate 172 = .ok (.iadd, 1) := by decide +kernel
theorem dX7_simulate_173 : decode cX7_simulate 173 = .ok (.aload_n 0, 1) := by decide +kernel
theorem dX7_simulate_174 : decode cX7_simulate 174 = .ok (.getfield 30, 3) := by decide +kernel
theorem dX7_simulate_177 : decode cX7_simulate 177 = .ok (.iconst 0, 1) := by decide +kernel
theorem dX7_simulate_178 : decode cX7_simulate 178 = .ok (.invokevirtual 152, 3) := by decide +kernel
theorem dX7_simulate_181 : decode cX7_simulate 181 = .ok (.invokestatic 156, 3) := by decide +kernel
theorem dX7_simulate_184 : decode cX7_simulate 184 = .ok (.iadd, 1) := by decide +kernel
theorem dX7_simulate_185 : decode cX7_simulate 185 = .ok (.ireturn, 1) := by decide +kernel
set_option maxRecDepth 20000 in
theorem ggX7_save_X0_copyFrom : GoodIn wsX7_save wsX0_copyFrom := goodIn_r _ [10, 11, 12, 13, 14, 15, 16, 17, 18, 19, 20, 21, 30, 31, 32, 33, 34, 35, 36, 37, 38, 39, 40] (by decide +kernel) (by decide +kernel)
set_option maxRecDepth 20000 in
theorem gX7_save_X0_copyFrom : GoodIn wsX7_save (wsV RX7 254 RX0 yX0_copyFrom wsX0_copyFrom) := goodIn_app (goodIn_of _ (by decide +kernel)) ggX7_save_X0_copyFrom
theorem dX7_save_0 : decode cX7_save 0 = .ok (.iload_n 1, 1) := by decide +kernel
theorem dX7_save_1 : decode cX7_save 1 = .ok (.ifCond .eq 19, 3) := by decide +kernel
theorem dX7_save_4 : decode cX7_save 4 = .ok (.iload_n 1, 1) := by decide +kernel
theorem dX7_save_5 : decode cX7_save 5 = .ok (.iconst 1, 1) := by decide +kernel
theorem dX7_save_6 : decode cX7_save 6 = .ok (.if_icmp .eq 14, 3) := by decide +kernel
theorem dX7_save_9 : decode cX7_save 9 = .ok (.new 147, 3) := by decide +kernel
theorem dX7_save_12 : decode cX7_save 12 = .ok (.dup, 1) := by decide +kernel
theorem dX7_save_13 : decode cX7_save 13 = .ok (.ldc_w 273, 3) := by decide +kernel
theorem dX7_save_16 : decode cX7_save 16 = .ok (.invokespecial 151, 3) := by decide +kernel
theorem dX7_save_19 : decode cX7_save 19 = .ok (.athrow, 1) := by decide +kernel
theorem dX7_save_20 : decode cX7_save 20 = .ok (.iload_n 1, 1) := by decide +kernel
theorem dX7_save_21 : decode cX7_save 21 = .ok (.ifCond .ne 10, 3) := by decide +kernel
theorem dX7_save_24 : decode cX7_save 24 = .ok (.aload_n 0, 1) := by decide +kernel
theorem dX7_save_25 : decode cX7_save 25 = .ok (.getfield 43, 3) := by decide +kernel
theorem dX7_save_28 : decode cX7_save 28 = .ok (.goto 7, 3) := by decide +kernel
theorem dX7_save_31 : decode cX7_save 31 = .ok (.aload_n 0, 1) := by decide +kernel
theorem dX7_save_32 : decode cX7_save 32 = .ok (.getfield 47, 3) := by decide +kernel
theorem dX7_save_35 : decode cX7_save 35 = .ok (.astore_n 2, 1) := by decide +kernel
theorem dX7_save_36 : decode cX7_save 36 = .ok (.aload_n 2, 1) := by decide +kernel
theorem dX7_save_37 : decode cX7_save 37 = .ok (.getfield 275, 3) := by decide +kernel
theorem dX7_save_40 : decode cX7_save 40 = .ok (.aload_n 0, 1) := by decide +kernel
theorem dX7_save_41 : decode cX7_save 41 = .ok (.getfield 26, 3) := by decide +kernel
theorem dX7_save_44 : decode cX7_save 44 = .ok (.invokevirtual 254, 3) := by decide +kernel
theorem dX7_save_47 : decode cX7_save 47 = .ok (.aload_n 2, 1) := by decide +kernel
theorem dX7_save_48 : decode cX7_save 48 = .ok (.iconst 1, 1) := by decide +kernel
theorem dX7_save_49 : decode cX7_save 49 = .ok (.putfield 114, 3) := by decide +kernel
theorem dX7_save_52 : decode cX7_save 52 = .ok (.aload_n 0, 1) := by decide +kernel
theorem dX7_save_53 : decode cX7_save 53 = .ok (.getfield 26, 3) := by decide +kernel
theorem dX7_save_56 : decode cX7_save 56 = .ok (.getfield 124, 3) := by decide +kernel
theorem dX7_save_59 : decode cX7_save 59 = .ok (.ireturn, 1) := by decide +kernel
set_option maxRecDepth 20000 in
theorem ggX7_restore_X0_copyFrom : GoodIn wsX7_restore wsX0_copyFrom := goodIn_r _ [13, 14, 15, 16, 17, 18, 19, 20, 21, 22, 23, 24, 39, 40, 41, 42, 43, 44, 45, 46, 47, 48, 49] (by decide +kernel) (by decide +kernel)
set_option maxRecDepth 20000 in
theorem gX7_restore_X0_copyFrom : GoodIn wsX7_restore (wsV RX7 254 RX0 yX0_copyFrom wsX0_copyFrom) := goodIn_app (goodIn_of _ (by decide +kernel)) ggX7_restore_X0_copyFrom
set_option maxRecDepth 20000 in
theorem ggX7_restore_X4_forgetAll : GoodIn wsX7_restore wsX4_forgetAll := goodIn_r _ [29, 30, 50, 51, 52] (by decide +kernel) (by decide +kernel)
set_option maxRecDepth 20000 in
theorem gX7_restore_X4_forgetAll : GoodIn wsX7_restore (wsV RX7 111 RX4 yX4_forgetAll wsX4_forgetAll) := goodIn_app (goodIn_of _ (by decide +kernel)) ggX7_restore_X4_forgetAll
theorem dX7_restore_0 : decode cX7_restore 0 = .ok (.iload_n 1, 1) := by decide +kernel
theorem dX7_restore_1 : decode cX7_restore 1 = .ok (.ifCond .eq 19, 3) := by decide +kernel
theorem dX7_restore_4 : decode cX7_restore 4 = .ok (.iload_n 1, 1) := by decide +kernel
theorem dX7_restore_5 : decode cX7_restore 5 = .ok (.iconst 1, 1) := by decide +kernel
theorem dX7_restore_6 : decode cX7_restore 6 = .ok (.if_icmp .eq 14, 3) := by decide +kernel
theorem dX7_restore_9 : decode cX7_restore 9 = .ok (.new 147, 3) := by decide +kernel
theorem dX7_restore_12 : decode cX7_restore 12 = .ok (.dup, 1) := by decide +kernel
theorem dX7_restore_13 : decode cX7_restore 13 = .ok (.ldc_w 273, 3) := by decide +kernel
theorem dX7_restore_16 : decode cX7_restore 16 = .ok (.invokespecial 151, 3) := by decide +kernel
theorem dX7_restore_19 : decode cX7_restore 19 = .ok (.athrow, 1) := by decide +kernel
theorem dX7_restore_20 : decode cX7_restore 20 = .ok (.iload_n 1, 1) := by decide +kernel
theorem dX7_restore_21 : decode cX7_restore 21 = .ok (.ifCond .ne 10, 3) := by decide +kernel
theorem dX7_restore_24 : decode cX7_restore 24 = .ok (.aload_n 0, 1) := by decide +kernel
theorem dX7_restore_25 : decode cX7_restore 25 = .ok (.getfield 43, 3) := by decide +kernel
theorem dX7_restore_28 : decode cX7_restore 28 = .ok (.goto 7, 3) := by decide +kernel
theorem dX7_restore_31 : decode cX7_restore 31 = .ok (.aload_n 0, 1) := by decide +kernel
theorem dX7_restore_32 : decode cX7_restore 32 = .ok (.getfield 47, 3) := by decide +kernel
theorem dX7_restore_35 : decode cX7_restore 35 = .ok (.astore_n 2, 1) := by decide +kernel
theorem dX7_restore_36 : decode cX7_restore 36 = .ok (.aload_n 2, 1) := by decide +kernel
theorem dX7_restore_37 : decode cX7_restore 37 = .ok (.getfield 114, 3) := by decide +kernel
theorem dX7_restore_40 : decode cX7_restore 40 = .ok (.ifCond .ne 14, 3) := by decide +kernel
theorem dX7_restore_43 : decode cX7_restore 43 = .ok (.new 61, 3) := by decide +kernel
theorem dX7_restore_46 : decode cX7_restore 46 = .ok (.dup, 1) := by decide +kernel
theorem dX7_restore_47 : decode cX7_restore 47 = .ok (.ldc_w 278, 3) := by decide +kernel
theorem dX7_restore_50 : decode cX7_restore 50 = .ok (.invokespecial 65, 3) := by decide +kernel
theorem dX7_restore_53 : decode cX7_restore 53 = .ok (.athrow, 1) := by decide +kernel
theorem dX7_restore_54 : decode cX7_restore 54 = .ok (.aload_n 0, 1) := by decide +kernel
theorem dX7_restore_55 : decode cX7_restore 55 = .ok (.getfield 26, 3) := by decide +kernel
theorem dX7_restore_58 : decode cX7_restore 58 = .ok (.aload_n 2, 1) := by decide +kernel
theorem dX7_restore_59 : decode cX7_restore 59 = .ok (.getfield 275, 3) := by decide +kernel
theorem dX7_restore_62 : decode cX7_restore 62 = .ok (.invokevirtual 254, 3) := by decide +kernel
theorem dX7_restore_65 : decode cX7_restore 65 = .ok (.aload_n 0, 1) := by decide +kernel
theorem dX7_restore_66 : decode cX7_restore 66 = .ok (.getfield 36, 3) := by decide +kernel
theorem dX7_restore_69 : decode cX7_restore 69 = .ok (.invokevirtual 111, 3) := by decide +kernel
theorem dX7_restore_72 : decode cX7_restore 72 = .ok (.aload_n 0, 1) := by decide +kernel
theorem dX7_restore_73 : decode cX7_restore 73 = .ok (.getfield 26, 3) := by decide +kernel
theorem dX7_restore_76 : decode cX7_restore 76 = .ok (.getfield 124, 3) := by decide +kernel
theorem dX7_restore_79 : decode cX7_restore 79 = .ok (.ireturn, 1) := by decide +kernel
theorem dX7_isColour_0 : decode cX7_isColour 0 = .ok (.iload_n 0, 1) := by decide +kernel
theorem dX7_isColour_1 : decode cX7_isColour 1 = .ok (.ifCond .eq 8, 3) := by decide +kernel
theorem dX7_isColour_4 : decode cX7_isColour 4 = .ok (.iload_n 0, 1) := by decide +kernel
theorem dX7_isColour_5 : decode cX7_isColour 5 = .ok (.iconst 1, 1) := by decide +kernel
theorem dX7_isColour_6 : decode cX7_isColour 6 = .ok (.if_icmp .ne 7, 3) := by decide +kernel
theorem dX7_isColour_9 : decode cX7_isColour 9 = .ok (.iconst 1, 1) := by decide +kernel
theorem dX7_isColour_10 : decode cX7_isColour 10 = .ok (.goto 4, 3) := by decide +kernel
theorem dX7_isColour_13 : decode cX7_isColour 13 = .ok (.iconst 0, 1) := by decide +kernel
theorem dX7_isColour_14 : decode cX7_isColour 14 = .ok (.ireturn, 1) := by decide +kernel
theorem dX7_commandsIn_0 : decode cX7_commandsIn 0 = .ok (.iconst 1, 1) := by decide +kernel
theorem dX7_commandsIn_1 : decode cX7_commandsIn 1 = .ok (.istore_n 2, 1) := by decide +kernel
theorem dX7_commandsIn_2 : decode cX7_commandsIn 2 = .ok (.lload_n 0, 1) := by decide +kernel
theorem dX7_commandsIn_3 : decode cX7_commandsIn 3 = .ok (.ldc2_w 280, 3) := by decide +kernel
theorem dX7_commandsIn_6 : decode cX7_commandsIn 6 = .ok (.ldiv, 1) := by decide +kernel
theorem dX7_commandsIn_7 : decode cX7_commandsIn 7 = .ok (.lstore_n 3, 1) := by decide +kernel
theorem dX7_commandsIn_8 : decode cX7_commandsIn 8 = .ok (.iconst 0, 1) := by decide +kernel
theorem dX7_commandsIn_9 : decode cX7_commandsIn 9 = .ok (.istore 5, 2) := by decide +kernel
theorem dX7_commandsIn_11 : decode cX7_commandsIn 11 = .ok (.iload 5, 2) := by decide +kernel
theorem dX7_commandsIn_13 : decode cX7_commandsIn 13 = .ok (.iconst 5, 1) := by decide +kernel
theorem dX7_commandsIn_14 : decode cX7_commandsIn 14 = .ok (.if_icmp .ge 24, 3) := by decide +kernel
theorem dX7_commandsIn_17 : decode cX7_commandsIn 17 = .ok (.lload_n 3, 1) := by decide +kernel
theorem dX7_commandsIn_18 : decode cX7_commandsIn 18 = .ok (.lconst 0, 1) := by decide +kernel
theorem dX7_commandsIn_19 : decode cX7_commandsIn 19 = .ok (.lcmp, 1) := by decide +kernel
theorem dX7_commandsIn_20 : decode cX7_commandsIn 20 = .ok (.ifCond .eq 18, 3) := by decide +kernel
theorem dX7_commandsIn_23 : decode cX7_commandsIn 23 = .ok (.lload_n 3, 1) := by decide +kernel
theorem dX7_commandsIn_24 : decode cX7_commandsIn 24 = .ok (.ldc2_w 280, 3) := by decide +kernel
theorem dX7_commandsIn_27 : decode cX7_commandsIn 27 = .ok (.ldiv, 1) := by decide +kernel
theorem dX7_commandsIn_28 : decode cX7_commandsIn 28 = .ok (.lstore_n 3, 1) := by decide +kernel
theorem dX7_commandsIn_29 : decode cX7_commandsIn 29 = .ok (.iinc 2 1, 3) := by decide +kernel
theorem dX7_commandsIn_32 : decode cX7_commandsIn 32 = .ok (.iinc 5 1, 3) := by decide +kernel
theorem dX7_commandsIn_35 : decode cX7_commandsIn 35 = .ok (.goto (-24), 3) := by decide +kernel
theorem dX7_commandsIn_38 : decode cX7_commandsIn 38 = .ok (.iload_n 2, 1) := by decide +kernel
theorem dX7_commandsIn_39 : decode cX7_commandsIn 39 = .ok (.ireturn, 1) := by decide +kernel
set_option maxRecDepth 20000 in
theorem ggX8_init_X8_clear : GoodIn wsX8_init wsX8_clear := goodIn_r _ [19] (by decide +kernel) (by decide +kernel)
set_option maxRecDepth 20000 in
theorem gX8_init_X8_clear : GoodIn wsX8_init (va_wsS RX8 39 yX8_clear wsX8_clear) := goodIn_app (goodIn_of _ (by decide +kernel)) ggX8_init_X8_clear
theorem dX8_init_0 : decode cX8_init 0 = .ok (.aload_n 0, 1) := by decide +kernel
theorem dX8_init_1 : decode cX8_init 1 = .ok (.invokespecial 1, 3) := by decide +kernel
theorem dX8_init_4 : decode cX8_init 4 = .ok (.aload_n 0, 1) := by decide +kernel
theorem dX8_init_5 : decode cX8_init 5 = .ok (.bipush 120, 2) := by decide +kernel
theorem dX8_init_7 : decode cX8_init 7 = .ok (.newarray .int, 2) := by decide +kernel
theorem dX8_init_9 : decode cX8_init 9 = .ok (.putfield 7, 3) := by decide +kernel
theorem dX8_init_12 : decode cX8_init 12 = .ok (.aload_n 0, 1) := by decide +kernel
theorem dX8_init_13 : decode cX8_init 13 = .ok (.sipush 250, 3) := by decide +kernel
theorem dX8_init_16 : decode cX8_init 16 = .ok (.newarray .long, 2) := by decide +kernel
theorem dX8_init_18 : decode cX8_init 18 = .ok (.putfield 13, 3) := by decide +kernel
theorem dX8_init_21 : decode cX8_init 21 = .ok (.aload_n 0, 1) := by decide +kernel
theorem dX8_init_22 : decode cX8_init 22 = .ok (.sipush 250, 3) := by decide +kernel
theorem dX8_init_25 : decode cX8_init 25 = .ok (.newarray .long, 2) := by decide +kernel
theorem dX8_init_27 : decode cX8_init 27 = .ok (.putfield 17, 3) := by decide +kernel
theorem dX8_init_30 : decode cX8_init 30 = .ok (.aload_n 0, 1) := by decide +kernel
theorem dX8_init_31 : decode cX8_init 31 = .ok (.sipush 3500, 3) := by decide +kernel
theorem dX8_init_34 : decode cX8_init 34 = .ok (.newarray .long, 2) := by decide +kernel
theorem dX8_init_36 : decode cX8_init 36 = .ok (.putfield 20, 3) := by decide +kernel
theorem dX8_init_39 : decode cX8_init 39 = .ok (.aload_n 0, 1) := by decide +kernel
theorem dX8_init_40 : decode cX8_init 40 = .ok (.sipush 500, 3) := by decide +kernel
theorem dX8_init_43 : decode cX8_init 43 = .ok (.newarray .long, 2) := by decide +kernel
theorem dX8_init_45 : decode cX8_init 45 = .ok (.putfield 23, 3) := by decide +kernel
theorem dX8_init_48 : decode cX8_init 48 = .ok (.aload_n 0, 1) := by decide +kernel
theorem dX8_init_49 : decode cX8_init 49 = .ok (.iconst 2, 1) := by decide +kernel
theorem dX8_init_50 : decode cX8_init 50 = .ok (.newarray .boolean, 2) := by decide +kernel
theorem dX8_init_52 : decode cX8_init 52 = .ok (.putfield 26, 3) := by decide +kernel
theorem dX8_init_55 : decode cX8_init 55 = .ok (.aload_n 0, 1) := by decide +kernel
theorem dX8_init_56 : decode cX8_init 56 = .ok (.bipush 40, 2) := by decide +kernel
theorem dX8_init_58 : decode cX8_init 58 = .ok (.newarray .long, 2) := by decide +kernel
theorem dX8_init_60 : decode cX8_init 60 = .ok (.putfield 30, 3) := by decide +kernel
theorem dX8_init_63 : decode cX8_init 63 = .ok (.aload_n 0, 1) := by decide +kernel
theorem dX8_init_64 : decode cX8_init 64 = .ok (.bipush 40, 2) := by decide +kernel
theorem dX8_init_66 : decode cX8_init 66 = .ok (.newarray .long, 2) := by decide +kernel
theorem dX8_init_68 : decode cX8_init 68 = .ok (.putfield 33, 3) := by decide +kernel
theorem dX8_init_71 : decode cX8_init 71 = .ok (.aload_n 0, 1) := by decide +kernel
theorem dX8_init_72 : decode cX8_init 72 = .ok (.bipush 40, 2) := by decide +kernel
theorem dX8_init_74 : decode cX8_init 74 = .ok (.newarray .int, 2) := by decide +kernel
theorem dX8_init_76 : decode cX8_init 76 = .ok (.putfield 36, 3) := by decide +kernel
theorem dX8_init_79 : decode cX8_init 79 = .ok (.aload_n 0, 1) := by decide +kernel
theorem dX8_init_80 : decode cX8_init 80 = .ok (.getfield 13, 3) := by decide +kernel
theorem dX8_init_83 : decode cX8_init 83 = .ok (.iconst 5, 1) := by decide +kernel
theorem dX8_init_84 : decode cX8_init 84 = .ok (.invokestatic 39, 3) := by decide +kernel
theorem dX8_init_87 : decode cX8_init 87 = .ok (.return_, 1) := by decide +kernel
theorem dX8_thrown_0 : decode cX8_thrown 0 = .ok (.aload_n 0, 1) := by decide +kernel
theorem dX8_thrown_1 : decode cX8_thrown 1 = .ok (.getfield 43, 3) := by decide +kernel
theorem dX8_thrown_4 : decode cX8_thrown 4 = .ok (.ireturn, 1) := by decide +kernel
theorem dX8_refused_0 : decode cX8_refused 0 = .ok (.aload_n 0, 1) := by decide +kernel
theorem dX8_refused_1 : decode cX8_refused 1 = .ok (.iload_n 1, 1) := by decide +kernel
theorem dX8_refused_2 : decode cX8_refused 2 = .ok (.putfield 43, 3) := by decide +kernel
theorem dX8_refused_5 : decode cX8_refused 5 = .ok (.iload_n 1, 1) := by decide +kernel
theorem dX8_refused_6 : decode cX8_refused 6 = .ok (.ifCond .le 7, 3) := by decide +kernel
theorem dX8_refused_9 : decode cX8_refused 9 = .ok (.iconst 1, 1) := by decide +kernel
theorem dX8_refused_10 : decode cX8_refused 10 = .ok (.goto 4, 3) := by decide +kernel
theorem dX8_refused_13 : decode cX8_refused 13 = .ok (.iconst 0, 1) := by decide +kernel
theorem dX8_refused_14 : decode cX8_refused 14 = .ok (.ireturn, 1) := by decide +kernel
theorem dX8_in_0 : decode cX8_in 0 = .ok (.lload_n 0, 1) := by decide +kernel
theorem dX8_in_1 : decode cX8_in 1 = .ok (.lload_n 2, 1) := by decide +kernel
theorem dX8_in_2 : decode cX8_in 2 = .ok (.lcmp, 1) := by decide +kernel
theorem dX8_in_3 : decode cX8_in 3 = .ok (.ifCond .lt 14, 3) := by decide +kernel
theorem dX8_in_6 : decode cX8_in 6 = .ok (.lload_n 0, 1) := by decide +kernel
theorem dX8_in_7 : decode cX8_in 7 = .ok (.lload 4, 2) := by decide +kernel
theorem dX8_in_9 : decode cX8_in 9 = .ok (.lcmp, 1) := by decide +kernel
theorem dX8_in_10 : decode cX8_in 10 = .ok (.ifCond .gt 7, 3) := by decide +kernel
theorem dX8_in_13 : decode cX8_in 13 = .ok (.iconst 1, 1) := by decide +kernel
theorem dX8_in_14 : decode cX8_in 14 = .ok (.goto 4, 3) := by decide +kernel
theorem dX8_in_17 : decode cX8_in 17 = .ok (.iconst 0, 1) := by decide +kernel
theorem dX8_in_18 : decode cX8_in 18 = .ok (.ireturn, 1) := by decide +kernel
theorem dX8_copyState_0 : decode cX8_copyState 0 = .ok (.iconst 0, 1) := by decide +kernel
theorem dX8_copyState_1 : decode cX8_copyState 1 = .ok (.istore 4, 2) := by decide +kernel
theorem dX8_copyState_3 : decode cX8_copyState 3 = .ok (.iload 4, 2) := by decide +kernel
theorem dX8_copyState_5 : decode cX8_copyState 5 = .ok (.sipush 250, 3) := by decide +kernel
theorem dX8_copyState_8 : decode cX8_copyState 8 = .ok (.if_icmp .ge 21, 3) := by decide +kernel
theorem dX8_copyState_11 : decode cX8_copyState 11 = .ok (.aload_n 2, 1) := by decide +kernel
theorem dX8_copyState_12 : decode cX8_copyState 12 = .ok (.iload_n 3, 1) := by decide +kernel
theorem dX8_copyState_13 : decode cX8_copyState 13 = .ok (.iload 4, 2) := by decide +kernel
theorem dX8_copyState_15 : decode cX8_copyState 15 = .ok (.iadd, 1) := by decide +kernel
theorem dX8_copyState_16 : decode cX8_copyState 16 = .ok (.aload_n 0, 1) := by decide +kernel
theorem dX8_copyState_17 : decode cX8_copyState 17 = .ok (.iload_n 1, 1) := by decide +kernel
theorem dX8_copyState_18 : decode cX8_copyState 18 = .ok (.iload 4, 2) := by decide +kernel
theorem dX8_copyState_20 : decode cX8_copyState 20 = .ok (.iadd, 1) := by decide +kernel
theorem dX8_copyState_21 : decode cX8_copyState 21 = .ok (.laload, 1) := by decide +kernel
theorem dX8_copyState_22 : decode cX8_copyState 22 = .ok (.lastore, 1) := by decide +kernel
theorem dX8_copyState_23 : decode cX8_copyState 23 = .ok (.iinc 4 1, 3) := by decide +kernel
theorem dX8_copyState_26 : decode cX8_copyState 26 = .ok (.goto (-23), 3) := by decide +kernel
theorem dX8_copyState_29 : decode cX8_copyState 29 = .ok (.return_, 1) := by decide +kernel
theorem dX8_clear_0 : decode cX8_clear 0 = .ok (.iconst 0, 1) := by decide +kernel
theorem dX8_clear_1 : decode cX8_clear 1 = .ok (.istore_n 2, 1) := by decide +kernel
theorem dX8_clear_2 : decode cX8_clear 2 = .ok (.iload_n 2, 1) := by decide +kernel
theorem dX8_clear_3 : decode cX8_clear 3 = .ok (.sipush 250, 3) := by decide +kernel
theorem dX8_clear_6 : decode cX8_clear 6 = .ok (.if_icmp .ge 24, 3) := by decide +kernel
theorem dX8_clear_9 : decode cX8_clear 9 = .ok (.aload_n 0, 1) := by decide +kernel
theorem dX8_clear_10 : decode cX8_clear 10 = .ok (.iload_n 2, 1) := by decide +kernel
theorem dX8_clear_11 : decode cX8_clear 11 = .ok (.iload_n 2, 1) := by decide +kernel
theorem dX8_clear_12 : decode cX8_clear 12 = .ok (.iconst 1, 1) := by decide +kernel
theorem dX8_clear_13 : decode cX8_clear 13 = .ok (.if_icmp .ne 9, 3) := by decide +kernel
theorem dX8_clear_16 : decode cX8_clear 16 = .ok (.aload_n 0, 1) := by decide +kernel
theorem dX8_clear_17 : decode cX8_clear 17 = .ok (.iload_n 2, 1) := by decide +kernel
theorem dX8_clear_18 : decode cX8_clear 18 = .ok (.laload, 1) := by decide +kernel
theorem dX8_clear_19 : decode cX8_clear 19 = .ok (.goto 4, 3) := by decide +kernel
theorem dX8_clear_22 : decode cX8_clear 22 = .ok (.lconst 0, 1) := by decide +kernel
theorem dX8_clear_23 : decode cX8_clear 23 = .ok (.lastore, 1) := by decide +kernel
theorem dX8_clear_24 : decode cX8_clear 24 = .ok (.iinc 2 1, 3) := by decide +kernel
theorem dX8_clear_27 : decode cX8_clear 27 = .ok (.goto (-25), 3) := by decide +kernel
theorem dX8_clear_30 : decode cX8_clear 30 = .ok (.aload_n 0, 1) := by decide +kernel
theorem dX8_clear_31 : decode cX8_clear 31 = .ok (.iconst 0, 1) := by decide +kernel
theorem dX8_clear_32 : decode cX8_clear 32 = .ok (.iload_n 1, 1) := by decide +kernel
theorem dX8_clear_33 : decode cX8_clear 33 = .ok (.i2l, 1) := by decide +kernel
theorem dX8_clear_34 : decode cX8_clear 34 = .ok (.lastore, 1) := by decide +kernel
theorem dX8_clear_35 : decode cX8_clear 35 = .ok (.return_, 1) := by decide +kernel
theorem dX8_points_0 : decode cX8_points 0 = .ok (.aload_n 0, 1) := by decide +kernel
theorem dX8_points_1 : decode cX8_points 1 = .ok (.iconst 0, 1) := by decide +kernel
theorem dX8_points_2 : decode cX8_points 2 = .ok (.laload, 1) := by decide +kernel
theorem dX8_points_3 : decode cX8_points 3 = .ok (.aload_n 0, 1) := by decide +kernel
theorem dX8_points_4 : decode cX8_points 4 = .ok (.iconst 0, 1) := by decide +kernel
theorem dX8_points_5 : decode cX8_points 5 = .ok (.laload, 1) := by decide +kernel
theorem dX8_points_6 : decode cX8_points 6 = .ok (.lmul, 1) := by decide +kernel
theorem dX8_points_7 : decode cX8_points 7 = .ok (.l2i, 1) := by decide +kernel
theorem dX8_points_8 : decode cX8_points 8 = .ok (.ireturn, 1) := by decide +kernel
set_option maxRecDepth 20000 in
theorem ggX8_isPoint_X8_points : GoodIn wsX8_isPoint wsX8_points := goodIn_r _ [4] (by decide +kernel) (by decide +kernel)
set_option maxRecDepth 20000 in
theorem gX8_isPoint_X8_points : GoodIn wsX8_isPoint (va_wsS RX8 47 yX8_points wsX8_points) := goodIn_app (goodIn_of _ (by decide +kernel)) ggX8_isPoint_X8_points
set_option maxRecDepth 20000 in
theorem ggX8_isPoint_X8_in : GoodIn wsX8_isPoint wsX8_in := goodIn_r _ [7] (by decide +kernel) (by decide +kernel)
set_option maxRecDepth 20000 in
theorem gX8_isPoint_X8_in : GoodIn wsX8_isPoint (va_wsS RX8 51 yX8_in wsX8_in) := goodIn_app (goodIn_of _ (by decide +kernel)) ggX8_isPoint_X8_in
theorem dX8_isPoint_0 : decode cX8_isPoint 0 = .ok (.iload_n 1, 1) := by decide +kernel
theorem dX8_isPoint_1 : decode cX8_isPoint 1 = .ok (.i2l, 1) := by decide +kernel
theorem dX8_isPoint_2 : decode cX8_isPoint 2 = .ok (.lconst 0, 1) := by decide +kernel
theorem dX8_isPoint_3 : decode cX8_isPoint 3 = .ok (.aload_n 0, 1) := by decide +kernel
theorem dX8_isPoint_4 : decode cX8_isPoint 4 = .ok (.invokestatic 47, 3) := by decide +kernel
theorem dX8_isPoint_7 : decode cX8_isPoint 7 = .ok (.iconst 1, 1) := by decide +kernel
theorem dX8_isPoint_8 : decode cX8_isPoint 8 = .ok (.isub, 1) := by decide +kernel
theorem dX8_isPoint_9 : decode cX8_isPoint 9 = .ok (.i2l, 1) := by decide +kernel
theorem dX8_isPoint_10 : decode cX8_isPoint 10 = .ok (.invokestatic 51, 3) := by decide +kernel
theorem dX8_isPoint_13 : decode cX8_isPoint 13 = .ok (.ireturn, 1) := by decide +kernel
set_option maxRecDepth 20000 in
theorem ggX8_isColour_X8_in : GoodIn wsX8_isColour wsX8_in := goodIn_r _ [4] (by decide +kernel) (by decide +kernel)
set_option maxRecDepth 20000 in
theorem gX8_isColour_X8_in : GoodIn wsX8_isColour (va_wsS RX8 51 yX8_in wsX8_in) := goodIn_app (goodIn_of _ (by decide +kernel)) ggX8_isColour_X8_in
theorem dX8_isColour_0 : decode cX8_isColour 0 = .ok (.iload_n 0, 1) := by decide +kernel
theorem dX8_isColour_1 : decode cX8_isColour 1 = .ok (.i2l, 1) := by decide +kernel
theorem dX8_isColour_2 : decode cX8_isColour 2 = .ok (.lconst 0, 1) := by decide +kernel
theorem dX8_isColour_3 : decode cX8_isColour 3 = .ok (.lconst 1, 1) := by decide +kernel
theorem dX8_isColour_4 : decode cX8_isColour 4 = .ok (.invokestatic 51, 3) := by decide +kernel
theorem dX8_isColour_7 : decode cX8_isColour 7 = .ok (.ireturn, 1) := by decide +kernel
theorem dX8_moves_0 : decode cX8_moves 0 = .ok (.aload_n 0, 1) := by decide +kernel
theorem dX8_moves_1 : decode cX8_moves 1 = .ok (.iconst 3, 1) := by decide +kernel
theorem dX8_moves_2 : decode cX8_moves 2 = .ok (.laload, 1) := by decide +kernel
theorem dX8_moves_3 : decode cX8_moves 3 = .ok (.l2i, 1) := by decide +kernel
theorem dX8_moves_4 : decode cX8_moves 4 = .ok (.ireturn, 1) := by decide +kernel
set_option maxRecDepth 20000 in
theorem ggX8_stonesOf_X8_moves : GoodIn wsX8_stonesOf wsX8_moves := goodIn_r _ [4] (by decide +kernel) (by decide +kernel)
set_option maxRecDepth 20000 in
theorem gX8_stonesOf_X8_moves : GoodIn wsX8_stonesOf (va_wsS RX8 55 yX8_moves wsX8_moves) := goodIn_app (goodIn_of _ (by decide +kernel)) ggX8_stonesOf_X8_moves
theorem dX8_stonesOf_0 : decode cX8_stonesOf 0 = .ok (.aload_n 0, 1) := by decide +kernel
theorem dX8_stonesOf_1 : decode cX8_stonesOf 1 = .ok (.bipush 8, 2) := by decide +kernel
theorem dX8_stonesOf_3 : decode cX8_stonesOf 3 = .ok (.iconst 2, 1) := by decide +kernel
theorem dX8_stonesOf_4 : decode cX8_stonesOf 4 = .ok (.aload_n 0, 1) := by decide +kernel
theorem dX8_stonesOf_5 : decode cX8_stonesOf 5 = .ok (.invokestatic 55, 3) := by decide +kernel
theorem dX8_stonesOf_8 : decode cX8_stonesOf 8 = .ok (.imul, 1) := by decide +kernel
theorem dX8_stonesOf_9 : decode cX8_stonesOf 9 = .ok (.iadd, 1) := by decide +kernel
theorem dX8_stonesOf_10 : decode cX8_stonesOf 10 = .ok (.iload_n 1, 1) := by decide +kernel
theorem dX8_stonesOf_11 : decode cX8_stonesOf 11 = .ok (.iadd, 1) := by decide +kernel
theorem dX8_stonesOf_12 : decode cX8_stonesOf 12 = .ok (.laload, 1) := by decide +kernel
theorem dX8_stonesOf_13 : decode cX8_stonesOf 13 = .ok (.lreturn, 1) := by decide +kernel
theorem dX8_turnOf_0 : decode cX8_turnOf 0 = .ok (.aload_n 0, 1) := by decide +kernel
theorem dX8_turnOf_1 : decode cX8_turnOf 1 = .ok (.iconst 2, 1) := by decide +kernel
theorem dX8_turnOf_2 : decode cX8_turnOf 2 = .ok (.laload, 1) := by decide +kernel
theorem dX8_turnOf_3 : decode cX8_turnOf 3 = .ok (.l2i, 1) := by decide +kernel
theorem dX8_turnOf_4 : decode cX8_turnOf 4 = .ok (.ireturn, 1) := by decide +kernel
theorem dX8_has_0 : decode cX8_has 0 = .ok (.lload_n 0, 1) := by decide +kernel
theorem dX8_has_1 : decode cX8_has 1 = .ok (.iload_n 2, 1) := by decide +kernel
theorem dX8_has_2 : decode cX8_has 2 = .ok (.lushr, 1) := by decide +kernel
theorem dX8_has_3 : decode cX8_has 3 = .ok (.lconst 1, 1) := by decide +kernel
theorem dX8_has_4 : decode cX8_has 4 = .ok (.land, 1) := by decide +kernel
theorem dX8_has_5 : decode cX8_has 5 = .ok (.lconst 1, 1) := by decide +kernel
theorem dX8_has_6 : decode cX8_has 6 = .ok (.lcmp, 1) := by decide +kernel
theorem dX8_has_7 : decode cX8_has 7 = .ok (.ifCond .ne 7, 3) := by decide +kernel
theorem dX8_has_10 : decode cX8_has 10 = .ok (.iconst 1, 1) := by decide +kernel
theorem dX8_has_11 : decode cX8_has 11 = .ok (.goto 4, 3) := by decide +kernel
theorem dX8_has_14 : decode cX8_has 14 = .ok (.iconst 0, 1) := by decide +kernel
theorem dX8_has_15 : decode cX8_has 15 = .ok (.ireturn, 1) := by decide +kernel
set_option maxRecDepth 20000 in
theorem ggX8_bits_X8_has : GoodIn wsX8_bits wsX8_has := goodIn_r _ [4] (by decide +kernel) (by decide +kernel)
set_option maxRecDepth 20000 in
theorem gX8_bits_X8_has : GoodIn wsX8_bits (va_wsS RX8 58 yX8_has wsX8_has) := goodIn_app (goodIn_of _ (by decide +kernel)) ggX8_bits_X8_has
theorem dX8_bits_0 : decode cX8_bits 0 = .ok (.iconst 0, 1) := by decide +kernel
theorem dX8_bits_1 : decode cX8_bits 1 = .ok (.istore_n 2, 1) := by decide +kernel
theorem dX8_bits_2 : decode cX8_bits 2 = .ok (.iconst 0, 1) := by decide +kernel
theorem dX8_bits_3 : decode cX8_bits 3 = .ok (.istore_n 3, 1) := by decide +kernel
theorem dX8_bits_4 : decode cX8_bits 4 = .ok (.iload_n 3, 1) := by decide +kernel
theorem dX8_bits_5 : decode cX8_bits 5 = .ok (.bipush 49, 2) := by decide +kernel
theorem dX8_bits_7 : decode cX8_bits 7 = .ok (.if_icmp .ge 25, 3) := by decide +kernel
theorem dX8_bits_10 : decode cX8_bits 10 = .ok (.iload_n 2, 1) := by decide +kernel
theorem dX8_bits_11 : decode cX8_bits 11 = .ok (.lload_n 0, 1) := by decide +kernel
theorem dX8_bits_12 : decode cX8_bits 12 = .ok (.iload_n 3, 1) := by decide +kernel
theorem dX8_bits_13 : decode cX8_bits 13 = .ok (.invokestatic 58, 3) := by decide +kernel
theorem dX8_bits_16 : decode cX8_bits 16 = .ok (.ifCond .eq 7, 3) := by decide +kernel
theorem dX8_bits_19 : decode cX8_bits 19 = .ok (.iconst 1, 1) := by decide +kernel
theorem dX8_bits_20 : decode cX8_bits 20 = .ok (.goto 4, 3) := by decide +kernel
theorem dX8_bits_23 : decode cX8_bits 23 = .ok (.iconst 0, 1) := by decide +kernel
theorem dX8_bits_24 : decode cX8_bits 24 = .ok (.iadd, 1) := by decide +kernel
theorem dX8_bits_25 : decode cX8_bits 25 = .ok (.istore_n 2, 1) := by decide +kernel
theorem dX8_bits_26 : decode cX8_bits 26 = .ok (.iinc 3 1, 3) := by decide +kernel
theorem dX8_bits_29 : decode cX8_bits 29 = .ok (.goto (-25), 3) := by decide +kernel
theorem dX8_bits_32 : decode cX8_bits 32 = .ok (.iload_n 2, 1) := by decide +kernel
theorem dX8_bits_33 : decode cX8_bits 33 = .ok (.ireturn, 1) := by decide +kernel
set_option maxRecDepth 20000 in
theorem ggX8_lowest_X8_has : GoodIn wsX8_lowest wsX8_has := goodIn_r _ [4] (by decide +kernel) (by decide +kernel)
set_option maxRecDepth 20000 in
theorem gX8_lowest_X8_has : GoodIn wsX8_lowest (va_wsS RX8 58 yX8_has wsX8_has) := goodIn_app (goodIn_of _ (by decide +kernel)) ggX8_lowest_X8_has
theorem dX8_lowest_0 : decode cX8_lowest 0 = .ok (.iconst 0, 1) := by decide +kernel
theorem dX8_lowest_1 : decode cX8_lowest 1 = .ok (.istore_n 2, 1) := by decide +kernel
theorem dX8_lowest_2 : decode cX8_lowest 2 = .ok (.lload_n 0, 1) := by decide +kernel
theorem dX8_lowest_3 : decode cX8_lowest 3 = .ok (.iload_n 2, 1) := by decide +kernel
theorem dX8_lowest_4 : decode cX8_lowest 4 = .ok (.invokestatic 58, 3) := by decide +kernel
theorem dX8_lowest_7 : decode cX8_lowest 7 = .ok (.ifCond .ne 9, 3) := by decide +kernel
theorem dX8_lowest_10 : decode cX8_lowest 10 = .ok (.iinc 2 1, 3) := by decide +kernel
theorem dX8_lowest_13 : decode cX8_lowest 13 = .ok (.goto (-11), 3) := by decide +kernel
theorem dX8_lowest_16 : decode cX8_lowest 16 = .ok (.iload_n 2, 1) := by decide +kernel
theorem dX8_lowest_17 : decode cX8_lowest 17 = .ok (.ireturn, 1) := by decide +kernel
