theorem dX8_column_0 : decode cX8_column 0 = .ok (.lconst 0, 1) := by decide +kernel
theorem dX8_column_1 : decode cX8_column 1 = .ok (.lstore_n 2, 1) := by decide +kernel
theorem dX8_column_2 : decode cX8_column 2 = .ok (.iconst 0, 1) := by decide +kernel
theorem dX8_column_3 : decode cX8_column 3 = .ok (.istore 4, 2) := by decide +kernel
theorem dX8_column_5 : decode cX8_column 5 = .ok (.iload 4, 2) := by decide +kernel
theorem dX8_column_7 : decode cX8_column 7 = .ok (.iload_n 0, 1) := by decide +kernel
theorem dX8_column_8 : decode cX8_column 8 = .ok (.if_icmp .ge 20, 3) := by decide +kernel
theorem dX8_column_11 : decode cX8_column 11 = .ok (.lload_n 2, 1) := by decide +kernel
theorem dX8_column_12 : decode cX8_column 12 = .ok (.lconst 1, 1) := by decide +kernel
theorem dX8_column_13 : decode cX8_column 13 = .ok (.iload 4, 2) := by decide +kernel
theorem dX8_column_15 : decode cX8_column 15 = .ok (.iload_n 0, 1) := by decide +kernel
theorem dX8_column_16 : decode cX8_column 16 = .ok (.imul, 1) := by decide +kernel
theorem dX8_column_17 : decode cX8_column 17 = .ok (.iload_n 1, 1) := by decide +kernel
theorem dX8_column_18 : decode cX8_column 18 = .ok (.iadd, 1) := by decide +kernel
theorem dX8_column_19 : decode cX8_column 19 = .ok (.lshl, 1) := by decide +kernel
theorem dX8_column_20 : decode cX8_column 20 = .ok (.lor, 1) := by decide +kernel
theorem dX8_column_21 : decode cX8_column 21 = .ok (.lstore_n 2, 1) := by decide +kernel
theorem dX8_column_22 : decode cX8_column 22 = .ok (.iinc 4 1, 3) := by decide +kernel
theorem dX8_column_25 : decode cX8_column 25 = .ok (.goto (-20), 3) := by decide +kernel
theorem dX8_column_28 : decode cX8_column 28 = .ok (.lload_n 2, 1) := by decide +kernel
theorem dX8_column_29 : decode cX8_column 29 = .ok (.lreturn, 1) := by decide +kernel
set_option maxRecDepth 20000 in
theorem ggX8_beside_X8_column : GoodIn wsX8_beside wsX8_column := goodIn_r _ [5] (by decide +kernel) (by decide +kernel)
set_option maxRecDepth 20000 in
theorem gX8_beside_X8_column : GoodIn wsX8_beside (va_wsS RX8 62 yX8_column wsX8_column) := goodIn_app (goodIn_of _ (by decide +kernel)) ggX8_beside_X8_column
theorem dX8_beside_0 : decode cX8_beside 0 = .ok (.lload_n 1, 1) := by decide +kernel
theorem dX8_beside_1 : decode cX8_beside 1 = .ok (.iload_n 0, 1) := by decide +kernel
theorem dX8_beside_2 : decode cX8_beside 2 = .ok (.iload_n 0, 1) := by decide +kernel
theorem dX8_beside_3 : decode cX8_beside 3 = .ok (.iconst 1, 1) := by decide +kernel
theorem dX8_beside_4 : decode cX8_beside 4 = .ok (.isub, 1) := by decide +kernel
theorem dX8_beside_5 : decode cX8_beside 5 = .ok (.invokestatic 62, 3) := by decide +kernel
theorem dX8_beside_8 : decode cX8_beside 8 = .ok (.ldc2_w 66, 3) := by decide +kernel
theorem dX8_beside_11 : decode cX8_beside 11 = .ok (.lxor, 1) := by decide +kernel
theorem dX8_beside_12 : decode cX8_beside 12 = .ok (.land, 1) := by decide +kernel
theorem dX8_beside_13 : decode cX8_beside 13 = .ok (.iconst 1, 1) := by decide +kernel
theorem dX8_beside_14 : decode cX8_beside 14 = .ok (.lshl, 1) := by decide +kernel
theorem dX8_beside_15 : decode cX8_beside 15 = .ok (.lload_n 1, 1) := by decide +kernel
theorem dX8_beside_16 : decode cX8_beside 16 = .ok (.iload_n 0, 1) := by decide +kernel
theorem dX8_beside_17 : decode cX8_beside 17 = .ok (.iconst 0, 1) := by decide +kernel
theorem dX8_beside_18 : decode cX8_beside 18 = .ok (.invokestatic 62, 3) := by decide +kernel
theorem dX8_beside_21 : decode cX8_beside 21 = .ok (.ldc2_w 66, 3) := by decide +kernel
theorem dX8_beside_24 : decode cX8_beside 24 = .ok (.lxor, 1) := by decide +kernel
theorem dX8_beside_25 : decode cX8_beside 25 = .ok (.land, 1) := by decide +kernel
theorem dX8_beside_26 : decode cX8_beside 26 = .ok (.iconst 1, 1) := by decide +kernel
theorem dX8_beside_27 : decode cX8_beside 27 = .ok (.lushr, 1) := by decide +kernel
theorem dX8_beside_28 : decode cX8_beside 28 = .ok (.lor, 1) := by decide +kernel
theorem dX8_beside_29 : decode cX8_beside 29 = .ok (.lreturn, 1) := by decide +kernel
theorem dX8_aboveAndBelow_0 : decode cX8_aboveAndBelow 0 = .ok (.lload_n 1, 1) := by decide +kernel
theorem dX8_aboveAndBelow_1 : decode cX8_aboveAndBelow 1 = .ok (.iload_n 0, 1) := by decide +kernel
theorem dX8_aboveAndBelow_2 : decode cX8_aboveAndBelow 2 = .ok (.lshl, 1) := by decide +kernel
theorem dX8_aboveAndBelow_3 : decode cX8_aboveAndBelow 3 = .ok (.lload_n 1, 1) := by decide +kernel
theorem dX8_aboveAndBelow_4 : decode cX8_aboveAndBelow 4 = .ok (.iload_n 0, 1) := by decide +kernel
theorem dX8_aboveAndBelow_5 : decode cX8_aboveAndBelow 5 = .ok (.lushr, 1) := by decide +kernel
theorem dX8_aboveAndBelow_6 : decode cX8_aboveAndBelow 6 = .ok (.lor, 1) := by decide +kernel
theorem dX8_aboveAndBelow_7 : decode cX8_aboveAndBelow 7 = .ok (.lconst 1, 1) := by decide +kernel
theorem dX8_aboveAndBelow_8 : decode cX8_aboveAndBelow 8 = .ok (.iload_n 0, 1) := by decide +kernel
theorem dX8_aboveAndBelow_9 : decode cX8_aboveAndBelow 9 = .ok (.iload_n 0, 1) := by decide +kernel
theorem dX8_aboveAndBelow_10 : decode cX8_aboveAndBelow 10 = .ok (.imul, 1) := by decide +kernel
theorem dX8_aboveAndBelow_11 : decode cX8_aboveAndBelow 11 = .ok (.lshl, 1) := by decide +kernel
theorem dX8_aboveAndBelow_12 : decode cX8_aboveAndBelow 12 = .ok (.lconst 1, 1) := by decide +kernel
theorem dX8_aboveAndBelow_13 : decode cX8_aboveAndBelow 13 = .ok (.lsub, 1) := by decide +kernel
theorem dX8_aboveAndBelow_14 : decode cX8_aboveAndBelow 14 = .ok (.land, 1) := by decide +kernel
theorem dX8_aboveAndBelow_15 : decode cX8_aboveAndBelow 15 = .ok (.lreturn, 1) := by decide +kernel
set_option maxRecDepth 20000 in
theorem ggX8_near_X8_beside : GoodIn wsX8_near wsX8_beside := goodIn_r _ [4, 5, 6, 7, 3, 8] (by decide +kernel) (by decide +kernel)
set_option maxRecDepth 20000 in
theorem gX8_near_X8_beside : GoodIn wsX8_near (va_wsS RX8 68 yX8_beside wsX8_beside) := goodIn_app (goodIn_of _ (by decide +kernel)) ggX8_near_X8_beside
set_option maxRecDepth 20000 in
theorem ggX8_near_X8_aboveAndBelow : GoodIn wsX8_near wsX8_aboveAndBelow := goodIn_r _ [11] (by decide +kernel) (by decide +kernel)
set_option maxRecDepth 20000 in
theorem gX8_near_X8_aboveAndBelow : GoodIn wsX8_near (va_wsS RX8 72 yX8_aboveAndBelow wsX8_aboveAndBelow) := goodIn_app (goodIn_of _ (by decide +kernel)) ggX8_near_X8_aboveAndBelow
theorem dX8_near_0 : decode cX8_near 0 = .ok (.iload_n 0, 1) := by decide +kernel
theorem dX8_near_1 : decode cX8_near 1 = .ok (.lload_n 1, 1) := by decide +kernel
theorem dX8_near_2 : decode cX8_near 2 = .ok (.invokestatic 68, 3) := by decide +kernel
theorem dX8_near_5 : decode cX8_near 5 = .ok (.iload_n 0, 1) := by decide +kernel
theorem dX8_near_6 : decode cX8_near 6 = .ok (.lload_n 1, 1) := by decide +kernel
theorem dX8_near_7 : decode cX8_near 7 = .ok (.invokestatic 72, 3) := by decide +kernel
theorem dX8_near_10 : decode cX8_near 10 = .ok (.lor, 1) := by decide +kernel
theorem dX8_near_11 : decode cX8_near 11 = .ok (.lreturn, 1) := by decide +kernel
set_option maxRecDepth 20000 in
theorem ggX8_corners_X8_beside : GoodIn wsX8_corners wsX8_beside := goodIn_r _ [4, 5, 6, 7, 3, 8] (by decide +kernel) (by decide +kernel)
set_option maxRecDepth 20000 in
theorem gX8_corners_X8_beside : GoodIn wsX8_corners (va_wsS RX8 68 yX8_beside wsX8_beside) := goodIn_app (goodIn_of _ (by decide +kernel)) ggX8_corners_X8_beside
set_option maxRecDepth 20000 in
theorem ggX8_corners_X8_aboveAndBelow : GoodIn wsX8_corners wsX8_aboveAndBelow := goodIn_r _ [11] (by decide +kernel) (by decide +kernel)
set_option maxRecDepth 20000 in
theorem gX8_corners_X8_aboveAndBelow : GoodIn wsX8_corners (va_wsS RX8 72 yX8_aboveAndBelow wsX8_aboveAndBelow) := goodIn_app (goodIn_of _ (by decide +kernel)) ggX8_corners_X8_aboveAndBelow
theorem dX8_corners_0 : decode cX8_corners 0 = .ok (.iload_n 0, 1) := by decide +kernel
theorem dX8_corners_1 : decode cX8_corners 1 = .ok (.iload_n 0, 1) := by decide +kernel
theorem dX8_corners_2 : decode cX8_corners 2 = .ok (.lconst 1, 1) := by decide +kernel
theorem dX8_corners_3 : decode cX8_corners 3 = .ok (.iload_n 1, 1) := by decide +kernel
theorem dX8_corners_4 : decode cX8_corners 4 = .ok (.lshl, 1) := by decide +kernel
theorem dX8_corners_5 : decode cX8_corners 5 = .ok (.invokestatic 68, 3) := by decide +kernel
theorem dX8_corners_8 : decode cX8_corners 8 = .ok (.invokestatic 72, 3) := by decide +kernel
theorem dX8_corners_11 : decode cX8_corners 11 = .ok (.lreturn, 1) := by decide +kernel
set_option maxRecDepth 20000 in
theorem ggX8_grown_X8_near : GoodIn wsX8_grown wsX8_near := goodIn_r _ [4, 5, 6, 3, 7, 8, 9, 10, 11, 12, 13, 14] (by decide +kernel) (by decide +kernel)
set_option maxRecDepth 20000 in
theorem gX8_grown_X8_near : GoodIn wsX8_grown (va_wsS RX8 75 yX8_near wsX8_near) := goodIn_app (goodIn_of _ (by decide +kernel)) ggX8_grown_X8_near
theorem dX8_grown_0 : decode cX8_grown 0 = .ok (.lload_n 1, 1) := by decide +kernel
theorem dX8_grown_1 : decode cX8_grown 1 = .ok (.lstore 5, 2) := by decide +kernel
theorem dX8_grown_3 : decode cX8_grown 3 = .ok (.lload_n 1, 1) := by decide +kernel
theorem dX8_grown_4 : decode cX8_grown 4 = .ok (.iload_n 0, 1) := by decide +kernel
theorem dX8_grown_5 : decode cX8_grown 5 = .ok (.lload_n 1, 1) := by decide +kernel
theorem dX8_grown_6 : decode cX8_grown 6 = .ok (.invokestatic 75, 3) := by decide +kernel
theorem dX8_grown_9 : decode cX8_grown 9 = .ok (.lor, 1) := by decide +kernel
theorem dX8_grown_10 : decode cX8_grown 10 = .ok (.lload_n 3, 1) := by decide +kernel
theorem dX8_grown_11 : decode cX8_grown 11 = .ok (.land, 1) := by decide +kernel
theorem dX8_grown_12 : decode cX8_grown 12 = .ok (.lstore 7, 2) := by decide +kernel
theorem dX8_grown_14 : decode cX8_grown 14 = .ok (.lload 7, 2) := by decide +kernel
theorem dX8_grown_16 : decode cX8_grown 16 = .ok (.lload 5, 2) := by decide +kernel
theorem dX8_grown_18 : decode cX8_grown 18 = .ok (.lcmp, 1) := by decide +kernel
theorem dX8_grown_19 : decode cX8_grown 19 = .ok (.ifCond .eq 23, 3) := by decide +kernel
theorem dX8_grown_22 : decode cX8_grown 22 = .ok (.lload 7, 2) := by decide +kernel
theorem dX8_grown_24 : decode cX8_grown 24 = .ok (.lstore 5, 2) := by decide +kernel
theorem dX8_grown_26 : decode cX8_grown 26 = .ok (.lload 5, 2) := by decide +kernel
theorem dX8_grown_28 : decode cX8_grown 28 = .ok (.iload_n 0, 1) := by decide +kernel
theorem dX8_grown_29 : decode cX8_grown 29 = .ok (.lload 5, 2) := by decide +kernel
theorem dX8_grown_31 : decode cX8_grown 31 = .ok (.invokestatic 75, 3) := by decide +kernel
theorem dX8_grown_34 : decode cX8_grown 34 = .ok (.lor, 1) := by decide +kernel
theorem dX8_grown_35 : decode cX8_grown 35 = .ok (.lload_n 3, 1) := by decide +kernel
theorem dX8_grown_36 : decode cX8_grown 36 = .ok (.land, 1) := by decide +kernel
theorem dX8_grown_37 : decode cX8_grown 37 = .ok (.lstore 7, 2) := by decide +kernel
theorem dX8_grown_39 : decode cX8_grown 39 = .ok (.goto (-25), 3) := by decide +kernel
theorem dX8_grown_42 : decode cX8_grown 42 = .ok (.lload 5, 2) := by decide +kernel
theorem dX8_grown_44 : decode cX8_grown 44 = .ok (.lreturn, 1) := by decide +kernel
set_option maxRecDepth 20000 in
theorem ggX8_liberties_X8_near : GoodIn wsX8_liberties wsX8_near := goodIn_r _ [5, 6, 7, 4, 8, 1, 9, 10, 11, 12, 13, 14] (by decide +kernel) (by decide +kernel)
set_option maxRecDepth 20000 in
theorem gX8_liberties_X8_near : GoodIn wsX8_liberties (va_wsS RX8 75 yX8_near wsX8_near) := goodIn_app (goodIn_of _ (by decide +kernel)) ggX8_liberties_X8_near
theorem dX8_liberties_0 : decode cX8_liberties 0 = .ok (.iload_n 0, 1) := by decide +kernel
theorem dX8_liberties_1 : decode cX8_liberties 1 = .ok (.lload_n 1, 1) := by decide +kernel
theorem dX8_liberties_2 : decode cX8_liberties 2 = .ok (.invokestatic 75, 3) := by decide +kernel
theorem dX8_liberties_5 : decode cX8_liberties 5 = .ok (.lload_n 1, 1) := by decide +kernel
theorem dX8_liberties_6 : decode cX8_liberties 6 = .ok (.ldc2_w 66, 3) := by decide +kernel
theorem dX8_liberties_9 : decode cX8_liberties 9 = .ok (.lxor, 1) := by decide +kernel
theorem dX8_liberties_10 : decode cX8_liberties 10 = .ok (.land, 1) := by decide +kernel
theorem dX8_liberties_11 : decode cX8_liberties 11 = .ok (.lload_n 3, 1) := by decide +kernel
theorem dX8_liberties_12 : decode cX8_liberties 12 = .ok (.ldc2_w 66, 3) := by decide +kernel
theorem dX8_liberties_15 : decode cX8_liberties 15 = .ok (.lxor, 1) := by decide +kernel
theorem dX8_liberties_16 : decode cX8_liberties 16 = .ok (.land, 1) := by decide +kernel
theorem dX8_liberties_17 : decode cX8_liberties 17 = .ok (.lreturn, 1) := by decide +kernel
set_option maxRecDepth 20000 in
theorem ggX8_lays_X8_near : GoodIn wsX8_lays wsX8_near := goodIn_r _ [9, 10, 11, 8, 12, 4, 13, 14, 15, 16, 17, 18] (by decide +kernel) (by decide +kernel)
set_option maxRecDepth 20000 in
theorem gX8_lays_X8_near : GoodIn wsX8_lays (va_wsS RX8 75 yX8_near wsX8_near) := goodIn_app (goodIn_of _ (by decide +kernel)) ggX8_lays_X8_near
set_option maxRecDepth 20000 in
theorem ggX8_lays_X8_grown : GoodIn wsX8_lays wsX8_grown := goodIn_r _ [21, 6, 7, 8, 9, 10, 11, 12, 4, 13, 14, 15, 16, 17, 18] (by decide +kernel) (by decide +kernel)
set_option maxRecDepth 20000 in
theorem gX8_lays_X8_grown : GoodIn wsX8_lays (va_wsS RX8 88 yX8_grown wsX8_grown) := goodIn_app (goodIn_of _ (by decide +kernel)) ggX8_lays_X8_grown
set_option maxRecDepth 20000 in
theorem ggX8_lays_X8_liberties : GoodIn wsX8_lays wsX8_liberties := goodIn_r _ [24, 4, 6, 7, 8, 9, 10, 11, 12, 13, 14, 15, 16, 17, 18] (by decide +kernel) (by decide +kernel)
set_option maxRecDepth 20000 in
theorem gX8_lays_X8_liberties : GoodIn wsX8_lays (va_wsS RX8 92 yX8_liberties wsX8_liberties) := goodIn_app (goodIn_of _ (by decide +kernel)) ggX8_lays_X8_liberties
set_option maxRecDepth 20000 in
theorem ggX8_lays_X8_bits : GoodIn wsX8_lays wsX8_bits := goodIn_r _ [27, 28, 29, 8, 30] (by decide +kernel) (by decide +kernel)
set_option maxRecDepth 20000 in
theorem gX8_lays_X8_bits : GoodIn wsX8_lays (va_wsS RX8 95 yX8_bits wsX8_bits) := goodIn_app (goodIn_of _ (by decide +kernel)) ggX8_lays_X8_bits
theorem dX8_lays_0 : decode cX8_lays 0 = .ok (.aload_n 0, 1) := by decide +kernel
theorem dX8_lays_1 : decode cX8_lays 1 = .ok (.lload_n 2, 1) := by decide +kernel
theorem dX8_lays_2 : decode cX8_lays 2 = .ok (.lconst 1, 1) := by decide +kernel
theorem dX8_lays_3 : decode cX8_lays 3 = .ok (.iload 6, 2) := by decide +kernel
theorem dX8_lays_5 : decode cX8_lays 5 = .ok (.lshl, 1) := by decide +kernel
theorem dX8_lays_6 : decode cX8_lays 6 = .ok (.lor, 1) := by decide +kernel
theorem dX8_lays_7 : decode cX8_lays 7 = .ok (.putfield 78, 3) := by decide +kernel
theorem dX8_lays_10 : decode cX8_lays 10 = .ok (.aload_n 0, 1) := by decide +kernel
theorem dX8_lays_11 : decode cX8_lays 11 = .ok (.lload 4, 2) := by decide +kernel
theorem dX8_lays_13 : decode cX8_lays 13 = .ok (.putfield 82, 3) := by decide +kernel
theorem dX8_lays_16 : decode cX8_lays 16 = .ok (.aload_n 0, 1) := by decide +kernel
theorem dX8_lays_17 : decode cX8_lays 17 = .ok (.iconst 0, 1) := by decide +kernel
theorem dX8_lays_18 : decode cX8_lays 18 = .ok (.putfield 85, 3) := by decide +kernel
theorem dX8_lays_21 : decode cX8_lays 21 = .ok (.iload_n 1, 1) := by decide +kernel
theorem dX8_lays_22 : decode cX8_lays 22 = .ok (.lconst 1, 1) := by decide +kernel
theorem dX8_lays_23 : decode cX8_lays 23 = .ok (.iload 6, 2) := by decide +kernel
theorem dX8_lays_25 : decode cX8_lays 25 = .ok (.lshl, 1) := by decide +kernel
theorem dX8_lays_26 : decode cX8_lays 26 = .ok (.invokestatic 75, 3) := by decide +kernel
theorem dX8_lays_29 : decode cX8_lays 29 = .ok (.lload 4, 2) := by decide +kernel
theorem dX8_lays_31 : decode cX8_lays 31 = .ok (.land, 1) := by decide +kernel
theorem dX8_lays_32 : decode cX8_lays 32 = .ok (.lstore 7, 2) := by decide +kernel
theorem dX8_lays_34 : decode cX8_lays 34 = .ok (.lload 7, 2) := by decide +kernel
theorem dX8_lays_36 : decode cX8_lays 36 = .ok (.lconst 0, 1) := by decide +kernel
theorem dX8_lays_37 : decode cX8_lays 37 = .ok (.lcmp, 1) := by decide +kernel
theorem dX8_lays_38 : decode cX8_lays 38 = .ok (.ifCond .eq 78, 3) := by decide +kernel
theorem dX8_lays_41 : decode cX8_lays 41 = .ok (.iload_n 1, 1) := by decide +kernel
theorem dX8_lays_42 : decode cX8_lays 42 = .ok (.lload 7, 2) := by decide +kernel
theorem dX8_lays_44 : decode cX8_lays 44 = .ok (.lload 7, 2) := by decide +kernel
theorem dX8_lays_46 : decode cX8_lays 46 = .ok (.lneg, 1) := by decide +kernel
theorem dX8_lays_47 : decode cX8_lays 47 = .ok (.land, 1) := by decide +kernel
theorem dX8_lays_48 : decode cX8_lays 48 = .ok (.lload 4, 2) := by decide +kernel
theorem dX8_lays_50 : decode cX8_lays 50 = .ok (.invokestatic 88, 3) := by decide +kernel
theorem dX8_lays_53 : decode cX8_lays 53 = .ok (.lstore 9, 2) := by decide +kernel
theorem dX8_lays_55 : decode cX8_lays 55 = .ok (.lload 7, 2) := by decide +kernel
theorem dX8_lays_57 : decode cX8_lays 57 = .ok (.lload 9, 2) := by decide +kernel
theorem dX8_lays_59 : decode cX8_lays 59 = .ok (.ldc2_w 66, 3) := by decide +kernel
theorem dX8_lays_62 : decode cX8_lays 62 = .ok (.lxor, 1) := by decide +kernel
theorem dX8_lays_63 : decode cX8_lays 63 = .ok (.land, 1) := by decide +kernel
theorem dX8_lays_64 : decode cX8_lays 64 = .ok (.lstore 7, 2) := by decide +kernel
theorem dX8_lays_66 : decode cX8_lays 66 = .ok (.iload_n 1, 1) := by decide +kernel
theorem dX8_lays_67 : decode cX8_lays 67 = .ok (.lload 9, 2) := by decide +kernel
theorem dX8_lays_69 : decode cX8_lays 69 = .ok (.aload_n 0, 1) := by decide +kernel
theorem dX8_lays_70 : decode cX8_lays 70 = .ok (.getfield 78, 3) := by decide +kernel
theorem dX8_lays_73 : decode cX8_lays 73 = .ok (.lload 4, 2) := by decide +kernel
theorem dX8_lays_75 : decode cX8_lays 75 = .ok (.lor, 1) := by decide +kernel
theorem dX8_lays_76 : decode cX8_lays 76 = .ok (.invokestatic 92, 3) := by decide +kernel
theorem dX8_lays_79 : decode cX8_lays 79 = .ok (.lconst 0, 1) := by decide +kernel
theorem dX8_lays_80 : decode cX8_lays 80 = .ok (.lcmp, 1) := by decide +kernel
theorem dX8_lays_81 : decode cX8_lays 81 = .ok (.ifCond .ne 32, 3) := by decide +kernel
theorem dX8_lays_84 : decode cX8_lays 84 = .ok (.aload_n 0, 1) := by decide +kernel
theorem dX8_lays_85 : decode cX8_lays 85 = .ok (.dup, 1) := by decide +kernel
theorem dX8_lays_86 : decode cX8_lays 86 = .ok (.getfield 82, 3) := by decide +kernel
theorem dX8_lays_89 : decode cX8_lays 89 = .ok (.lload 9, 2) := by decide +kernel
theorem dX8_lays_91 : decode cX8_lays 91 = .ok (.ldc2_w 66, 3) := by decide +kernel
theorem dX8_lays_94 : decode cX8_lays 94 = .ok (.lxor, 1) := by decide +kernel
theorem dX8_lays_95 : decode cX8_lays 95 = .ok (.land, 1) := by decide +kernel
theorem dX8_lays_96 : decode cX8_lays 96 = .ok (.putfield 82, 3) := by decide +kernel
theorem dX8_lays_99 : decode cX8_lays 99 = .ok (.aload_n 0, 1) := by decide +kernel
theorem dX8_lays_100 : decode cX8_lays 100 = .ok (.dup, 1) := by decide +kernel
theorem dX8_lays_101 : decode cX8_lays 101 = .ok (.getfield 85, 3) := by decide +kernel
theorem dX8_lays_104 : decode cX8_lays 104 = .ok (.lload 9, 2) := by decide +kernel
theorem dX8_lays_106 : decode cX8_lays 106 = .ok (.invokestatic 95, 3) := by decide +kernel
theorem dX8_lays_109 : decode cX8_lays 109 = .ok (.iadd, 1) := by decide +kernel
theorem dX8_lays_110 : decode cX8_lays 110 = .ok (.putfield 85, 3) := by decide +kernel
theorem dX8_lays_113 : decode cX8_lays 113 = .ok (.goto (-79), 3) := by decide +kernel
theorem dX8_lays_116 : decode cX8_lays 116 = .ok (.aload_n 0, 1) := by decide +kernel
theorem dX8_lays_117 : decode cX8_lays 117 = .ok (.iload_n 1, 1) := by decide +kernel
theorem dX8_lays_118 : decode cX8_lays 118 = .ok (.iload_n 1, 1) := by decide +kernel
theorem dX8_lays_119 : decode cX8_lays 119 = .ok (.lconst 1, 1) := by decide +kernel
theorem dX8_lays_120 : decode cX8_lays 120 = .ok (.iload 6, 2) := by decide +kernel
theorem dX8_lays_122 : decode cX8_lays 122 = .ok (.lshl, 1) := by decide +kernel
theorem dX8_lays_123 : decode cX8_lays 123 = .ok (.aload_n 0, 1) := by decide +kernel
theorem dX8_lays_124 : decode cX8_lays 124 = .ok (.getfield 78, 3) := by decide +kernel
theorem dX8_lays_127 : decode cX8_lays 127 = .ok (.invokestatic 88, 3) := by decide +kernel
theorem dX8_lays_130 : decode cX8_lays 130 = .ok (.aload_n 0, 1) := by decide +kernel
theorem dX8_lays_131 : decode cX8_lays 131 = .ok (.getfield 78, 3) := by decide +kernel
theorem dX8_lays_134 : decode cX8_lays 134 = .ok (.aload_n 0, 1) := by decide +kernel
theorem dX8_lays_135 : decode cX8_lays 135 = .ok (.getfield 82, 3) := by decide +kernel
theorem dX8_lays_138 : decode cX8_lays 138 = .ok (.lor, 1) := by decide +kernel
theorem dX8_lays_139 : decode cX8_lays 139 = .ok (.invokestatic 92, 3) := by decide +kernel
theorem dX8_lays_142 : decode cX8_lays 142 = .ok (.putfield 99, 3) := by decide +kernel
theorem dX8_lays_145 : decode cX8_lays 145 = .ok (.aload_n 0, 1) := by decide +kernel
theorem dX8_lays_146 : decode cX8_lays 146 = .ok (.getfield 99, 3) := by decide +kernel
theorem dX8_lays_149 : decode cX8_lays 149 = .ok (.lconst 0, 1) := by decide +kernel
theorem dX8_lays_150 : decode cX8_lays 150 = .ok (.lcmp, 1) := by decide +kernel
theorem dX8_lays_151 : decode cX8_lays 151 = .ok (.ifCond .eq 7, 3) := by decide +kernel
theorem dX8_lays_154 : decode cX8_lays 154 = .ok (.iconst 1, 1) := by decide +kernel
theorem dX8_lays_155 : decode cX8_lays 155 = .ok (.goto 4, 3) := by decide +kernel
theorem dX8_lays_158 : decode cX8_lays 158 = .ok (.iconst 0, 1) := by decide +kernel
theorem dX8_lays_159 : decode cX8_lays 159 = .ok (.ireturn, 1) := by decide +kernel
set_option maxRecDepth 20000 in
theorem ggX8_mayNotCome_X8_moves : GoodIn wsX8_mayNotCome wsX8_moves := goodIn_r _ [4] (by decide +kernel) (by decide +kernel)
set_option maxRecDepth 20000 in
theorem gX8_mayNotCome_X8_moves : GoodIn wsX8_mayNotCome (va_wsS RX8 55 yX8_moves wsX8_moves) := goodIn_app (goodIn_of _ (by decide +kernel)) ggX8_mayNotCome_X8_moves
theorem dX8_mayNotCome_0 : decode cX8_mayNotCome 0 = .ok (.aload_n 0, 1) := by decide +kernel
theorem dX8_mayNotCome_1 : decode cX8_mayNotCome 1 = .ok (.invokestatic 55, 3) := by decide +kernel
theorem dX8_mayNotCome_4 : decode cX8_mayNotCome 4 = .ok (.istore 5, 2) := by decide +kernel
theorem dX8_mayNotCome_6 : decode cX8_mayNotCome 6 = .ok (.aload_n 0, 1) := by decide +kernel
theorem dX8_mayNotCome_7 : decode cX8_mayNotCome 7 = .ok (.iconst 1, 1) := by decide +kernel
theorem dX8_mayNotCome_8 : decode cX8_mayNotCome 8 = .ok (.laload, 1) := by decide +kernel
theorem dX8_mayNotCome_9 : decode cX8_mayNotCome 9 = .ok (.lconst 1, 1) := by decide +kernel
theorem dX8_mayNotCome_10 : decode cX8_mayNotCome 10 = .ok (.lcmp, 1) := by decide +kernel
theorem dX8_mayNotCome_11 : decode cX8_mayNotCome 11 = .ok (.ifCond .ne 7, 3) := by decide +kernel
theorem dX8_mayNotCome_14 : decode cX8_mayNotCome 14 = .ok (.iconst 0, 1) := by decide +kernel
theorem dX8_mayNotCome_15 : decode cX8_mayNotCome 15 = .ok (.goto 7, 3) := by decide +kernel
theorem dX8_mayNotCome_18 : decode cX8_mayNotCome 18 = .ok (.iload 5, 2) := by decide +kernel
theorem dX8_mayNotCome_20 : decode cX8_mayNotCome 20 = .ok (.iconst 1, 1) := by decide +kernel
theorem dX8_mayNotCome_21 : decode cX8_mayNotCome 21 = .ok (.isub, 1) := by decide +kernel
theorem dX8_mayNotCome_22 : decode cX8_mayNotCome 22 = .ok (.istore 6, 2) := by decide +kernel
theorem dX8_mayNotCome_24 : decode cX8_mayNotCome 24 = .ok (.iload 6, 2) := by decide +kernel
theorem dX8_mayNotCome_26 : decode cX8_mayNotCome 26 = .ok (.iload 5, 2) := by decide +kernel
theorem dX8_mayNotCome_28 : decode cX8_mayNotCome 28 = .ok (.if_icmp .gt 46, 3) := by decide +kernel
theorem dX8_mayNotCome_31 : decode cX8_mayNotCome 31 = .ok (.iload 6, 2) := by decide +kernel
theorem dX8_mayNotCome_33 : decode cX8_mayNotCome 33 = .ok (.ifCond .lt 35, 3) := by decide +kernel
theorem dX8_mayNotCome_36 : decode cX8_mayNotCome 36 = .ok (.aload_n 0, 1) := by decide +kernel
theorem dX8_mayNotCome_37 : decode cX8_mayNotCome 37 = .ok (.bipush 8, 2) := by decide +kernel
theorem dX8_mayNotCome_39 : decode cX8_mayNotCome 39 = .ok (.iconst 2, 1) := by decide +kernel
theorem dX8_mayNotCome_40 : decode cX8_mayNotCome 40 = .ok (.iload 6, 2) := by decide +kernel
theorem dX8_mayNotCome_42 : decode cX8_mayNotCome 42 = .ok (.imul, 1) := by decide +kernel
theorem dX8_mayNotCome_43 : decode cX8_mayNotCome 43 = .ok (.iadd, 1) := by decide +kernel
theorem dX8_mayNotCome_44 : decode cX8_mayNotCome 44 = .ok (.laload, 1) := by decide +kernel
theorem dX8_mayNotCome_45 : decode cX8_mayNotCome 45 = .ok (.lload_n 1, 1) := by decide +kernel
theorem dX8_mayNotCome_46 : decode cX8_mayNotCome 46 = .ok (.lcmp, 1) := by decide +kernel
theorem dX8_mayNotCome_47 : decode cX8_mayNotCome 47 = .ok (.ifCond .ne 21, 3) := by decide +kernel
theorem dX8_mayNotCome_50 : decode cX8_mayNotCome 50 = .ok (.aload_n 0, 1) := by decide +kernel
theorem dX8_mayNotCome_51 : decode cX8_mayNotCome 51 = .ok (.bipush 8, 2) := by decide +kernel
theorem dX8_mayNotCome_53 : decode cX8_mayNotCome 53 = .ok (.iconst 2, 1) := by decide +kernel
theorem dX8_mayNotCome_54 : decode cX8_mayNotCome 54 = .ok (.iload 6, 2) := by decide +kernel
theorem dX8_mayNotCome_56 : decode cX8_mayNotCome 56 = .ok (.imul, 1) := by decide +kernel
theorem dX8_mayNotCome_57 : decode cX8_mayNotCome 57 = .ok (.iadd, 1) := by decide +kernel
theorem dX8_mayNotCome_58 : decode cX8_mayNotCome 58 = .ok (.iconst 1, 1) := by decide +kernel
theorem dX8_mayNotCome_59 : decode cX8_mayNotCome 59 = .ok (.iadd, 1) := by decide +kernel
theorem dX8_mayNotCome_60 : decode cX8_mayNotCome 60 = .ok (.laload, 1) := by decide +kernel
theorem dX8_mayNotCome_61 : decode cX8_mayNotCome 61 = .ok (.lload_n 3, 1) := by decide +kernel
theorem dX8_mayNotCome_62 : decode cX8_mayNotCome 62 = .ok (.lcmp, 1) := by decide +kernel
theorem dX8_mayNotCome_63 : decode cX8_mayNotCome 63 = .ok (.ifCond .ne 5, 3) := by decide +kernel
theorem dX8_mayNotCome_66 : decode cX8_mayNotCome 66 = .ok (.iconst 1, 1) := by decide +kernel
theorem dX8_mayNotCome_67 : decode cX8_mayNotCome 67 = .ok (.ireturn, 1) := by decide +kernel
theorem dX8_mayNotCome_68 : decode cX8_mayNotCome 68 = .ok (.iinc 6 1, 3) := by decide +kernel
theorem dX8_mayNotCome_71 : decode cX8_mayNotCome 71 = .ok (.goto (-47), 3) := by decide +kernel
theorem dX8_mayNotCome_74 : decode cX8_mayNotCome 74 = .ok (.iconst 0, 1) := by decide +kernel
theorem dX8_mayNotCome_75 : decode cX8_mayNotCome 75 = .ok (.ireturn, 1) := by decide +kernel
set_option maxRecDepth 20000 in
theorem ggX8_whyNot_X8_turnOf : GoodIn wsX8_whyNot wsX8_turnOf := goodIn_r _ [6] (by decide +kernel) (by decide +kernel)
set_option maxRecDepth 20000 in
theorem gX8_whyNot_X8_turnOf : GoodIn wsX8_whyNot (va_wsS RX8 102 yX8_turnOf wsX8_turnOf) := goodIn_app (goodIn_of _ (by decide +kernel)) ggX8_whyNot_X8_turnOf
set_option maxRecDepth 20000 in
theorem ggX8_whyNot_X8_stonesOf : GoodIn wsX8_whyNot wsX8_stonesOf := goodIn_r _ [9, 10, 11, 5, 12] (by decide +kernel) (by decide +kernel)
set_option maxRecDepth 20000 in
theorem gX8_whyNot_X8_stonesOf : GoodIn wsX8_whyNot (va_wsS RX8 105 yX8_stonesOf wsX8_stonesOf) := goodIn_app (goodIn_of _ (by decide +kernel)) ggX8_whyNot_X8_stonesOf
set_option maxRecDepth 20000 in
theorem ggX8_whyNot_X8_has : GoodIn wsX8_whyNot wsX8_has := goodIn_r _ [15] (by decide +kernel) (by decide +kernel)
set_option maxRecDepth 20000 in
theorem gX8_whyNot_X8_has : GoodIn wsX8_whyNot (va_wsS RX8 58 yX8_has wsX8_has) := goodIn_app (goodIn_of _ (by decide +kernel)) ggX8_whyNot_X8_has
set_option maxRecDepth 20000 in
theorem ggX8_whyNot_X8_lays : GoodIn wsX8_whyNot wsX8_lays := goodIn_r _ [19, 1, 2, 20, 21, 22, 23, 24, 5, 25, 26, 27, 28, 29, 30, 31, 32, 33, 34, 35, 36, 37, 38, 39, 40, 41, 42, 43, 13, 14, 15, 47, 48, 49, 50, 51, 52, 53, 54, 55, 56, 57, 58, 59, 60, 61, 62, 63, 64, 65] (by decide +kernel) (by decide +kernel)
set_option maxRecDepth 20000 in
theorem gX8_whyNot_X8_lays : GoodIn wsX8_whyNot (wsV RX8 109 RX8 yX8_lays wsX8_lays) := goodIn_app (goodIn_of _ (by decide +kernel)) ggX8_whyNot_X8_lays
set_option maxRecDepth 20000 in
theorem ggX8_whyNot_X8_mayNotCome : GoodIn wsX8_whyNot wsX8_mayNotCome := goodIn_r _ [46, 10, 11, 5, 12] (by decide +kernel) (by decide +kernel)
set_option maxRecDepth 20000 in
theorem gX8_whyNot_X8_mayNotCome : GoodIn wsX8_whyNot (va_wsS RX8 113 yX8_mayNotCome wsX8_mayNotCome) := goodIn_app (goodIn_of _ (by decide +kernel)) ggX8_whyNot_X8_mayNotCome
set_option maxRecDepth 20000 in
theorem ggX8_whyNot_X8_moves : GoodIn wsX8_whyNot wsX8_moves := goodIn_r _ [12] (by decide +kernel) (by decide +kernel)
set_option maxRecDepth 20000 in
theorem gX8_whyNot_X8_moves : GoodIn wsX8_whyNot (va_wsS RX8 55 yX8_moves wsX8_moves) := goodIn_app (goodIn_of _ (by decide +kernel)) ggX8_whyNot_X8_moves
theorem dX8_whyNot_0 : decode cX8_whyNot 0 = .ok (.aload_n 1, 1) := by decide +kernel
theorem dX8_whyNot_1 : decode cX8_whyNot 1 = .ok (.invokestatic 102, 3) := by decide +kernel
theorem dX8_whyNot_4 : decode cX8_whyNot 4 = .ok (.istore_n 3, 1) := by decide +kernel
theorem dX8_whyNot_5 : decode cX8_whyNot 5 = .ok (.aload_n 1, 1) := by decide +kernel
theorem dX8_whyNot_6 : decode cX8_whyNot 6 = .ok (.iconst 0, 1) := by decide +kernel
theorem dX8_whyNot_7 : decode cX8_whyNot 7 = .ok (.invokestatic 105, 3) := by decide +kernel
theorem dX8_whyNot_10 : decode cX8_whyNot 10 = .ok (.aload_n 1, 1) := by decide +kernel
theorem dX8_whyNot_11 : decode cX8_whyNot 11 = .ok (.iconst 1, 1) := by decide +kernel
theorem dX8_whyNot_12 : decode cX8_whyNot 12 = .ok (.invokestatic 105, 3) := by decide +kernel
theorem dX8_whyNot_15 : decode cX8_whyNot 15 = .ok (.lor, 1) := by decide +kernel
theorem dX8_whyNot_16 : decode cX8_whyNot 16 = .ok (.iload_n 2, 1) := by decide +kernel
theorem dX8_whyNot_17 : decode cX8_whyNot 17 = .ok (.invokestatic 58, 3) := by decide +kernel
theorem dX8_whyNot_20 : decode cX8_whyNot 20 = .ok (.ifCond .eq 5, 3) := by decide +kernel
theorem dX8_whyNot_23 : decode cX8_whyNot 23 = .ok (.iconst 1, 1) := by decide +kernel
theorem dX8_whyNot_24 : decode cX8_whyNot 24 = .ok (.ireturn, 1) := by decide +kernel
theorem dX8_whyNot_25 : decode cX8_whyNot 25 = .ok (.aload_n 0, 1) := by decide +kernel
theorem dX8_whyNot_26 : decode cX8_whyNot 26 = .ok (.aload_n 1, 1) := by decide +kernel
theorem dX8_whyNot_27 : decode cX8_whyNot 27 = .ok (.iconst 0, 1) := by decide +kernel
theorem dX8_whyNot_28 : decode cX8_whyNot 28 = .ok (.laload, 1) := by decide +kernel
theorem dX8_whyNot_29 : decode cX8_whyNot 29 = .ok (.l2i, 1) := by decide +kernel
theorem dX8_whyNot_30 : decode cX8_whyNot 30 = .ok (.aload_n 1, 1) := by decide +kernel
theorem dX8_whyNot_31 : decode cX8_whyNot 31 = .ok (.iload_n 3, 1) := by decide +kernel
theorem dX8_whyNot_32 : decode cX8_whyNot 32 = .ok (.invokestatic 105, 3) := by decide +kernel
theorem dX8_whyNot_35 : decode cX8_whyNot 35 = .ok (.aload_n 1, 1) := by decide +kernel
theorem dX8_whyNot_36 : decode cX8_whyNot 36 = .ok (.iconst 1, 1) := by decide +kernel
theorem dX8_whyNot_37 : decode cX8_whyNot 37 = .ok (.iload_n 3, 1) := by decide +kernel
theorem dX8_whyNot_38 : decode cX8_whyNot 38 = .ok (.isub, 1) := by decide +kernel
theorem dX8_whyNot_39 : decode cX8_whyNot 39 = .ok (.invokestatic 105, 3) := by decide +kernel
theorem dX8_whyNot_42 : decode cX8_whyNot 42 = .ok (.iload_n 2, 1) := by decide +kernel
theorem dX8_whyNot_43 : decode cX8_whyNot 43 = .ok (.invokevirtual 109, 3) := by decide +kernel
theorem dX8_whyNot_46 : decode cX8_whyNot 46 = .ok (.ifCond .ne 5, 3) := by decide +kernel
theorem dX8_whyNot_49 : decode cX8_whyNot 49 = .ok (.iconst 2, 1) := by decide +kernel
theorem dX8_whyNot_50 : decode cX8_whyNot 50 = .ok (.ireturn, 1) := by decide +kernel
theorem dX8_whyNot_51 : decode cX8_whyNot 51 = .ok (.aload_n 1, 1) := by decide +kernel
theorem dX8_whyNot_52 : decode cX8_whyNot 52 = .ok (.iload_n 3, 1) := by decide +kernel
theorem dX8_whyNot_53 : decode cX8_whyNot 53 = .ok (.ifCond .ne 10, 3) := by decide +kernel
theorem dX8_whyNot_56 : decode cX8_whyNot 56 = .ok (.aload_n 0, 1) := by decide +kernel
theorem dX8_whyNot_57 : decode cX8_whyNot 57 = .ok (.getfield 78, 3) := by decide +kernel
theorem dX8_whyNot_60 : decode cX8_whyNot 60 = .ok (.goto 7, 3) := by decide +kernel
theorem dX8_whyNot_63 : decode cX8_whyNot 63 = .ok (.aload_n 0, 1) := by decide +kernel
theorem dX8_whyNot_64 : decode cX8_whyNot 64 = .ok (.getfield 82, 3) := by decide +kernel
theorem dX8_whyNot_67 : decode cX8_whyNot 67 = .ok (.iload_n 3, 1) := by decide +kernel
theorem dX8_whyNot_68 : decode cX8_whyNot 68 = .ok (.ifCond .ne 10, 3) := by decide +kernel
theorem dX8_whyNot_71 : decode cX8_whyNot 71 = .ok (.aload_n 0, 1) := by decide +kernel
theorem dX8_whyNot_72 : decode cX8_whyNot 72 = .ok (.getfield 82, 3) := by decide +kernel
theorem dX8_whyNot_75 : decode cX8_whyNot 75 = .ok (.goto 7, 3) := by decide +kernel
theorem dX8_whyNot_78 : decode cX8_whyNot 78 = .ok (.aload_n 0, 1) := by decide +kernel
theorem dX8_whyNot_79 : decode cX8_whyNot 79 = .ok (.getfield 78, 3) := by decide +kernel
theorem dX8_whyNot_82 : decode cX8_whyNot 82 = .ok (.invokestatic 113, 3) := by decide +kernel
theorem dX8_whyNot_85 : decode cX8_whyNot 85 = .ok (.ifCond .eq 7, 3) := by decide +kernel
theorem dX8_whyNot_88 : decode cX8_whyNot 88 = .ok (.iconst 3, 1) := by decide +kernel
theorem dX8_whyNot_89 : decode cX8_whyNot 89 = .ok (.goto 17, 3) := by decide +kernel
theorem dX8_whyNot_92 : decode cX8_whyNot 92 = .ok (.aload_n 1, 1) := by decide +kernel
theorem dX8_whyNot_93 : decode cX8_whyNot 93 = .ok (.invokestatic 55, 3) := by decide +kernel
theorem dX8_whyNot_96 : decode cX8_whyNot 96 = .ok (.bipush 120, 2) := by decide +kernel
theorem dX8_whyNot_98 : decode cX8_whyNot 98 = .ok (.if_icmp .ne 7, 3) := by decide +kernel
theorem dX8_whyNot_101 : decode cX8_whyNot 101 = .ok (.iconst 4, 1) := by decide +kernel
theorem dX8_whyNot_102 : decode cX8_whyNot 102 = .ok (.goto 4, 3) := by decide +kernel
theorem dX8_whyNot_105 : decode cX8_whyNot 105 = .ok (.iconst 0, 1) := by decide +kernel
theorem dX8_whyNot_106 : decode cX8_whyNot 106 = .ok (.ireturn, 1) := by decide +kernel
set_option maxRecDepth 20000 in
theorem ggX8_comes_X8_moves : GoodIn wsX8_comes wsX8_moves := goodIn_r _ [4] (by decide +kernel) (by decide +kernel)
set_option maxRecDepth 20000 in
theorem gX8_comes_X8_moves : GoodIn wsX8_comes (va_wsS RX8 55 yX8_moves wsX8_moves) := goodIn_app (goodIn_of _ (by decide +kernel)) ggX8_comes_X8_moves
theorem dX8_comes_0 : decode cX8_comes 0 = .ok (.aload_n 0, 1) := by decide +kernel
theorem dX8_comes_1 : decode cX8_comes 1 = .ok (.iconst 3, 1) := by decide +kernel
theorem dX8_comes_2 : decode cX8_comes 2 = .ok (.dup2, 1) := by decide +kernel
theorem dX8_comes_3 : decode cX8_comes 3 = .ok (.laload, 1) := by decide +kernel
theorem dX8_comes_4 : decode cX8_comes 4 = .ok (.lconst 1, 1) := by decide +kernel
theorem dX8_comes_5 : decode cX8_comes 5 = .ok (.ladd, 1) := by decide +kernel
theorem dX8_comes_6 : decode cX8_comes 6 = .ok (.lastore, 1) := by decide +kernel
theorem dX8_comes_7 : decode cX8_comes 7 = .ok (.aload_n 0, 1) := by decide +kernel
theorem dX8_comes_8 : decode cX8_comes 8 = .ok (.bipush 8, 2) := by decide +kernel
theorem dX8_comes_10 : decode cX8_comes 10 = .ok (.iconst 2, 1) := by decide +kernel
theorem dX8_comes_11 : decode cX8_comes 11 = .ok (.aload_n 0, 1) := by decide +kernel
theorem dX8_comes_12 : decode cX8_comes 12 = .ok (.invokestatic 55, 3) := by decide +kernel
theorem dX8_comes_15 : decode cX8_comes 15 = .ok (.imul, 1) := by decide +kernel
theorem dX8_comes_16 : decode cX8_comes 16 = .ok (.iadd, 1) := by decide +kernel
theorem dX8_comes_17 : decode cX8_comes 17 = .ok (.lload_n 1, 1) := by decide +kernel
theorem dX8_comes_18 : decode cX8_comes 18 = .ok (.lastore, 1) := by decide +kernel
theorem dX8_comes_19 : decode cX8_comes 19 = .ok (.aload_n 0, 1) := by decide +kernel
theorem dX8_comes_20 : decode cX8_comes 20 = .ok (.bipush 8, 2) := by decide +kernel
theorem dX8_comes_22 : decode cX8_comes 22 = .ok (.iconst 2, 1) := by decide +kernel
theorem dX8_comes_23 : decode cX8_comes 23 = .ok (.aload_n 0, 1) := by decide +kernel
theorem dX8_comes_24 : decode cX8_comes 24 = .ok (.invokestatic 55, 3) := by decide +kernel
theorem dX8_comes_27 : decode cX8_comes 27 = .ok (.imul, 1) := by decide +kernel
theorem dX8_comes_28 : decode cX8_comes 28 = .ok (.iadd, 1) := by decide +kernel
theorem dX8_comes_29 : decode cX8_comes 29 = .ok (.iconst 1, 1) := by decide +kernel
theorem dX8_comes_30 : decode cX8_comes 30 = .ok (.iadd, 1) := by decide +kernel
theorem dX8_comes_31 : decode cX8_comes 31 = .ok (.lload_n 3, 1) := by decide +kernel
theorem dX8_comes_32 : decode cX8_comes 32 = .ok (.lastore, 1) := by decide +kernel
theorem dX8_comes_33 : decode cX8_comes 33 = .ok (.aload_n 0, 1) := by decide +kernel
theorem dX8_comes_34 : decode cX8_comes 34 = .ok (.iconst 2, 1) := by decide +kernel
theorem dX8_comes_35 : decode cX8_comes 35 = .ok (.lconst 1, 1) := by decide +kernel
theorem dX8_comes_36 : decode cX8_comes 36 = .ok (.aload_n 0, 1) := by decide +kernel
theorem dX8_comes_37 : decode cX8_comes 37 = .ok (.iconst 2, 1) := by decide +kernel
theorem dX8_comes_38 : decode cX8_comes 38 = .ok (.laload, 1) := by decide +kernel
theorem dX8_comes_39 : decode cX8_comes 39 = .ok (.lsub, 1) := by decide +kernel
theorem dX8_comes_40 : decode cX8_comes 40 = .ok (.lastore, 1) := by decide +kernel
theorem dX8_comes_41 : decode cX8_comes 41 = .ok (.return_, 1) := by decide +kernel
set_option maxRecDepth 20000 in
theorem ggX8_playOn_X8_turnOf : GoodIn wsX8_playOn wsX8_turnOf := goodIn_r _ [7] (by decide +kernel) (by decide +kernel)
set_option maxRecDepth 20000 in
theorem gX8_playOn_X8_turnOf : GoodIn wsX8_playOn (va_wsS RX8 102 yX8_turnOf wsX8_turnOf) := goodIn_app (goodIn_of _ (by decide +kernel)) ggX8_playOn_X8_turnOf
set_option maxRecDepth 20000 in
theorem ggX8_playOn_X8_comes : GoodIn wsX8_playOn wsX8_comes := goodIn_r _ [10, 11, 12, 6, 13] (by decide +kernel) (by decide +kernel)
set_option maxRecDepth 20000 in
theorem gX8_playOn_X8_comes : GoodIn wsX8_playOn (va_wsS RX8 117 yX8_comes wsX8_comes) := goodIn_app (goodIn_of _ (by decide +kernel)) ggX8_playOn_X8_comes
theorem dX8_playOn_0 : decode cX8_playOn 0 = .ok (.aload_n 1, 1) := by decide +kernel
theorem dX8_playOn_1 : decode cX8_playOn 1 = .ok (.invokestatic 102, 3) := by decide +kernel
theorem dX8_playOn_4 : decode cX8_playOn 4 = .ok (.istore_n 2, 1) := by decide +kernel
theorem dX8_playOn_5 : decode cX8_playOn 5 = .ok (.aload_n 1, 1) := by decide +kernel
theorem dX8_playOn_6 : decode cX8_playOn 6 = .ok (.iconst 5, 1) := by decide +kernel
theorem dX8_playOn_7 : decode cX8_playOn 7 = .ok (.iload_n 2, 1) := by decide +kernel
theorem dX8_playOn_8 : decode cX8_playOn 8 = .ok (.iadd, 1) := by decide +kernel
theorem dX8_playOn_9 : decode cX8_playOn 9 = .ok (.dup2, 1) := by decide +kernel
theorem dX8_playOn_10 : decode cX8_playOn 10 = .ok (.laload, 1) := by decide +kernel
theorem dX8_playOn_11 : decode cX8_playOn 11 = .ok (.aload_n 0, 1) := by decide +kernel
theorem dX8_playOn_12 : decode cX8_playOn 12 = .ok (.getfield 85, 3) := by decide +kernel
theorem dX8_playOn_15 : decode cX8_playOn 15 = .ok (.i2l, 1) := by decide +kernel
theorem dX8_playOn_16 : decode cX8_playOn 16 = .ok (.ladd, 1) := by decide +kernel
theorem dX8_playOn_17 : decode cX8_playOn 17 = .ok (.lastore, 1) := by decide +kernel
theorem dX8_playOn_18 : decode cX8_playOn 18 = .ok (.aload_n 1, 1) := by decide +kernel
theorem dX8_playOn_19 : decode cX8_playOn 19 = .ok (.bipush 7, 2) := by decide +kernel
theorem dX8_playOn_21 : decode cX8_playOn 21 = .ok (.lconst 0, 1) := by decide +kernel
theorem dX8_playOn_22 : decode cX8_playOn 22 = .ok (.lastore, 1) := by decide +kernel
theorem dX8_playOn_23 : decode cX8_playOn 23 = .ok (.aload_n 1, 1) := by decide +kernel
theorem dX8_playOn_24 : decode cX8_playOn 24 = .ok (.iload_n 2, 1) := by decide +kernel
theorem dX8_playOn_25 : decode cX8_playOn 25 = .ok (.ifCond .ne 10, 3) := by decide +kernel
theorem dX8_playOn_28 : decode cX8_playOn 28 = .ok (.aload_n 0, 1) := by decide +kernel
theorem dX8_playOn_29 : decode cX8_playOn 29 = .ok (.getfield 78, 3) := by decide +kernel
theorem dX8_playOn_32 : decode cX8_playOn 32 = .ok (.goto 7, 3) := by decide +kernel
theorem dX8_playOn_35 : decode cX8_playOn 35 = .ok (.aload_n 0, 1) := by decide +kernel
theorem dX8_playOn_36 : decode cX8_playOn 36 = .ok (.getfield 82, 3) := by decide +kernel
theorem dX8_playOn_39 : decode cX8_playOn 39 = .ok (.iload_n 2, 1) := by decide +kernel
theorem dX8_playOn_40 : decode cX8_playOn 40 = .ok (.ifCond .ne 10, 3) := by decide +kernel
theorem dX8_playOn_43 : decode cX8_playOn 43 = .ok (.aload_n 0, 1) := by decide +kernel
theorem dX8_playOn_44 : decode cX8_playOn 44 = .ok (.getfield 82, 3) := by decide +kernel
theorem dX8_playOn_47 : decode cX8_playOn 47 = .ok (.goto 7, 3) := by decide +kernel
theorem dX8_playOn_50 : decode cX8_playOn 50 = .ok (.aload_n 0, 1) := by decide +kernel
theorem dX8_playOn_51 : decode cX8_playOn 51 = .ok (.getfield 78, 3) := by decide +kernel
theorem dX8_playOn_54 : decode cX8_playOn 54 = .ok (.invokestatic 117, 3) := by decide +kernel
theorem dX8_playOn_57 : decode cX8_playOn 57 = .ok (.aload_n 0, 1) := by decide +kernel
theorem dX8_playOn_58 : decode cX8_playOn 58 = .ok (.getfield 85, 3) := by decide +kernel
theorem dX8_playOn_61 : decode cX8_playOn 61 = .ok (.ireturn, 1) := by decide +kernel
set_option maxRecDepth 20000 in
theorem ggX8_passOn_X8_stonesOf : GoodIn wsX8_passOn wsX8_stonesOf := goodIn_r _ [4, 5, 6, 3, 7] (by decide +kernel) (by decide +kernel)
set_option maxRecDepth 20000 in
theorem gX8_passOn_X8_stonesOf : GoodIn wsX8_passOn (va_wsS RX8 105 yX8_stonesOf wsX8_stonesOf) := goodIn_app (goodIn_of _ (by decide +kernel)) ggX8_passOn_X8_stonesOf
set_option maxRecDepth 20000 in
theorem ggX8_passOn_X8_comes : GoodIn wsX8_passOn wsX8_comes := goodIn_r _ [10, 5, 6, 3, 7] (by decide +kernel) (by decide +kernel)
set_option maxRecDepth 20000 in
theorem gX8_passOn_X8_comes : GoodIn wsX8_passOn (va_wsS RX8 117 yX8_comes wsX8_comes) := goodIn_app (goodIn_of _ (by decide +kernel)) ggX8_passOn_X8_comes
theorem dX8_passOn_0 : decode cX8_passOn 0 = .ok (.aload_n 0, 1) := by decide +kernel
theorem dX8_passOn_1 : decode cX8_passOn 1 = .ok (.iconst 4, 1) := by decide +kernel
theorem dX8_passOn_2 : decode cX8_passOn 2 = .ok (.dup2, 1) := by decide +kernel
theorem dX8_passOn_3 : decode cX8_passOn 3 = .ok (.laload, 1) := by decide +kernel
theorem dX8_passOn_4 : decode cX8_passOn 4 = .ok (.lconst 1, 1) := by decide +kernel
theorem dX8_passOn_5 : decode cX8_passOn 5 = .ok (.ladd, 1) := by decide +kernel
theorem dX8_passOn_6 : decode cX8_passOn 6 = .ok (.lastore, 1) := by decide +kernel
theorem dX8_passOn_7 : decode cX8_passOn 7 = .ok (.aload_n 0, 1) := by decide +kernel
theorem dX8_passOn_8 : decode cX8_passOn 8 = .ok (.bipush 7, 2) := by decide +kernel
theorem dX8_passOn_10 : decode cX8_passOn 10 = .ok (.dup2, 1) := by decide +kernel
theorem dX8_passOn_11 : decode cX8_passOn 11 = .ok (.laload, 1) := by decide +kernel
theorem dX8_passOn_12 : decode cX8_passOn 12 = .ok (.lconst 1, 1) := by decide +kernel
theorem dX8_passOn_13 : decode cX8_passOn 13 = .ok (.ladd, 1) := by decide +kernel
theorem dX8_passOn_14 : decode cX8_passOn 14 = .ok (.lastore, 1) := by decide +kernel
theorem dX8_passOn_15 : decode cX8_passOn 15 = .ok (.aload_n 0, 1) := by decide +kernel
theorem dX8_passOn_16 : decode cX8_passOn 16 = .ok (.aload_n 0, 1) := by decide +kernel
theorem dX8_passOn_17 : decode cX8_passOn 17 = .ok (.iconst 0, 1) := by decide +kernel
theorem dX8_passOn_18 : decode cX8_passOn 18 = .ok (.invokestatic 105, 3) := by decide +kernel
theorem dX8_passOn_21 : decode cX8_passOn 21 = .ok (.aload_n 0, 1) := by decide +kernel
theorem dX8_passOn_22 : decode cX8_passOn 22 = .ok (.iconst 1, 1) := by decide +kernel
theorem dX8_passOn_23 : decode cX8_passOn 23 = .ok (.invokestatic 105, 3) := by decide +kernel
theorem dX8_passOn_26 : decode cX8_passOn 26 = .ok (.invokestatic 117, 3) := by decide +kernel
theorem dX8_passOn_29 : decode cX8_passOn 29 = .ok (.aload_n 0, 1) := by decide +kernel
theorem dX8_passOn_30 : decode cX8_passOn 30 = .ok (.iconst 4, 1) := by decide +kernel
theorem dX8_passOn_31 : decode cX8_passOn 31 = .ok (.laload, 1) := by decide +kernel
theorem dX8_passOn_32 : decode cX8_passOn 32 = .ok (.l2i, 1) := by decide +kernel
theorem dX8_passOn_33 : decode cX8_passOn 33 = .ok (.ireturn, 1) := by decide +kernel
theorem dX8_ruleOn_0 : decode cX8_ruleOn 0 = .ok (.aload_n 0, 1) := by decide +kernel
theorem dX8_ruleOn_1 : decode cX8_ruleOn 1 = .ok (.iconst 1, 1) := by decide +kernel
theorem dX8_ruleOn_2 : decode cX8_ruleOn 2 = .ok (.laload, 1) := by decide +kernel
theorem dX8_ruleOn_3 : decode cX8_ruleOn 3 = .ok (.l2i, 1) := by decide +kernel
theorem dX8_ruleOn_4 : decode cX8_ruleOn 4 = .ok (.istore_n 2, 1) := by decide +kernel
theorem dX8_ruleOn_5 : decode cX8_ruleOn 5 = .ok (.aload_n 0, 1) := by decide +kernel
theorem dX8_ruleOn_6 : decode cX8_ruleOn 6 = .ok (.iconst 1, 1) := by decide +kernel
theorem dX8_ruleOn_7 : decode cX8_ruleOn 7 = .ok (.iload_n 1, 1) := by decide +kernel
theorem dX8_ruleOn_8 : decode cX8_ruleOn 8 = .ok (.i2l, 1) := by decide +kernel
theorem dX8_ruleOn_9 : decode cX8_ruleOn 9 = .ok (.lastore, 1) := by decide +kernel
theorem dX8_ruleOn_10 : decode cX8_ruleOn 10 = .ok (.iload_n 2, 1) := by decide +kernel
theorem dX8_ruleOn_11 : decode cX8_ruleOn 11 = .ok (.ireturn, 1) := by decide +kernel
set_option maxRecDepth 20000 in
theorem ggX8_groupAt_X8_stonesOf : GoodIn wsX8_groupAt wsX8_stonesOf := goodIn_r _ [4, 5, 6, 3, 7] (by decide +kernel) (by decide +kernel)
set_option maxRecDepth 20000 in
theorem gX8_groupAt_X8_stonesOf : GoodIn wsX8_groupAt (va_wsS RX8 105 yX8_stonesOf wsX8_stonesOf) := goodIn_app (goodIn_of _ (by decide +kernel)) ggX8_groupAt_X8_stonesOf
set_option maxRecDepth 20000 in
theorem ggX8_groupAt_X8_has : GoodIn wsX8_groupAt wsX8_has := goodIn_r _ [10] (by decide +kernel) (by decide +kernel)
set_option maxRecDepth 20000 in
theorem gX8_groupAt_X8_has : GoodIn wsX8_groupAt (va_wsS RX8 58 yX8_has wsX8_has) := goodIn_app (goodIn_of _ (by decide +kernel)) ggX8_groupAt_X8_has
set_option maxRecDepth 20000 in
theorem ggX8_groupAt_X8_grown : GoodIn wsX8_groupAt wsX8_grown := goodIn_r _ [13, 14, 15, 3, 16, 17, 18, 19, 20, 21, 22, 23, 24, 25, 26] (by decide +kernel) (by decide +kernel)
set_option maxRecDepth 20000 in
theorem gX8_groupAt_X8_grown : GoodIn wsX8_groupAt (va_wsS RX8 88 yX8_grown wsX8_grown) := goodIn_app (goodIn_of _ (by decide +kernel)) ggX8_groupAt_X8_grown
theorem dX8_groupAt_0 : decode cX8_groupAt 0 = .ok (.aload_n 0, 1) := by decide +kernel
theorem dX8_groupAt_1 : decode cX8_groupAt 1 = .ok (.iconst 0, 1) := by decide +kernel
theorem dX8_groupAt_2 : decode cX8_groupAt 2 = .ok (.invokestatic 105, 3) := by decide +kernel
theorem dX8_groupAt_5 : decode cX8_groupAt 5 = .ok (.iload_n 1, 1) := by decide +kernel
theorem dX8_groupAt_6 : decode cX8_groupAt 6 = .ok (.invokestatic 58, 3) := by decide +kernel
theorem dX8_groupAt_9 : decode cX8_groupAt 9 = .ok (.ifCond .eq 7, 3) := by decide +kernel
theorem dX8_groupAt_12 : decode cX8_groupAt 12 = .ok (.iconst 0, 1) := by decide +kernel
theorem dX8_groupAt_13 : decode cX8_groupAt 13 = .ok (.goto 4, 3) := by decide +kernel
theorem dX8_groupAt_16 : decode cX8_groupAt 16 = .ok (.iconst 1, 1) := by decide +kernel
theorem dX8_groupAt_17 : decode cX8_groupAt 17 = .ok (.istore_n 2, 1) := by decide +kernel
theorem dX8_groupAt_18 : decode cX8_groupAt 18 = .ok (.aload_n 0, 1) := by decide +kernel
theorem dX8_groupAt_19 : decode cX8_groupAt 19 = .ok (.iload_n 2, 1) := by decide +kernel
theorem dX8_groupAt_20 : decode cX8_groupAt 20 = .ok (.invokestatic 105, 3) := by decide +kernel
theorem dX8_groupAt_23 : decode cX8_groupAt 23 = .ok (.iload_n 1, 1) := by decide +kernel
theorem dX8_groupAt_24 : decode cX8_groupAt 24 = .ok (.invokestatic 58, 3) := by decide +kernel
theorem dX8_groupAt_27 : decode cX8_groupAt 27 = .ok (.ifCond .eq 21, 3) := by decide +kernel
theorem dX8_groupAt_30 : decode cX8_groupAt 30 = .ok (.aload_n 0, 1) := by decide +kernel
theorem dX8_groupAt_31 : decode cX8_groupAt 31 = .ok (.iconst 0, 1) := by decide +kernel
theorem dX8_groupAt_32 : decode cX8_groupAt 32 = .ok (.laload, 1) := by decide +kernel
theorem dX8_groupAt_33 : decode cX8_groupAt 33 = .ok (.l2i, 1) := by decide +kernel
theorem dX8_groupAt_34 : decode cX8_groupAt 34 = .ok (.lconst 1, 1) := by decide +kernel
theorem dX8_groupAt_35 : decode cX8_groupAt 35 = .ok (.iload_n 1, 1) := by decide +kernel
theorem dX8_groupAt_36 : decode cX8_groupAt 36 = .ok (.lshl, 1) := by decide +kernel
theorem dX8_groupAt_37 : decode cX8_groupAt 37 = .ok (.aload_n 0, 1) := by decide +kernel
theorem dX8_groupAt_38 : decode cX8_groupAt 38 = .ok (.iload_n 2, 1) := by decide +kernel
theorem dX8_groupAt_39 : decode cX8_groupAt 39 = .ok (.invokestatic 105, 3) := by decide +kernel
theorem dX8_groupAt_42 : decode cX8_groupAt 42 = .ok (.invokestatic 88, 3) := by decide +kernel
theorem dX8_groupAt_45 : decode cX8_groupAt 45 = .ok (.goto 4, 3) := by decide +kernel
theorem dX8_groupAt_48 : decode cX8_groupAt 48 = .ok (.lconst 0, 1) := by decide +kernel
theorem dX8_groupAt_49 : decode cX8_groupAt 49 = .ok (.lreturn, 1) := by decide +kernel
set_option maxRecDepth 20000 in
theorem ggX8_freeOf_X8_stonesOf : GoodIn wsX8_freeOf wsX8_stonesOf := goodIn_r _ [4, 5, 6, 3, 7] (by decide +kernel) (by decide +kernel)
set_option maxRecDepth 20000 in
theorem gX8_freeOf_X8_stonesOf : GoodIn wsX8_freeOf (va_wsS RX8 105 yX8_stonesOf wsX8_stonesOf) := goodIn_app (goodIn_of _ (by decide +kernel)) ggX8_freeOf_X8_stonesOf
set_option maxRecDepth 20000 in
theorem ggX8_freeOf_X8_liberties : GoodIn wsX8_freeOf wsX8_liberties := goodIn_r _ [10, 11, 12, 13, 3, 14, 15, 16, 17, 18, 19, 20, 21, 22, 23] (by decide +kernel) (by decide +kernel)
set_option maxRecDepth 20000 in
theorem gX8_freeOf_X8_liberties : GoodIn wsX8_freeOf (va_wsS RX8 92 yX8_liberties wsX8_liberties) := goodIn_app (goodIn_of _ (by decide +kernel)) ggX8_freeOf_X8_liberties
theorem dX8_freeOf_0 : decode cX8_freeOf 0 = .ok (.aload_n 0, 1) := by decide +kernel
theorem dX8_freeOf_1 : decode cX8_freeOf 1 = .ok (.iconst 0, 1) := by decide +kernel
theorem dX8_freeOf_2 : decode cX8_freeOf 2 = .ok (.laload, 1) := by decide +kernel
theorem dX8_freeOf_3 : decode cX8_freeOf 3 = .ok (.l2i, 1) := by decide +kernel
theorem dX8_freeOf_4 : decode cX8_freeOf 4 = .ok (.lload_n 1, 1) := by decide +kernel
theorem dX8_freeOf_5 : decode cX8_freeOf 5 = .ok (.aload_n 0, 1) := by decide +kernel
theorem dX8_freeOf_6 : decode cX8_freeOf 6 = .ok (.iconst 0, 1) := by decide +kernel
theorem dX8_freeOf_7 : decode cX8_freeOf 7 = .ok (.invokestatic 105, 3) := by decide +kernel
theorem dX8_freeOf_10 : decode cX8_freeOf 10 = .ok (.aload_n 0, 1) := by decide +kernel
theorem dX8_freeOf_11 : decode cX8_freeOf 11 = .ok (.iconst 1, 1) := by decide +kernel
theorem dX8_freeOf_12 : decode cX8_freeOf 12 = .ok (.invokestatic 105, 3) := by decide +kernel
theorem dX8_freeOf_15 : decode cX8_freeOf 15 = .ok (.lor, 1) := by decide +kernel
theorem dX8_freeOf_16 : decode cX8_freeOf 16 = .ok (.invokestatic 92, 3) := by decide +kernel
theorem dX8_freeOf_19 : decode cX8_freeOf 19 = .ok (.lreturn, 1) := by decide +kernel
set_option maxRecDepth 20000 in
theorem ggX8_groups_X8_grown : GoodIn wsX8_groups wsX8_grown := goodIn_r _ [5, 6, 7, 4, 8, 9, 10, 11, 1, 12, 13, 14, 15, 16, 17] (by decide +kernel) (by decide +kernel)
set_option maxRecDepth 20000 in
theorem gX8_groups_X8_grown : GoodIn wsX8_groups (va_wsS RX8 88 yX8_grown wsX8_grown) := goodIn_app (goodIn_of _ (by decide +kernel)) ggX8_groups_X8_grown
set_option maxRecDepth 20000 in
theorem ggX8_groups_X8_liberties : GoodIn wsX8_groups wsX8_liberties := goodIn_r _ [20, 1, 6, 7, 4, 8, 9, 10, 11, 12, 13, 14, 15, 16, 17] (by decide +kernel) (by decide +kernel)
set_option maxRecDepth 20000 in
theorem gX8_groups_X8_liberties : GoodIn wsX8_groups (va_wsS RX8 92 yX8_liberties wsX8_liberties) := goodIn_app (goodIn_of _ (by decide +kernel)) ggX8_groups_X8_liberties
set_option maxRecDepth 20000 in
theorem ggX8_groups_X8_bits : GoodIn wsX8_groups wsX8_bits := goodIn_r _ [23, 24, 25, 4, 26] (by decide +kernel) (by decide +kernel)
set_option maxRecDepth 20000 in
theorem gX8_groups_X8_bits : GoodIn wsX8_groups (va_wsS RX8 95 yX8_bits wsX8_bits) := goodIn_app (goodIn_of _ (by decide +kernel)) ggX8_groups_X8_bits
theorem dX8_groups_0 : decode cX8_groups 0 = .ok (.iconst 0, 1) := by decide +kernel
theorem dX8_groups_1 : decode cX8_groups 1 = .ok (.istore 6, 2) := by decide +kernel
theorem dX8_groups_3 : decode cX8_groups 3 = .ok (.lload_n 1, 1) := by decide +kernel
theorem dX8_groups_4 : decode cX8_groups 4 = .ok (.lstore 7, 2) := by decide +kernel
theorem dX8_groups_6 : decode cX8_groups 6 = .ok (.lload 7, 2) := by decide +kernel
theorem dX8_groups_8 : decode cX8_groups 8 = .ok (.lconst 0, 1) := by decide +kernel
theorem dX8_groups_9 : decode cX8_groups 9 = .ok (.lcmp, 1) := by decide +kernel
theorem dX8_groups_10 : decode cX8_groups 10 = .ok (.ifCond .eq 61, 3) := by decide +kernel
theorem dX8_groups_13 : decode cX8_groups 13 = .ok (.iload_n 0, 1) := by decide +kernel
theorem dX8_groups_14 : decode cX8_groups 14 = .ok (.lload 7, 2) := by decide +kernel
theorem dX8_groups_16 : decode cX8_groups 16 = .ok (.lload 7, 2) := by decide +kernel
theorem dX8_groups_18 : decode cX8_groups 18 = .ok (.lneg, 1) := by decide +kernel
theorem dX8_groups_19 : decode cX8_groups 19 = .ok (.land, 1) := by decide +kernel
theorem dX8_groups_20 : decode cX8_groups 20 = .ok (.lload_n 1, 1) := by decide +kernel
theorem dX8_groups_21 : decode cX8_groups 21 = .ok (.invokestatic 88, 3) := by decide +kernel
theorem dX8_groups_24 : decode cX8_groups 24 = .ok (.lstore 9, 2) := by decide +kernel
theorem dX8_groups_26 : decode cX8_groups 26 = .ok (.lload 7, 2) := by decide +kernel
theorem dX8_groups_28 : decode cX8_groups 28 = .ok (.lload 9, 2) := by decide +kernel
theorem dX8_groups_30 : decode cX8_groups 30 = .ok (.ldc2_w 66, 3) := by decide +kernel
theorem dX8_groups_33 : decode cX8_groups 33 = .ok (.lxor, 1) := by decide +kernel
theorem dX8_groups_34 : decode cX8_groups 34 = .ok (.land, 1) := by decide +kernel
theorem dX8_groups_35 : decode cX8_groups 35 = .ok (.lstore 7, 2) := by decide +kernel
theorem dX8_groups_37 : decode cX8_groups 37 = .ok (.iload 6, 2) := by decide +kernel
theorem dX8_groups_39 : decode cX8_groups 39 = .ok (.iload 5, 2) := by decide +kernel
theorem dX8_groups_41 : decode cX8_groups 41 = .ok (.ifCond .eq 19, 3) := by decide +kernel
theorem dX8_groups_44 : decode cX8_groups 44 = .ok (.iload_n 0, 1) := by decide +kernel
theorem dX8_groups_45 : decode cX8_groups 45 = .ok (.lload 9, 2) := by decide +kernel
theorem dX8_groups_47 : decode cX8_groups 47 = .ok (.lload_n 1, 1) := by decide +kernel
theorem dX8_groups_48 : decode cX8_groups 48 = .ok (.lload_n 3, 1) := by decide +kernel
theorem dX8_groups_49 : decode cX8_groups 49 = .ok (.lor, 1) := by decide +kernel
theorem dX8_groups_50 : decode cX8_groups 50 = .ok (.invokestatic 92, 3) := by decide +kernel
theorem dX8_groups_53 : decode cX8_groups 53 = .ok (.invokestatic 95, 3) := by decide +kernel
theorem dX8_groups_56 : decode cX8_groups 56 = .ok (.iconst 1, 1) := by decide +kernel
theorem dX8_groups_57 : decode cX8_groups 57 = .ok (.if_icmp .ne 7, 3) := by decide +kernel
theorem dX8_groups_60 : decode cX8_groups 60 = .ok (.iconst 1, 1) := by decide +kernel
theorem dX8_groups_61 : decode cX8_groups 61 = .ok (.goto 4, 3) := by decide +kernel
theorem dX8_groups_64 : decode cX8_groups 64 = .ok (.iconst 0, 1) := by decide +kernel
theorem dX8_groups_65 : decode cX8_groups 65 = .ok (.iadd, 1) := by decide +kernel
theorem dX8_groups_66 : decode cX8_groups 66 = .ok (.istore 6, 2) := by decide +kernel
theorem dX8_groups_68 : decode cX8_groups 68 = .ok (.goto (-62), 3) := by decide +kernel
theorem dX8_groups_71 : decode cX8_groups 71 = .ok (.iload 6, 2) := by decide +kernel
theorem dX8_groups_73 : decode cX8_groups 73 = .ok (.ireturn, 1) := by decide +kernel
set_option maxRecDepth 20000 in
theorem ggX8_groupsOf_X8_stonesOf : GoodIn wsX8_groupsOf wsX8_stonesOf := goodIn_r _ [4, 5, 6, 3, 7] (by decide +kernel) (by decide +kernel)
set_option maxRecDepth 20000 in
theorem gX8_groupsOf_X8_stonesOf : GoodIn wsX8_groupsOf (va_wsS RX8 105 yX8_stonesOf wsX8_stonesOf) := goodIn_app (goodIn_of _ (by decide +kernel)) ggX8_groupsOf_X8_stonesOf
set_option maxRecDepth 20000 in
theorem ggX8_groupsOf_X8_groups : GoodIn wsX8_groupsOf wsX8_groups := goodIn_r _ [10, 11, 12, 13, 3, 14, 15, 16, 17, 18, 19, 20, 21, 22, 23, 24, 25, 26, 27, 28, 29, 30, 31, 32, 33, 34, 35] (by decide +kernel) (by decide +kernel)
set_option maxRecDepth 20000 in
theorem gX8_groupsOf_X8_groups : GoodIn wsX8_groupsOf (va_wsS RX8 121 yX8_groups wsX8_groups) := goodIn_app (goodIn_of _ (by decide +kernel)) ggX8_groupsOf_X8_groups
theorem dX8_groupsOf_0 : decode cX8_groupsOf 0 = .ok (.aload_n 0, 1) := by decide +kernel
theorem dX8_groupsOf_1 : decode cX8_groupsOf 1 = .ok (.iconst 0, 1) := by decide +kernel
theorem dX8_groupsOf_2 : decode cX8_groupsOf 2 = .ok (.laload, 1) := by decide +kernel
theorem dX8_groupsOf_3 : decode cX8_groupsOf 3 = .ok (.l2i, 1) := by decide +kernel
theorem dX8_groupsOf_4 : decode cX8_groupsOf 4 = .ok (.aload_n 0, 1) := by decide +kernel
theorem dX8_groupsOf_5 : decode cX8_groupsOf 5 = .ok (.iload_n 1, 1) := by decide +kernel
theorem dX8_groupsOf_6 : decode cX8_groupsOf 6 = .ok (.invokestatic 105, 3) := by decide +kernel
theorem dX8_groupsOf_9 : decode cX8_groupsOf 9 = .ok (.aload_n 0, 1) := by decide +kernel
theorem dX8_groupsOf_10 : decode cX8_groupsOf 10 = .ok (.iconst 1, 1) := by decide +kernel
theorem dX8_groupsOf_11 : decode cX8_groupsOf 11 = .ok (.iload_n 1, 1) := by decide +kernel
theorem dX8_groupsOf_12 : decode cX8_groupsOf 12 = .ok (.isub, 1) := by decide +kernel
theorem dX8_groupsOf_13 : decode cX8_groupsOf 13 = .ok (.invokestatic 105, 3) := by decide +kernel
theorem dX8_groupsOf_16 : decode cX8_groupsOf 16 = .ok (.iload_n 2, 1) := by decide +kernel
theorem dX8_groupsOf_17 : decode cX8_groupsOf 17 = .ok (.invokestatic 121, 3) := by decide +kernel
theorem dX8_groupsOf_20 : decode cX8_groupsOf 20 = .ok (.ireturn, 1) := by decide +kernel
set_option maxRecDepth 20000 in
theorem ggX8_eye_X8_near : GoodIn wsX8_eye wsX8_near := goodIn_r _ [5, 6, 7, 4, 8, 1, 9, 10, 11, 12, 13, 14] (by decide +kernel) (by decide +kernel)
set_option maxRecDepth 20000 in
theorem gX8_eye_X8_near : GoodIn wsX8_eye (va_wsS RX8 75 yX8_near wsX8_near) := goodIn_app (goodIn_of _ (by decide +kernel)) ggX8_eye_X8_near
set_option maxRecDepth 20000 in
theorem ggX8_eye_X8_stonesOf : GoodIn wsX8_eye wsX8_stonesOf := goodIn_r _ [17, 18, 19, 4, 20] (by decide +kernel) (by decide +kernel)
set_option maxRecDepth 20000 in
theorem gX8_eye_X8_stonesOf : GoodIn wsX8_eye (va_wsS RX8 105 yX8_stonesOf wsX8_stonesOf) := goodIn_app (goodIn_of _ (by decide +kernel)) ggX8_eye_X8_stonesOf
set_option maxRecDepth 20000 in
theorem ggX8_eye_X8_has : GoodIn wsX8_eye wsX8_has := goodIn_r _ [23] (by decide +kernel) (by decide +kernel)
set_option maxRecDepth 20000 in
theorem gX8_eye_X8_has : GoodIn wsX8_eye (va_wsS RX8 58 yX8_has wsX8_has) := goodIn_app (goodIn_of _ (by decide +kernel)) ggX8_eye_X8_has
set_option maxRecDepth 20000 in
theorem ggX8_eye_X8_corners : GoodIn wsX8_eye wsX8_corners := goodIn_r _ [26, 6, 7, 4, 8, 1, 9, 10, 11, 12, 13, 14] (by decide +kernel) (by decide +kernel)
set_option maxRecDepth 20000 in
theorem gX8_eye_X8_corners : GoodIn wsX8_eye (va_wsS RX8 125 yX8_corners wsX8_corners) := goodIn_app (goodIn_of _ (by decide +kernel)) ggX8_eye_X8_corners
set_option maxRecDepth 20000 in
theorem ggX8_eye_X8_bits : GoodIn wsX8_eye wsX8_bits := goodIn_r _ [29, 21, 22, 4, 23] (by decide +kernel) (by decide +kernel)
set_option maxRecDepth 20000 in
theorem gX8_eye_X8_bits : GoodIn wsX8_eye (va_wsS RX8 95 yX8_bits wsX8_bits) := goodIn_app (goodIn_of _ (by decide +kernel)) ggX8_eye_X8_bits
theorem dX8_eye_0 : decode cX8_eye 0 = .ok (.aload_n 0, 1) := by decide +kernel
theorem dX8_eye_1 : decode cX8_eye 1 = .ok (.iconst 0, 1) := by decide +kernel
theorem dX8_eye_2 : decode cX8_eye 2 = .ok (.laload, 1) := by decide +kernel
theorem dX8_eye_3 : decode cX8_eye 3 = .ok (.l2i, 1) := by decide +kernel
theorem dX8_eye_4 : decode cX8_eye 4 = .ok (.istore_n 3, 1) := by decide +kernel
theorem dX8_eye_5 : decode cX8_eye 5 = .ok (.iload_n 3, 1) := by decide +kernel
theorem dX8_eye_6 : decode cX8_eye 6 = .ok (.lconst 1, 1) := by decide +kernel
theorem dX8_eye_7 : decode cX8_eye 7 = .ok (.iload_n 1, 1) := by decide +kernel
theorem dX8_eye_8 : decode cX8_eye 8 = .ok (.lshl, 1) := by decide +kernel
theorem dX8_eye_9 : decode cX8_eye 9 = .ok (.invokestatic 75, 3) := by decide +kernel
theorem dX8_eye_12 : decode cX8_eye 12 = .ok (.lstore 4, 2) := by decide +kernel
theorem dX8_eye_14 : decode cX8_eye 14 = .ok (.aload_n 0, 1) := by decide +kernel
theorem dX8_eye_15 : decode cX8_eye 15 = .ok (.iconst 0, 1) := by decide +kernel
theorem dX8_eye_16 : decode cX8_eye 16 = .ok (.invokestatic 105, 3) := by decide +kernel
theorem dX8_eye_19 : decode cX8_eye 19 = .ok (.aload_n 0, 1) := by decide +kernel
theorem dX8_eye_20 : decode cX8_eye 20 = .ok (.iconst 1, 1) := by decide +kernel
theorem dX8_eye_21 : decode cX8_eye 21 = .ok (.invokestatic 105, 3) := by decide +kernel
theorem dX8_eye_24 : decode cX8_eye 24 = .ok (.lor, 1) := by decide +kernel
theorem dX8_eye_25 : decode cX8_eye 25 = .ok (.iload_n 1, 1) := by decide +kernel
theorem dX8_eye_26 : decode cX8_eye 26 = .ok (.invokestatic 58, 3) := by decide +kernel
theorem dX8_eye_29 : decode cX8_eye 29 = .ok (.ifCond .ne 20, 3) := by decide +kernel
theorem dX8_eye_32 : decode cX8_eye 32 = .ok (.lload 4, 2) := by decide +kernel
theorem dX8_eye_34 : decode cX8_eye 34 = .ok (.aload_n 0, 1) := by decide +kernel
theorem dX8_eye_35 : decode cX8_eye 35 = .ok (.iload_n 2, 1) := by decide +kernel
theorem dX8_eye_36 : decode cX8_eye 36 = .ok (.invokestatic 105, 3) := by decide +kernel
theorem dX8_eye_39 : decode cX8_eye 39 = .ok (.ldc2_w 66, 3) := by decide +kernel
theorem dX8_eye_42 : decode cX8_eye 42 = .ok (.lxor, 1) := by decide +kernel
theorem dX8_eye_43 : decode cX8_eye 43 = .ok (.land, 1) := by decide +kernel
theorem dX8_eye_44 : decode cX8_eye 44 = .ok (.lconst 0, 1) := by decide +kernel
theorem dX8_eye_45 : decode cX8_eye 45 = .ok (.lcmp, 1) := by decide +kernel
theorem dX8_eye_46 : decode cX8_eye 46 = .ok (.ifCond .eq 5, 3) := by decide +kernel
theorem dX8_eye_49 : decode cX8_eye 49 = .ok (.iconst 0, 1) := by decide +kernel
theorem dX8_eye_50 : decode cX8_eye 50 = .ok (.ireturn, 1) := by decide +kernel
theorem dX8_eye_51 : decode cX8_eye 51 = .ok (.iload_n 3, 1) := by decide +kernel
theorem dX8_eye_52 : decode cX8_eye 52 = .ok (.iload_n 1, 1) := by decide +kernel
theorem dX8_eye_53 : decode cX8_eye 53 = .ok (.invokestatic 125, 3) := by decide +kernel
theorem dX8_eye_56 : decode cX8_eye 56 = .ok (.lstore 6, 2) := by decide +kernel
theorem dX8_eye_58 : decode cX8_eye 58 = .ok (.lload 6, 2) := by decide +kernel
theorem dX8_eye_60 : decode cX8_eye 60 = .ok (.aload_n 0, 1) := by decide +kernel
theorem dX8_eye_61 : decode cX8_eye 61 = .ok (.iconst 1, 1) := by decide +kernel
theorem dX8_eye_62 : decode cX8_eye 62 = .ok (.iload_n 2, 1) := by decide +kernel
theorem dX8_eye_63 : decode cX8_eye 63 = .ok (.isub, 1) := by decide +kernel
theorem dX8_eye_64 : decode cX8_eye 64 = .ok (.invokestatic 105, 3) := by decide +kernel
theorem dX8_eye_67 : decode cX8_eye 67 = .ok (.land, 1) := by decide +kernel
theorem dX8_eye_68 : decode cX8_eye 68 = .ok (.invokestatic 95, 3) := by decide +kernel
theorem dX8_eye_71 : decode cX8_eye 71 = .ok (.istore 8, 2) := by decide +kernel
theorem dX8_eye_73 : decode cX8_eye 73 = .ok (.iload 8, 2) := by decide +kernel
theorem dX8_eye_75 : decode cX8_eye 75 = .ok (.iconst 2, 1) := by decide +kernel
theorem dX8_eye_76 : decode cX8_eye 76 = .ok (.if_icmp .ge 18, 3) := by decide +kernel
theorem dX8_eye_79 : decode cX8_eye 79 = .ok (.iload 8, 2) := by decide +kernel
theorem dX8_eye_81 : decode cX8_eye 81 = .ok (.iconst 1, 1) := by decide +kernel
theorem dX8_eye_82 : decode cX8_eye 82 = .ok (.if_icmp .ne 16, 3) := by decide +kernel
theorem dX8_eye_85 : decode cX8_eye 85 = .ok (.lload 6, 2) := by decide +kernel
theorem dX8_eye_87 : decode cX8_eye 87 = .ok (.invokestatic 95, 3) := by decide +kernel
theorem dX8_eye_90 : decode cX8_eye 90 = .ok (.iconst 4, 1) := by decide +kernel
theorem dX8_eye_91 : decode cX8_eye 91 = .ok (.if_icmp .ge 7, 3) := by decide +kernel
theorem dX8_eye_94 : decode cX8_eye 94 = .ok (.iconst 1, 1) := by decide +kernel
theorem dX8_eye_95 : decode cX8_eye 95 = .ok (.goto 4, 3) := by decide +kernel
theorem dX8_eye_98 : decode cX8_eye 98 = .ok (.iconst 2, 1) := by decide +kernel
theorem dX8_eye_99 : decode cX8_eye 99 = .ok (.ireturn, 1) := by decide +kernel
set_option maxRecDepth 20000 in
theorem ggX8_eyes_X8_points : GoodIn wsX8_eyes wsX8_points := goodIn_r _ [4] (by decide +kernel) (by decide +kernel)
set_option maxRecDepth 20000 in
theorem gX8_eyes_X8_points : GoodIn wsX8_eyes (va_wsS RX8 47 yX8_points wsX8_points) := goodIn_app (goodIn_of _ (by decide +kernel)) ggX8_eyes_X8_points
set_option maxRecDepth 20000 in
theorem ggX8_eyes_X8_eye : GoodIn wsX8_eyes wsX8_eye := goodIn_r _ [7, 8, 9, 10, 3, 11, 12, 13, 14, 15, 16, 17, 18, 19, 20, 21, 22, 23, 24, 25, 26, 27, 28, 29, 30, 31, 32, 33, 34, 35] (by decide +kernel) (by decide +kernel)
set_option maxRecDepth 20000 in
theorem gX8_eyes_X8_eye : GoodIn wsX8_eyes (va_wsS RX8 128 yX8_eye wsX8_eye) := goodIn_app (goodIn_of _ (by decide +kernel)) ggX8_eyes_X8_eye
theorem dX8_eyes_0 : decode cX8_eyes 0 = .ok (.iconst 0, 1) := by decide +kernel
theorem dX8_eyes_1 : decode cX8_eyes 1 = .ok (.istore_n 3, 1) := by decide +kernel
theorem dX8_eyes_2 : decode cX8_eyes 2 = .ok (.iconst 0, 1) := by decide +kernel
theorem dX8_eyes_3 : decode cX8_eyes 3 = .ok (.istore 4, 2) := by decide +kernel
theorem dX8_eyes_5 : decode cX8_eyes 5 = .ok (.iload 4, 2) := by decide +kernel
theorem dX8_eyes_7 : decode cX8_eyes 7 = .ok (.aload_n 0, 1) := by decide +kernel
theorem dX8_eyes_8 : decode cX8_eyes 8 = .ok (.invokestatic 47, 3) := by decide +kernel
theorem dX8_eyes_11 : decode cX8_eyes 11 = .ok (.if_icmp .ge 28, 3) := by decide +kernel
theorem dX8_eyes_14 : decode cX8_eyes 14 = .ok (.iload_n 3, 1) := by decide +kernel
theorem dX8_eyes_15 : decode cX8_eyes 15 = .ok (.aload_n 0, 1) := by decide +kernel
theorem dX8_eyes_16 : decode cX8_eyes 16 = .ok (.iload 4, 2) := by decide +kernel
theorem dX8_eyes_18 : decode cX8_eyes 18 = .ok (.iload_n 1, 1) := by decide +kernel
theorem dX8_eyes_19 : decode cX8_eyes 19 = .ok (.invokestatic 128, 3) := by decide +kernel
theorem dX8_eyes_22 : decode cX8_eyes 22 = .ok (.iload_n 2, 1) := by decide +kernel
theorem dX8_eyes_23 : decode cX8_eyes 23 = .ok (.if_icmp .ne 7, 3) := by decide +kernel
theorem dX8_eyes_26 : decode cX8_eyes 26 = .ok (.iconst 1, 1) := by decide +kernel
theorem dX8_eyes_27 : decode cX8_eyes 27 = .ok (.goto 4, 3) := by decide +kernel
theorem dX8_eyes_30 : decode cX8_eyes 30 = .ok (.iconst 0, 1) := by decide +kernel
theorem dX8_eyes_31 : decode cX8_eyes 31 = .ok (.iadd, 1) := by decide +kernel
theorem dX8_eyes_32 : decode cX8_eyes 32 = .ok (.istore_n 3, 1) := by decide +kernel
theorem dX8_eyes_33 : decode cX8_eyes 33 = .ok (.iinc 4 1, 3) := by decide +kernel
theorem dX8_eyes_36 : decode cX8_eyes 36 = .ok (.goto (-31), 3) := by decide +kernel
theorem dX8_eyes_39 : decode cX8_eyes 39 = .ok (.iload_n 3, 1) := by decide +kernel
theorem dX8_eyes_40 : decode cX8_eyes 40 = .ok (.ireturn, 1) := by decide +kernel
set_option maxRecDepth 20000 in
theorem ggX8_partAt_X8_points : GoodIn wsX8_partAt wsX8_points := goodIn_r _ [5] (by decide +kernel) (by decide +kernel)
set_option maxRecDepth 20000 in
theorem gX8_partAt_X8_points : GoodIn wsX8_partAt (va_wsS RX8 47 yX8_points wsX8_points) := goodIn_app (goodIn_of _ (by decide +kernel)) ggX8_partAt_X8_points
set_option maxRecDepth 20000 in
theorem ggX8_partAt_X8_stonesOf : GoodIn wsX8_partAt wsX8_stonesOf := goodIn_r _ [8, 9, 10, 4, 11] (by decide +kernel) (by decide +kernel)
set_option maxRecDepth 20000 in
theorem gX8_partAt_X8_stonesOf : GoodIn wsX8_partAt (va_wsS RX8 105 yX8_stonesOf wsX8_stonesOf) := goodIn_app (goodIn_of _ (by decide +kernel)) ggX8_partAt_X8_stonesOf
set_option maxRecDepth 20000 in
theorem ggX8_partAt_X8_grown : GoodIn wsX8_partAt wsX8_grown := goodIn_r _ [14, 15, 16, 4, 17, 18, 19, 20, 1, 21, 22, 23, 24, 25, 26] (by decide +kernel) (by decide +kernel)
set_option maxRecDepth 20000 in
theorem gX8_partAt_X8_grown : GoodIn wsX8_partAt (va_wsS RX8 88 yX8_grown wsX8_grown) := goodIn_app (goodIn_of _ (by decide +kernel)) ggX8_partAt_X8_grown
theorem dX8_partAt_0 : decode cX8_partAt 0 = .ok (.aload_n 0, 1) := by decide +kernel
theorem dX8_partAt_1 : decode cX8_partAt 1 = .ok (.invokestatic 47, 3) := by decide +kernel
theorem dX8_partAt_4 : decode cX8_partAt 4 = .ok (.istore_n 3, 1) := by decide +kernel
theorem dX8_partAt_5 : decode cX8_partAt 5 = .ok (.aload_n 0, 1) := by decide +kernel
theorem dX8_partAt_6 : decode cX8_partAt 6 = .ok (.iconst 0, 1) := by decide +kernel
theorem dX8_partAt_7 : decode cX8_partAt 7 = .ok (.laload, 1) := by decide +kernel
theorem dX8_partAt_8 : decode cX8_partAt 8 = .ok (.l2i, 1) := by decide +kernel
theorem dX8_partAt_9 : decode cX8_partAt 9 = .ok (.lload_n 1, 1) := by decide +kernel
theorem dX8_partAt_10 : decode cX8_partAt 10 = .ok (.aload_n 0, 1) := by decide +kernel
theorem dX8_partAt_11 : decode cX8_partAt 11 = .ok (.iconst 0, 1) := by decide +kernel
theorem dX8_partAt_12 : decode cX8_partAt 12 = .ok (.invokestatic 105, 3) := by decide +kernel
theorem dX8_partAt_15 : decode cX8_partAt 15 = .ok (.aload_n 0, 1) := by decide +kernel
theorem dX8_partAt_16 : decode cX8_partAt 16 = .ok (.iconst 1, 1) := by decide +kernel
theorem dX8_partAt_17 : decode cX8_partAt 17 = .ok (.invokestatic 105, 3) := by decide +kernel
theorem dX8_partAt_20 : decode cX8_partAt 20 = .ok (.lor, 1) := by decide +kernel
theorem dX8_partAt_21 : decode cX8_partAt 21 = .ok (.ldc2_w 66, 3) := by decide +kernel
theorem dX8_partAt_24 : decode cX8_partAt 24 = .ok (.lxor, 1) := by decide +kernel
theorem dX8_partAt_25 : decode cX8_partAt 25 = .ok (.lconst 1, 1) := by decide +kernel
theorem dX8_partAt_26 : decode cX8_partAt 26 = .ok (.iload_n 3, 1) := by decide +kernel
theorem dX8_partAt_27 : decode cX8_partAt 27 = .ok (.lshl, 1) := by decide +kernel
theorem dX8_partAt_28 : decode cX8_partAt 28 = .ok (.lconst 1, 1) := by decide +kernel
theorem dX8_partAt_29 : decode cX8_partAt 29 = .ok (.lsub, 1) := by decide +kernel
theorem dX8_partAt_30 : decode cX8_partAt 30 = .ok (.land, 1) := by decide +kernel
theorem dX8_partAt_31 : decode cX8_partAt 31 = .ok (.invokestatic 88, 3) := by decide +kernel
theorem dX8_partAt_34 : decode cX8_partAt 34 = .ok (.lreturn, 1) := by decide +kernel
set_option maxRecDepth 20000 in
theorem ggX8_area_X8_stonesOf : GoodIn wsX8_area wsX8_stonesOf := goodIn_r _ [5, 6, 7, 4, 8] (by decide +kernel) (by decide +kernel)
set_option maxRecDepth 20000 in
theorem gX8_area_X8_stonesOf : GoodIn wsX8_area (va_wsS RX8 105 yX8_stonesOf wsX8_stonesOf) := goodIn_app (goodIn_of _ (by decide +kernel)) ggX8_area_X8_stonesOf
set_option maxRecDepth 20000 in
theorem ggX8_area_X8_bits : GoodIn wsX8_area wsX8_bits := goodIn_r _ [11, 12, 13, 4, 14] (by decide +kernel) (by decide +kernel)
set_option maxRecDepth 20000 in
theorem gX8_area_X8_bits : GoodIn wsX8_area (va_wsS RX8 95 yX8_bits wsX8_bits) := goodIn_app (goodIn_of _ (by decide +kernel)) ggX8_area_X8_bits
set_option maxRecDepth 20000 in
theorem ggX8_area_X8_points : GoodIn wsX8_area wsX8_points := goodIn_r _ [17] (by decide +kernel) (by decide +kernel)
set_option maxRecDepth 20000 in
theorem gX8_area_X8_points : GoodIn wsX8_area (va_wsS RX8 47 yX8_points wsX8_points) := goodIn_app (goodIn_of _ (by decide +kernel)) ggX8_area_X8_points
set_option maxRecDepth 20000 in
theorem ggX8_area_X8_partAt : GoodIn wsX8_area wsX8_partAt := goodIn_r _ [20, 1, 15, 16, 4, 17, 2, 3, 5, 6, 7, 8, 21, 22, 23, 24, 25, 26, 27, 28, 29, 30, 31, 32, 33, 34, 35] (by decide +kernel) (by decide +kernel)
set_option maxRecDepth 20000 in
theorem gX8_area_X8_partAt : GoodIn wsX8_area (va_wsS RX8 132 yX8_partAt wsX8_partAt) := goodIn_app (goodIn_of _ (by decide +kernel)) ggX8_area_X8_partAt
set_option maxRecDepth 20000 in
theorem ggX8_area_X8_near : GoodIn wsX8_area wsX8_near := goodIn_r _ [26, 27, 28, 4, 29, 1, 30, 31, 32, 33, 34, 35] (by decide +kernel) (by decide +kernel)
set_option maxRecDepth 20000 in
theorem gX8_area_X8_near : GoodIn wsX8_area (va_wsS RX8 75 yX8_near wsX8_near) := goodIn_app (goodIn_of _ (by decide +kernel)) ggX8_area_X8_near
theorem dX8_area_0 : decode cX8_area 0 = .ok (.aload_n 0, 1) := by decide +kernel
theorem dX8_area_1 : decode cX8_area 1 = .ok (.iconst 0, 1) := by decide +kernel
theorem dX8_area_2 : decode cX8_area 2 = .ok (.laload, 1) := by decide +kernel
theorem dX8_area_3 : decode cX8_area 3 = .ok (.l2i, 1) := by decide +kernel
theorem dX8_area_4 : decode cX8_area 4 = .ok (.istore_n 2, 1) := by decide +kernel
theorem dX8_area_5 : decode cX8_area 5 = .ok (.aload_n 0, 1) := by decide +kernel
theorem dX8_area_6 : decode cX8_area 6 = .ok (.iload_n 1, 1) := by decide +kernel
theorem dX8_area_7 : decode cX8_area 7 = .ok (.invokestatic 105, 3) := by decide +kernel
theorem dX8_area_10 : decode cX8_area 10 = .ok (.invokestatic 95, 3) := by decide +kernel
theorem dX8_area_13 : decode cX8_area 13 = .ok (.istore_n 3, 1) := by decide +kernel
theorem dX8_area_14 : decode cX8_area 14 = .ok (.aload_n 0, 1) := by decide +kernel
theorem dX8_area_15 : decode cX8_area 15 = .ok (.iconst 0, 1) := by decide +kernel
theorem dX8_area_16 : decode cX8_area 16 = .ok (.invokestatic 105, 3) := by decide +kernel
theorem dX8_area_19 : decode cX8_area 19 = .ok (.aload_n 0, 1) := by decide +kernel
theorem dX8_area_20 : decode cX8_area 20 = .ok (.iconst 1, 1) := by decide +kernel
theorem dX8_area_21 : decode cX8_area 21 = .ok (.invokestatic 105, 3) := by decide +kernel
theorem dX8_area_24 : decode cX8_area 24 = .ok (.lor, 1) := by decide +kernel
theorem dX8_area_25 : decode cX8_area 25 = .ok (.ldc2_w 66, 3) := by decide +kernel
theorem dX8_area_28 : decode cX8_area 28 = .ok (.lxor, 1) := by decide +kernel
theorem dX8_area_29 : decode cX8_area 29 = .ok (.lconst 1, 1) := by decide +kernel
theorem dX8_area_30 : decode cX8_area 30 = .ok (.aload_n 0, 1) := by decide +kernel
theorem dX8_area_31 : decode cX8_area 31 = .ok (.invokestatic 47, 3) := by decide +kernel
theorem dX8_area_34 : decode cX8_area 34 = .ok (.lshl, 1) := by decide +kernel
theorem dX8_area_35 : decode cX8_area 35 = .ok (.lconst 1, 1) := by decide +kernel
theorem dX8_area_36 : decode cX8_area 36 = .ok (.lsub, 1) := by decide +kernel
theorem dX8_area_37 : decode cX8_area 37 = .ok (.land, 1) := by decide +kernel
theorem dX8_area_38 : decode cX8_area 38 = .ok (.lstore 4, 2) := by decide +kernel
theorem dX8_area_40 : decode cX8_area 40 = .ok (.lload 4, 2) := by decide +kernel
theorem dX8_area_42 : decode cX8_area 42 = .ok (.lconst 0, 1) := by decide +kernel
theorem dX8_area_43 : decode cX8_area 43 = .ok (.lcmp, 1) := by decide +kernel
theorem dX8_area_44 : decode cX8_area 44 = .ok (.ifCond .eq 84, 3) := by decide +kernel
theorem dX8_area_47 : decode cX8_area 47 = .ok (.aload_n 0, 1) := by decide +kernel
theorem dX8_area_48 : decode cX8_area 48 = .ok (.lload 4, 2) := by decide +kernel
theorem dX8_area_50 : decode cX8_area 50 = .ok (.lload 4, 2) := by decide +kernel
theorem dX8_area_52 : decode cX8_area 52 = .ok (.lneg, 1) := by decide +kernel
theorem dX8_area_53 : decode cX8_area 53 = .ok (.land, 1) := by decide +kernel
theorem dX8_area_54 : decode cX8_area 54 = .ok (.invokestatic 132, 3) := by decide +kernel
theorem dX8_area_57 : decode cX8_area 57 = .ok (.lstore 6, 2) := by decide +kernel
theorem dX8_area_59 : decode cX8_area 59 = .ok (.lload 4, 2) := by decide +kernel
theorem dX8_area_61 : decode cX8_area 61 = .ok (.lload 6, 2) := by decide +kernel
theorem dX8_area_63 : decode cX8_area 63 = .ok (.ldc2_w 66, 3) := by decide +kernel
theorem dX8_area_66 : decode cX8_area 66 = .ok (.lxor, 1) := by decide +kernel
theorem dX8_area_67 : decode cX8_area 67 = .ok (.land, 1) := by decide +kernel
theorem dX8_area_68 : decode cX8_area 68 = .ok (.lstore 4, 2) := by decide +kernel
theorem dX8_area_70 : decode cX8_area 70 = .ok (.iload_n 2, 1) := by decide +kernel
theorem dX8_area_71 : decode cX8_area 71 = .ok (.lload 6, 2) := by decide +kernel
theorem dX8_area_73 : decode cX8_area 73 = .ok (.invokestatic 75, 3) := by decide +kernel
theorem dX8_area_76 : decode cX8_area 76 = .ok (.lload 6, 2) := by decide +kernel
theorem dX8_area_78 : decode cX8_area 78 = .ok (.ldc2_w 66, 3) := by decide +kernel
theorem dX8_area_81 : decode cX8_area 81 = .ok (.lxor, 1) := by decide +kernel
theorem dX8_area_82 : decode cX8_area 82 = .ok (.land, 1) := by decide +kernel
theorem dX8_area_83 : decode cX8_area 83 = .ok (.lstore 8, 2) := by decide +kernel
theorem dX8_area_85 : decode cX8_area 85 = .ok (.iload_n 3, 1) := by decide +kernel
theorem dX8_area_86 : decode cX8_area 86 = .ok (.lload 8, 2) := by decide +kernel
theorem dX8_area_88 : decode cX8_area 88 = .ok (.aload_n 0, 1) := by decide +kernel
theorem dX8_area_89 : decode cX8_area 89 = .ok (.iload_n 1, 1) := by decide +kernel
theorem dX8_area_90 : decode cX8_area 90 = .ok (.invokestatic 105, 3) := by decide +kernel
theorem dX8_area_93 : decode cX8_area 93 = .ok (.land, 1) := by decide +kernel
theorem dX8_area_94 : decode cX8_area 94 = .ok (.lconst 0, 1) := by decide +kernel
theorem dX8_area_95 : decode cX8_area 95 = .ok (.lcmp, 1) := by decide +kernel
theorem dX8_area_96 : decode cX8_area 96 = .ok (.ifCond .eq 26, 3) := by decide +kernel
theorem dX8_area_99 : decode cX8_area 99 = .ok (.lload 8, 2) := by decide +kernel
theorem dX8_area_101 : decode cX8_area 101 = .ok (.aload_n 0, 1) := by decide +kernel
theorem dX8_area_102 : decode cX8_area 102 = .ok (.iconst 1, 1) := by decide +kernel
theorem dX8_area_103 : decode cX8_area 103 = .ok (.iload_n 1, 1) := by decide +kernel
theorem dX8_area_104 : decode cX8_area 104 = .ok (.isub, 1) := by decide +kernel
theorem dX8_area_105 : decode cX8_area 105 = .ok (.invokestatic 105, 3) := by decide +kernel
theorem dX8_area_108 : decode cX8_area 108 = .ok (.land, 1) := by decide +kernel
theorem dX8_area_109 : decode cX8_area 109 = .ok (.lconst 0, 1) := by decide +kernel
theorem dX8_area_110 : decode cX8_area 110 = .ok (.lcmp, 1) := by decide +kernel
theorem dX8_area_111 : decode cX8_area 111 = .ok (.ifCond .ne 11, 3) := by decide +kernel
theorem dX8_area_114 : decode cX8_area 114 = .ok (.lload 6, 2) := by decide +kernel
theorem dX8_area_116 : decode cX8_area 116 = .ok (.invokestatic 95, 3) := by decide +kernel
theorem dX8_area_119 : decode cX8_area 119 = .ok (.goto 4, 3) := by decide +kernel
theorem dX8_area_122 : decode cX8_area 122 = .ok (.iconst 0, 1) := by decide +kernel
theorem dX8_area_123 : decode cX8_area 123 = .ok (.iadd, 1) := by decide +kernel
theorem dX8_area_124 : decode cX8_area 124 = .ok (.istore_n 3, 1) := by decide +kernel
theorem dX8_area_125 : decode cX8_area 125 = .ok (.goto (-85), 3) := by decide +kernel
theorem dX8_area_128 : decode cX8_area 128 = .ok (.iload_n 3, 1) := by decide +kernel
theorem dX8_area_129 : decode cX8_area 129 = .ok (.ireturn, 1) := by decide +kernel
theorem dX8_put_0 : decode cX8_put 0 = .ok (.aload_n 0, 1) := by decide +kernel
theorem dX8_put_1 : decode cX8_put 1 = .ok (.getfield 30, 3) := by decide +kernel
theorem dX8_put_4 : decode cX8_put 4 = .ok (.aload_n 0, 1) := by decide +kernel
theorem dX8_put_5 : decode cX8_put 5 = .ok (.getfield 136, 3) := by decide +kernel
theorem dX8_put_8 : decode cX8_put 8 = .ok (.lload_n 1, 1) := by decide +kernel
theorem dX8_put_9 : decode cX8_put 9 = .ok (.lastore, 1) := by decide +kernel
theorem dX8_put_10 : decode cX8_put 10 = .ok (.aload_n 0, 1) := by decide +kernel
theorem dX8_put_11 : decode cX8_put 11 = .ok (.getfield 33, 3) := by decide +kernel
theorem dX8_put_14 : decode cX8_put 14 = .ok (.aload_n 0, 1) := by decide +kernel
theorem dX8_put_15 : decode cX8_put 15 = .ok (.getfield 136, 3) := by decide +kernel
theorem dX8_put_18 : decode cX8_put 18 = .ok (.lload_n 3, 1) := by decide +kernel
theorem dX8_put_19 : decode cX8_put 19 = .ok (.lastore, 1) := by decide +kernel
theorem dX8_put_20 : decode cX8_put 20 = .ok (.aload_n 0, 1) := by decide +kernel
theorem dX8_put_21 : decode cX8_put 21 = .ok (.getfield 36, 3) := by decide +kernel
theorem dX8_put_24 : decode cX8_put 24 = .ok (.aload_n 0, 1) := by decide +kernel
theorem dX8_put_25 : decode cX8_put 25 = .ok (.getfield 136, 3) := by decide +kernel
theorem dX8_put_28 : decode cX8_put 28 = .ok (.iload 5, 2) := by decide +kernel
theorem dX8_put_30 : decode cX8_put 30 = .ok (.iastore, 1) := by decide +kernel
theorem dX8_put_31 : decode cX8_put 31 = .ok (.aload_n 0, 1) := by decide +kernel
theorem dX8_put_32 : decode cX8_put 32 = .ok (.dup, 1) := by decide +kernel
theorem dX8_put_33 : decode cX8_put 33 = .ok (.getfield 136, 3) := by decide +kernel
theorem dX8_put_36 : decode cX8_put 36 = .ok (.iconst 1, 1) := by decide +kernel
theorem dX8_put_37 : decode cX8_put 37 = .ok (.iadd, 1) := by decide +kernel
theorem dX8_put_38 : decode cX8_put 38 = .ok (.putfield 136, 3) := by decide +kernel
theorem dX8_put_41 : decode cX8_put 41 = .ok (.return_, 1) := by decide +kernel
set_option maxRecDepth 20000 in
theorem ggX8_ownerTurn_X8_grown : GoodIn wsX8_ownerTurn wsX8_grown := goodIn_r _ [6, 7, 8, 5, 9, 10, 11, 12, 13, 14, 15, 16, 17, 18, 19] (by decide +kernel) (by decide +kernel)
set_option maxRecDepth 20000 in
theorem gX8_ownerTurn_X8_grown : GoodIn wsX8_ownerTurn (va_wsS RX8 88 yX8_grown wsX8_grown) := goodIn_app (goodIn_of _ (by decide +kernel)) ggX8_ownerTurn_X8_grown
set_option maxRecDepth 20000 in
theorem ggX8_ownerTurn_X8_liberties : GoodIn wsX8_ownerTurn wsX8_liberties := goodIn_r _ [22, 13, 7, 8, 5, 9, 10, 11, 12, 14, 15, 16, 17, 18, 19] (by decide +kernel) (by decide +kernel)
set_option maxRecDepth 20000 in
theorem gX8_ownerTurn_X8_liberties : GoodIn wsX8_ownerTurn (va_wsS RX8 92 yX8_liberties wsX8_liberties) := goodIn_app (goodIn_of _ (by decide +kernel)) ggX8_ownerTurn_X8_liberties
set_option maxRecDepth 20000 in
theorem ggX8_ownerTurn_X8_bits : GoodIn wsX8_ownerTurn wsX8_bits := goodIn_r _ [25, 26, 27, 5, 28] (by decide +kernel) (by decide +kernel)
set_option maxRecDepth 20000 in
theorem gX8_ownerTurn_X8_bits : GoodIn wsX8_ownerTurn (va_wsS RX8 95 yX8_bits wsX8_bits) := goodIn_app (goodIn_of _ (by decide +kernel)) ggX8_ownerTurn_X8_bits
set_option maxRecDepth 20000 in
theorem ggX8_ownerTurn_X8_lowest : GoodIn wsX8_ownerTurn wsX8_lowest := goodIn_r _ [31, 26, 27, 5, 28] (by decide +kernel) (by decide +kernel)
set_option maxRecDepth 20000 in
theorem gX8_ownerTurn_X8_lowest : GoodIn wsX8_ownerTurn (va_wsS RX8 139 yX8_lowest wsX8_lowest) := goodIn_app (goodIn_of _ (by decide +kernel)) ggX8_ownerTurn_X8_lowest
set_option maxRecDepth 20000 in
theorem ggX8_ownerTurn_X8_lays : GoodIn wsX8_ownerTurn wsX8_lays := goodIn_r _ [35, 1, 2, 36, 13, 37, 7, 8, 5, 9, 10, 11, 12, 14, 15, 16, 17, 18, 19, 3, 4, 6, 20, 21, 22, 23, 24, 25, 26, 27, 28, 46, 47, 48, 49, 50, 51, 52, 53, 54, 55, 56, 57, 58, 59, 60, 61, 62, 63, 64] (by decide +kernel) (by decide +kernel)
set_option maxRecDepth 20000 in
theorem gX8_ownerTurn_X8_lays : GoodIn wsX8_ownerTurn (wsV RX8 109 RX8 yX8_lays wsX8_lays) := goodIn_app (goodIn_of _ (by decide +kernel)) ggX8_ownerTurn_X8_lays
set_option maxRecDepth 20000 in
theorem ggX8_ownerTurn_X8_put : GoodIn wsX8_ownerTurn wsX8_put := goodIn_r _ [41, 42, 43, 44, 45, 46, 47, 48, 49, 50, 51, 52, 53, 54, 55, 56, 57, 58, 59, 60, 61, 62, 63, 64] (by decide +kernel) (by decide +kernel)
set_option maxRecDepth 20000 in
theorem gX8_ownerTurn_X8_put : GoodIn wsX8_ownerTurn (wsV RX8 142 RX8 yX8_put wsX8_put) := goodIn_app (goodIn_of _ (by decide +kernel)) ggX8_ownerTurn_X8_put
theorem dX8_ownerTurn_0 : decode cX8_ownerTurn 0 = .ok (.iload_n 1, 1) := by decide +kernel
theorem dX8_ownerTurn_1 : decode cX8_ownerTurn 1 = .ok (.iload_n 1, 1) := by decide +kernel
theorem dX8_ownerTurn_2 : decode cX8_ownerTurn 2 = .ok (.lconst 1, 1) := by decide +kernel
theorem dX8_ownerTurn_3 : decode cX8_ownerTurn 3 = .ok (.iload_n 2, 1) := by decide +kernel
theorem dX8_ownerTurn_4 : decode cX8_ownerTurn 4 = .ok (.lshl, 1) := by decide +kernel
theorem dX8_ownerTurn_5 : decode cX8_ownerTurn 5 = .ok (.lload_n 3, 1) := by decide +kernel
theorem dX8_ownerTurn_6 : decode cX8_ownerTurn 6 = .ok (.invokestatic 88, 3) := by decide +kernel
theorem dX8_ownerTurn_9 : decode cX8_ownerTurn 9 = .ok (.lload_n 3, 1) := by decide +kernel
theorem dX8_ownerTurn_10 : decode cX8_ownerTurn 10 = .ok (.lload 5, 2) := by decide +kernel
theorem dX8_ownerTurn_12 : decode cX8_ownerTurn 12 = .ok (.lor, 1) := by decide +kernel
theorem dX8_ownerTurn_13 : decode cX8_ownerTurn 13 = .ok (.invokestatic 92, 3) := by decide +kernel
theorem dX8_ownerTurn_16 : decode cX8_ownerTurn 16 = .ok (.lstore 8, 2) := by decide +kernel
theorem dX8_ownerTurn_18 : decode cX8_ownerTurn 18 = .ok (.lload 8, 2) := by decide +kernel
theorem dX8_ownerTurn_20 : decode cX8_ownerTurn 20 = .ok (.invokestatic 95, 3) := by decide +kernel
theorem dX8_ownerTurn_23 : decode cX8_ownerTurn 23 = .ok (.iconst 1, 1) := by decide +kernel
theorem dX8_ownerTurn_24 : decode cX8_ownerTurn 24 = .ok (.if_icmp .eq 5, 3) := by decide +kernel
theorem dX8_ownerTurn_27 : decode cX8_ownerTurn 27 = .ok (.iconst 0, 1) := by decide +kernel
theorem dX8_ownerTurn_28 : decode cX8_ownerTurn 28 = .ok (.ireturn, 1) := by decide +kernel
theorem dX8_ownerTurn_29 : decode cX8_ownerTurn 29 = .ok (.aload_n 0, 1) := by decide +kernel
theorem dX8_ownerTurn_30 : decode cX8_ownerTurn 30 = .ok (.iload_n 1, 1) := by decide +kernel
theorem dX8_ownerTurn_31 : decode cX8_ownerTurn 31 = .ok (.lload_n 3, 1) := by decide +kernel
theorem dX8_ownerTurn_32 : decode cX8_ownerTurn 32 = .ok (.lload 5, 2) := by decide +kernel
theorem dX8_ownerTurn_34 : decode cX8_ownerTurn 34 = .ok (.lload 8, 2) := by decide +kernel
theorem dX8_ownerTurn_36 : decode cX8_ownerTurn 36 = .ok (.invokestatic 139, 3) := by decide +kernel
theorem dX8_ownerTurn_39 : decode cX8_ownerTurn 39 = .ok (.invokevirtual 109, 3) := by decide +kernel
theorem dX8_ownerTurn_42 : decode cX8_ownerTurn 42 = .ok (.ifCond .ne 5, 3) := by decide +kernel
theorem dX8_ownerTurn_45 : decode cX8_ownerTurn 45 = .ok (.iconst 1, 1) := by decide +kernel
theorem dX8_ownerTurn_46 : decode cX8_ownerTurn 46 = .ok (.ireturn, 1) := by decide +kernel
theorem dX8_ownerTurn_47 : decode cX8_ownerTurn 47 = .ok (.iload_n 1, 1) := by decide +kernel
theorem dX8_ownerTurn_48 : decode cX8_ownerTurn 48 = .ok (.iload_n 1, 1) := by decide +kernel
theorem dX8_ownerTurn_49 : decode cX8_ownerTurn 49 = .ok (.lconst 1, 1) := by decide +kernel
theorem dX8_ownerTurn_50 : decode cX8_ownerTurn 50 = .ok (.iload_n 2, 1) := by decide +kernel
theorem dX8_ownerTurn_51 : decode cX8_ownerTurn 51 = .ok (.lshl, 1) := by decide +kernel
theorem dX8_ownerTurn_52 : decode cX8_ownerTurn 52 = .ok (.aload_n 0, 1) := by decide +kernel
theorem dX8_ownerTurn_53 : decode cX8_ownerTurn 53 = .ok (.getfield 78, 3) := by decide +kernel
theorem dX8_ownerTurn_56 : decode cX8_ownerTurn 56 = .ok (.invokestatic 88, 3) := by decide +kernel
theorem dX8_ownerTurn_59 : decode cX8_ownerTurn 59 = .ok (.aload_n 0, 1) := by decide +kernel
theorem dX8_ownerTurn_60 : decode cX8_ownerTurn 60 = .ok (.getfield 78, 3) := by decide +kernel
theorem dX8_ownerTurn_63 : decode cX8_ownerTurn 63 = .ok (.aload_n 0, 1) := by decide +kernel
theorem dX8_ownerTurn_64 : decode cX8_ownerTurn 64 = .ok (.getfield 82, 3) := by decide +kernel
theorem dX8_ownerTurn_67 : decode cX8_ownerTurn 67 = .ok (.lor, 1) := by decide +kernel
theorem dX8_ownerTurn_68 : decode cX8_ownerTurn 68 = .ok (.invokestatic 92, 3) := by decide +kernel
theorem dX8_ownerTurn_71 : decode cX8_ownerTurn 71 = .ok (.invokestatic 95, 3) := by decide +kernel
theorem dX8_ownerTurn_74 : decode cX8_ownerTurn 74 = .ok (.istore 10, 2) := by decide +kernel
theorem dX8_ownerTurn_76 : decode cX8_ownerTurn 76 = .ok (.iload 10, 2) := by decide +kernel
theorem dX8_ownerTurn_78 : decode cX8_ownerTurn 78 = .ok (.iconst 1, 1) := by decide +kernel
theorem dX8_ownerTurn_79 : decode cX8_ownerTurn 79 = .ok (.if_icmp .eq 11, 3) := by decide +kernel
theorem dX8_ownerTurn_82 : decode cX8_ownerTurn 82 = .ok (.iload 10, 2) := by decide +kernel
theorem dX8_ownerTurn_84 : decode cX8_ownerTurn 84 = .ok (.iconst 2, 1) := by decide +kernel
theorem dX8_ownerTurn_85 : decode cX8_ownerTurn 85 = .ok (.if_icmp .eq 5, 3) := by decide +kernel
theorem dX8_ownerTurn_88 : decode cX8_ownerTurn 88 = .ok (.iconst 0, 1) := by decide +kernel
theorem dX8_ownerTurn_89 : decode cX8_ownerTurn 89 = .ok (.ireturn, 1) := by decide +kernel
theorem dX8_ownerTurn_90 : decode cX8_ownerTurn 90 = .ok (.aload_n 0, 1) := by decide +kernel
theorem dX8_ownerTurn_91 : decode cX8_ownerTurn 91 = .ok (.aload_n 0, 1) := by decide +kernel
theorem dX8_ownerTurn_92 : decode cX8_ownerTurn 92 = .ok (.getfield 78, 3) := by decide +kernel
theorem dX8_ownerTurn_95 : decode cX8_ownerTurn 95 = .ok (.aload_n 0, 1) := by decide +kernel
theorem dX8_ownerTurn_96 : decode cX8_ownerTurn 96 = .ok (.getfield 82, 3) := by decide +kernel
theorem dX8_ownerTurn_99 : decode cX8_ownerTurn 99 = .ok (.iload 7, 2) := by decide +kernel
theorem dX8_ownerTurn_101 : decode cX8_ownerTurn 101 = .ok (.invokevirtual 142, 3) := by decide +kernel
theorem dX8_ownerTurn_104 : decode cX8_ownerTurn 104 = .ok (.iconst (-1), 1) := by decide +kernel
theorem dX8_ownerTurn_105 : decode cX8_ownerTurn 105 = .ok (.ireturn, 1) := by decide +kernel
set_option maxRecDepth 20000 in
theorem ggX8_chaserLays_X8_lays : GoodIn wsX8_chaserLays wsX8_lays := goodIn_r _ [7, 2, 1, 8, 9, 10, 11, 12, 6, 13, 14, 15, 16, 17, 18, 19, 20, 21, 22, 23, 24, 25, 26, 27, 28, 29, 30, 31, 32, 33, 34, 50, 51, 52, 53, 54, 55, 56, 57, 58, 59, 60, 61, 62, 63, 64, 65, 66, 67, 68] (by decide +kernel) (by decide +kernel)
set_option maxRecDepth 20000 in
theorem gX8_chaserLays_X8_lays : GoodIn wsX8_chaserLays (wsV RX8 109 RX8 yX8_lays wsX8_lays) := goodIn_app (goodIn_of _ (by decide +kernel)) ggX8_chaserLays_X8_lays
set_option maxRecDepth 20000 in
theorem ggX8_chaserLays_X8_ownerTurn : GoodIn wsX8_chaserLays wsX8_ownerTurn := goodIn_r _ [38, 2, 1, 23, 24, 6, 25, 11, 12, 13, 14, 15, 16, 9, 17, 18, 19, 20, 21, 22, 26, 27, 28, 29, 30, 31, 32, 33, 34, 39, 40, 41, 3, 4, 5, 7, 8, 10, 42, 43, 44, 45, 46, 47, 48, 49, 50, 51, 52, 53, 54, 55, 56, 57, 58, 59, 60, 61, 62, 63, 64, 65, 66, 67, 68] (by decide +kernel) (by decide +kernel)
set_option maxRecDepth 20000 in
theorem gX8_chaserLays_X8_ownerTurn : GoodIn wsX8_chaserLays (wsV RX8 146 RX8 yX8_ownerTurn wsX8_ownerTurn) := goodIn_app (goodIn_of _ (by decide +kernel)) ggX8_chaserLays_X8_ownerTurn
theorem dX8_chaserLays_0 : decode cX8_chaserLays 0 = .ok (.iload 7, 2) := by decide +kernel
theorem dX8_chaserLays_2 : decode cX8_chaserLays 2 = .ok (.ifCond .eq 16, 3) := by decide +kernel
theorem dX8_chaserLays_5 : decode cX8_chaserLays 5 = .ok (.aload_n 0, 1) := by decide +kernel
theorem dX8_chaserLays_6 : decode cX8_chaserLays 6 = .ok (.iload_n 1, 1) := by decide +kernel
theorem dX8_chaserLays_7 : decode cX8_chaserLays 7 = .ok (.lload 5, 2) := by decide +kernel
theorem dX8_chaserLays_9 : decode cX8_chaserLays 9 = .ok (.lload_n 3, 1) := by decide +kernel
theorem dX8_chaserLays_10 : decode cX8_chaserLays 10 = .ok (.iload 8, 2) := by decide +kernel
theorem dX8_chaserLays_12 : decode cX8_chaserLays 12 = .ok (.invokevirtual 109, 3) := by decide +kernel
theorem dX8_chaserLays_15 : decode cX8_chaserLays 15 = .ok (.ifCond .ne 5, 3) := by decide +kernel
theorem dX8_chaserLays_18 : decode cX8_chaserLays 18 = .ok (.iconst 0, 1) := by decide +kernel
theorem dX8_chaserLays_19 : decode cX8_chaserLays 19 = .ok (.ireturn, 1) := by decide +kernel
theorem dX8_chaserLays_20 : decode cX8_chaserLays 20 = .ok (.iload 9, 2) := by decide +kernel
theorem dX8_chaserLays_22 : decode cX8_chaserLays 22 = .ok (.ifCond .eq 7, 3) := by decide +kernel
theorem dX8_chaserLays_25 : decode cX8_chaserLays 25 = .ok (.iconst 1, 1) := by decide +kernel
theorem dX8_chaserLays_26 : decode cX8_chaserLays 26 = .ok (.goto 21, 3) := by decide +kernel
theorem dX8_chaserLays_29 : decode cX8_chaserLays 29 = .ok (.aload_n 0, 1) := by decide +kernel
theorem dX8_chaserLays_30 : decode cX8_chaserLays 30 = .ok (.iload_n 1, 1) := by decide +kernel
theorem dX8_chaserLays_31 : decode cX8_chaserLays 31 = .ok (.iload_n 2, 1) := by decide +kernel
theorem dX8_chaserLays_32 : decode cX8_chaserLays 32 = .ok (.aload_n 0, 1) := by decide +kernel
theorem dX8_chaserLays_33 : decode cX8_chaserLays 33 = .ok (.getfield 82, 3) := by decide +kernel
theorem dX8_chaserLays_36 : decode cX8_chaserLays 36 = .ok (.aload_n 0, 1) := by decide +kernel
theorem dX8_chaserLays_37 : decode cX8_chaserLays 37 = .ok (.getfield 78, 3) := by decide +kernel
theorem dX8_chaserLays_40 : decode cX8_chaserLays 40 = .ok (.iload 7, 2) := by decide +kernel
theorem dX8_chaserLays_42 : decode cX8_chaserLays 42 = .ok (.iconst 1, 1) := by decide +kernel
theorem dX8_chaserLays_43 : decode cX8_chaserLays 43 = .ok (.isub, 1) := by decide +kernel
theorem dX8_chaserLays_44 : decode cX8_chaserLays 44 = .ok (.invokevirtual 146, 3) := by decide +kernel
theorem dX8_chaserLays_47 : decode cX8_chaserLays 47 = .ok (.ireturn, 1) := by decide +kernel
set_option maxRecDepth 20000 in
theorem ggX8_works_X8_grown : GoodIn wsX8_works wsX8_grown := goodIn_r _ [8, 9, 10, 7, 11, 12, 13, 14, 15, 16, 17, 18, 19, 20, 21] (by decide +kernel) (by decide +kernel)
set_option maxRecDepth 20000 in
theorem gX8_works_X8_grown : GoodIn wsX8_works (va_wsS RX8 88 yX8_grown wsX8_grown) := goodIn_app (goodIn_of _ (by decide +kernel)) ggX8_works_X8_grown
set_option maxRecDepth 20000 in
theorem ggX8_works_X8_liberties : GoodIn wsX8_works wsX8_liberties := goodIn_r _ [24, 15, 9, 10, 7, 11, 12, 13, 14, 16, 17, 18, 19, 20, 21] (by decide +kernel) (by decide +kernel)
set_option maxRecDepth 20000 in
theorem gX8_works_X8_liberties : GoodIn wsX8_works (va_wsS RX8 92 yX8_liberties wsX8_liberties) := goodIn_app (goodIn_of _ (by decide +kernel)) ggX8_works_X8_liberties
set_option maxRecDepth 20000 in
theorem ggX8_works_X8_bits : GoodIn wsX8_works wsX8_bits := goodIn_r _ [27, 28, 29, 7, 30] (by decide +kernel) (by decide +kernel)
set_option maxRecDepth 20000 in
theorem gX8_works_X8_bits : GoodIn wsX8_works (va_wsS RX8 95 yX8_bits wsX8_bits) := goodIn_app (goodIn_of _ (by decide +kernel)) ggX8_works_X8_bits
set_option maxRecDepth 20000 in
theorem ggX8_works_X8_lowest : GoodIn wsX8_works wsX8_lowest := goodIn_r _ [33, 28, 29, 7, 30] (by decide +kernel) (by decide +kernel)
set_option maxRecDepth 20000 in
theorem gX8_works_X8_lowest : GoodIn wsX8_works (va_wsS RX8 139 yX8_lowest wsX8_lowest) := goodIn_app (goodIn_of _ (by decide +kernel)) ggX8_works_X8_lowest
set_option maxRecDepth 20000 in
theorem ggX8_works_X8_chaserLays : GoodIn wsX8_works wsX8_chaserLays := goodIn_r _ [37, 38, 39, 40, 41, 42, 7, 43, 44, 15, 45, 9, 10, 11, 12, 13, 14, 16, 17, 18, 19, 20, 21, 5, 6, 8, 22, 23, 24, 25, 26, 27, 28, 29, 30, 46, 47, 48, 49, 31, 32, 33, 50, 51, 52, 53, 2, 1, 3, 4, 54, 55, 56, 57, 58, 59, 60, 61, 62, 63, 64, 65, 66, 67, 68, 69, 70, 71, 72] (by decide +kernel) (by decide +kernel)
set_option maxRecDepth 20000 in
theorem gX8_works_X8_chaserLays : GoodIn wsX8_works (wsV RX8 150 RX8 yX8_chaserLays wsX8_chaserLays) := goodIn_app (goodIn_of _ (by decide +kernel)) ggX8_works_X8_chaserLays
theorem dX8_works_0 : decode cX8_works 0 = .ok (.aload_n 0, 1) := by decide +kernel
theorem dX8_works_1 : decode cX8_works 1 = .ok (.getfield 136, 3) := by decide +kernel
theorem dX8_works_4 : decode cX8_works 4 = .ok (.ifCond .le 141, 3) := by decide +kernel
theorem dX8_works_7 : decode cX8_works 7 = .ok (.aload_n 0, 1) := by decide +kernel
theorem dX8_works_8 : decode cX8_works 8 = .ok (.dup, 1) := by decide +kernel
theorem dX8_works_9 : decode cX8_works 9 = .ok (.getfield 136, 3) := by decide +kernel
theorem dX8_works_12 : decode cX8_works 12 = .ok (.iconst 1, 1) := by decide +kernel
theorem dX8_works_13 : decode cX8_works 13 = .ok (.isub, 1) := by decide +kernel
theorem dX8_works_14 : decode cX8_works 14 = .ok (.putfield 136, 3) := by decide +kernel
theorem dX8_works_17 : decode cX8_works 17 = .ok (.aload_n 0, 1) := by decide +kernel
theorem dX8_works_18 : decode cX8_works 18 = .ok (.getfield 30, 3) := by decide +kernel
theorem dX8_works_21 : decode cX8_works 21 = .ok (.aload_n 0, 1) := by decide +kernel
theorem dX8_works_22 : decode cX8_works 22 = .ok (.getfield 136, 3) := by decide +kernel
theorem dX8_works_25 : decode cX8_works 25 = .ok (.laload, 1) := by decide +kernel
theorem dX8_works_26 : decode cX8_works 26 = .ok (.lstore_n 3, 1) := by decide +kernel
theorem dX8_works_27 : decode cX8_works 27 = .ok (.aload_n 0, 1) := by decide +kernel
theorem dX8_works_28 : decode cX8_works 28 = .ok (.getfield 33, 3) := by decide +kernel
theorem dX8_works_31 : decode cX8_works 31 = .ok (.aload_n 0, 1) := by decide +kernel
theorem dX8_works_32 : decode cX8_works 32 = .ok (.getfield 136, 3) := by decide +kernel
theorem dX8_works_35 : decode cX8_works 35 = .ok (.laload, 1) := by decide +kernel
theorem dX8_works_36 : decode cX8_works 36 = .ok (.lstore 5, 2) := by decide +kernel
theorem dX8_works_38 : decode cX8_works 38 = .ok (.aload_n 0, 1) := by decide +kernel
theorem dX8_works_39 : decode cX8_works 39 = .ok (.getfield 36, 3) := by decide +kernel
theorem dX8_works_42 : decode cX8_works 42 = .ok (.aload_n 0, 1) := by decide +kernel
theorem dX8_works_43 : decode cX8_works 43 = .ok (.getfield 136, 3) := by decide +kernel
theorem dX8_works_46 : decode cX8_works 46 = .ok (.iaload, 1) := by decide +kernel
theorem dX8_works_47 : decode cX8_works 47 = .ok (.istore 7, 2) := by decide +kernel
theorem dX8_works_49 : decode cX8_works 49 = .ok (.iload_n 1, 1) := by decide +kernel
theorem dX8_works_50 : decode cX8_works 50 = .ok (.iload_n 1, 1) := by decide +kernel
theorem dX8_works_51 : decode cX8_works 51 = .ok (.lconst 1, 1) := by decide +kernel
theorem dX8_works_52 : decode cX8_works 52 = .ok (.iload_n 2, 1) := by decide +kernel
theorem dX8_works_53 : decode cX8_works 53 = .ok (.lshl, 1) := by decide +kernel
theorem dX8_works_54 : decode cX8_works 54 = .ok (.lload_n 3, 1) := by decide +kernel
theorem dX8_works_55 : decode cX8_works 55 = .ok (.invokestatic 88, 3) := by decide +kernel
theorem dX8_works_58 : decode cX8_works 58 = .ok (.lload_n 3, 1) := by decide +kernel
theorem dX8_works_59 : decode cX8_works 59 = .ok (.lload 5, 2) := by decide +kernel
theorem dX8_works_61 : decode cX8_works 61 = .ok (.lor, 1) := by decide +kernel
theorem dX8_works_62 : decode cX8_works 62 = .ok (.invokestatic 92, 3) := by decide +kernel
theorem dX8_works_65 : decode cX8_works 65 = .ok (.lstore 8, 2) := by decide +kernel
theorem dX8_works_67 : decode cX8_works 67 = .ok (.lload 8, 2) := by decide +kernel
theorem dX8_works_69 : decode cX8_works 69 = .ok (.invokestatic 95, 3) := by decide +kernel
theorem dX8_works_72 : decode cX8_works 72 = .ok (.istore 10, 2) := by decide +kernel
theorem dX8_works_74 : decode cX8_works 74 = .ok (.iconst 0, 1) := by decide +kernel
theorem dX8_works_75 : decode cX8_works 75 = .ok (.istore 11, 2) := by decide +kernel
theorem dX8_works_77 : decode cX8_works 77 = .ok (.iload 11, 2) := by decide +kernel
theorem dX8_works_79 : decode cX8_works 79 = .ok (.iload 10, 2) := by decide +kernel
theorem dX8_works_81 : decode cX8_works 81 = .ok (.if_icmp .ge 61, 3) := by decide +kernel
theorem dX8_works_84 : decode cX8_works 84 = .ok (.iload 10, 2) := by decide +kernel
theorem dX8_works_86 : decode cX8_works 86 = .ok (.iconst 3, 1) := by decide +kernel
theorem dX8_works_87 : decode cX8_works 87 = .ok (.if_icmp .ge 55, 3) := by decide +kernel
theorem dX8_works_90 : decode cX8_works 90 = .ok (.lload 8, 2) := by decide +kernel
theorem dX8_works_92 : decode cX8_works 92 = .ok (.invokestatic 139, 3) := by decide +kernel
theorem dX8_works_95 : decode cX8_works 95 = .ok (.istore 12, 2) := by decide +kernel
theorem dX8_works_97 : decode cX8_works 97 = .ok (.lload 8, 2) := by decide +kernel
theorem dX8_works_99 : decode cX8_works 99 = .ok (.lload 8, 2) := by decide +kernel
theorem dX8_works_101 : decode cX8_works 101 = .ok (.lconst 1, 1) := by decide +kernel
theorem dX8_works_102 : decode cX8_works 102 = .ok (.lsub, 1) := by decide +kernel
theorem dX8_works_103 : decode cX8_works 103 = .ok (.land, 1) := by decide +kernel
theorem dX8_works_104 : decode cX8_works 104 = .ok (.lstore 8, 2) := by decide +kernel
theorem dX8_works_106 : decode cX8_works 106 = .ok (.aload_n 0, 1) := by decide +kernel
theorem dX8_works_107 : decode cX8_works 107 = .ok (.iload_n 1, 1) := by decide +kernel
theorem dX8_works_108 : decode cX8_works 108 = .ok (.iload_n 2, 1) := by decide +kernel
theorem dX8_works_109 : decode cX8_works 109 = .ok (.lload_n 3, 1) := by decide +kernel
theorem dX8_works_110 : decode cX8_works 110 = .ok (.lload 5, 2) := by decide +kernel
theorem dX8_works_112 : decode cX8_works 112 = .ok (.iload 7, 2) := by decide +kernel
theorem dX8_works_114 : decode cX8_works 114 = .ok (.iload 12, 2) := by decide +kernel
theorem dX8_works_116 : decode cX8_works 116 = .ok (.iload 10, 2) := by decide +kernel
theorem dX8_works_118 : decode cX8_works 118 = .ok (.iconst 1, 1) := by decide +kernel
theorem dX8_works_119 : decode cX8_works 119 = .ok (.if_icmp .ne 7, 3) := by decide +kernel
theorem dX8_works_122 : decode cX8_works 122 = .ok (.iconst 1, 1) := by decide +kernel
theorem dX8_works_123 : decode cX8_works 123 = .ok (.goto 4, 3) := by decide +kernel
theorem dX8_works_126 : decode cX8_works 126 = .ok (.iconst 0, 1) := by decide +kernel
theorem dX8_works_127 : decode cX8_works 127 = .ok (.invokevirtual 150, 3) := by decide +kernel
theorem dX8_works_130 : decode cX8_works 130 = .ok (.iconst 1, 1) := by decide +kernel
theorem dX8_works_131 : decode cX8_works 131 = .ok (.if_icmp .ne 5, 3) := by decide +kernel
theorem dX8_works_134 : decode cX8_works 134 = .ok (.iconst 1, 1) := by decide +kernel
theorem dX8_works_135 : decode cX8_works 135 = .ok (.ireturn, 1) := by decide +kernel
theorem dX8_works_136 : decode cX8_works 136 = .ok (.iinc 11 1, 3) := by decide +kernel
theorem dX8_works_139 : decode cX8_works 139 = .ok (.goto (-62), 3) := by decide +kernel
theorem dX8_works_142 : decode cX8_works 142 = .ok (.goto (-142), 3) := by decide +kernel
theorem dX8_works_145 : decode cX8_works 145 = .ok (.iconst 0, 1) := by decide +kernel
theorem dX8_works_146 : decode cX8_works 146 = .ok (.ireturn, 1) := by decide +kernel
set_option maxRecDepth 20000 in
theorem ggX8_ladderOn_X8_stonesOf : GoodIn wsX8_ladderOn wsX8_stonesOf := goodIn_r _ [5, 6, 7, 4, 8] (by decide +kernel) (by decide +kernel)
set_option maxRecDepth 20000 in
theorem gX8_ladderOn_X8_stonesOf : GoodIn wsX8_ladderOn (va_wsS RX8 105 yX8_stonesOf wsX8_stonesOf) := goodIn_app (goodIn_of _ (by decide +kernel)) ggX8_ladderOn_X8_stonesOf
set_option maxRecDepth 20000 in
theorem ggX8_ladderOn_X8_has : GoodIn wsX8_ladderOn wsX8_has := goodIn_r _ [11] (by decide +kernel) (by decide +kernel)
set_option maxRecDepth 20000 in
theorem gX8_ladderOn_X8_has : GoodIn wsX8_ladderOn (va_wsS RX8 58 yX8_has wsX8_has) := goodIn_app (goodIn_of _ (by decide +kernel)) ggX8_ladderOn_X8_has
set_option maxRecDepth 20000 in
theorem ggX8_ladderOn_X8_put : GoodIn wsX8_ladderOn wsX8_put := goodIn_r _ [15, 16, 1, 17, 18, 64, 65, 66, 67, 68, 69, 70, 71, 72, 73, 74, 75, 76, 77, 78, 79, 80, 81, 82] (by decide +kernel) (by decide +kernel)
set_option maxRecDepth 20000 in
theorem gX8_ladderOn_X8_put : GoodIn wsX8_ladderOn (wsV RX8 142 RX8 yX8_put wsX8_put) := goodIn_app (goodIn_of _ (by decide +kernel)) ggX8_ladderOn_X8_put
set_option maxRecDepth 20000 in
theorem ggX8_ladderOn_X8_ownerTurn : GoodIn wsX8_ladderOn wsX8_ownerTurn := goodIn_r _ [22, 23, 24, 25, 26, 4, 27, 28, 29, 30, 31, 32, 33, 34, 35, 36, 37, 38, 39, 40, 41, 42, 43, 44, 45, 46, 9, 10, 11, 47, 48, 49, 50, 51, 52, 53, 54, 55, 12, 13, 14, 15, 16, 1, 17, 18, 64, 65, 66, 67, 68, 69, 70, 71, 72, 73, 74, 75, 76, 77, 78, 79, 80, 81, 82] (by decide +kernel) (by decide +kernel)
set_option maxRecDepth 20000 in
theorem gX8_ladderOn_X8_ownerTurn : GoodIn wsX8_ladderOn (wsV RX8 146 RX8 yX8_ownerTurn wsX8_ownerTurn) := goodIn_app (goodIn_of _ (by decide +kernel)) ggX8_ladderOn_X8_ownerTurn
set_option maxRecDepth 20000 in
theorem ggX8_ladderOn_X8_works : GoodIn wsX8_ladderOn wsX8_works := goodIn_r _ [59, 1, 16, 17, 18, 25, 26, 4, 27, 28, 29, 30, 31, 32, 33, 34, 35, 36, 37, 38, 39, 40, 41, 42, 43, 44, 45, 46, 9, 10, 11, 47, 48, 49, 60, 61, 62, 63, 24, 23, 50, 51, 52, 53, 54, 55, 19, 20, 21, 22, 12, 13, 14, 15, 64, 65, 66, 67, 68, 69, 70, 71, 72, 73, 74, 75, 76, 77, 78, 79, 80, 81, 82] (by decide +kernel) (by decide +kernel)
set_option maxRecDepth 20000 in
theorem gX8_ladderOn_X8_works : GoodIn wsX8_ladderOn (wsV RX8 154 RX8 yX8_works wsX8_works) := goodIn_app (goodIn_of _ (by decide +kernel)) ggX8_ladderOn_X8_works
theorem dX8_ladderOn_0 : decode cX8_ladderOn 0 = .ok (.aload_n 1, 1) := by decide +kernel
theorem dX8_ladderOn_1 : decode cX8_ladderOn 1 = .ok (.iconst 0, 1) := by decide +kernel
theorem dX8_ladderOn_2 : decode cX8_ladderOn 2 = .ok (.laload, 1) := by decide +kernel
theorem dX8_ladderOn_3 : decode cX8_ladderOn 3 = .ok (.l2i, 1) := by decide +kernel
theorem dX8_ladderOn_4 : decode cX8_ladderOn 4 = .ok (.istore 4, 2) := by decide +kernel
theorem dX8_ladderOn_6 : decode cX8_ladderOn 6 = .ok (.aload_n 1, 1) := by decide +kernel
theorem dX8_ladderOn_7 : decode cX8_ladderOn 7 = .ok (.iconst 0, 1) := by decide +kernel
theorem dX8_ladderOn_8 : decode cX8_ladderOn 8 = .ok (.invokestatic 105, 3) := by decide +kernel
theorem dX8_ladderOn_11 : decode cX8_ladderOn 11 = .ok (.iload_n 2, 1) := by decide +kernel
theorem dX8_ladderOn_12 : decode cX8_ladderOn 12 = .ok (.invokestatic 58, 3) := by decide +kernel
theorem dX8_ladderOn_15 : decode cX8_ladderOn 15 = .ok (.ifCond .eq 7, 3) := by decide +kernel
theorem dX8_ladderOn_18 : decode cX8_ladderOn 18 = .ok (.iconst 0, 1) := by decide +kernel
theorem dX8_ladderOn_19 : decode cX8_ladderOn 19 = .ok (.goto 4, 3) := by decide +kernel
theorem dX8_ladderOn_22 : decode cX8_ladderOn 22 = .ok (.iconst 1, 1) := by decide +kernel
theorem dX8_ladderOn_23 : decode cX8_ladderOn 23 = .ok (.istore 5, 2) := by decide +kernel
theorem dX8_ladderOn_25 : decode cX8_ladderOn 25 = .ok (.aload_n 1, 1) := by decide +kernel
theorem dX8_ladderOn_26 : decode cX8_ladderOn 26 = .ok (.iload 5, 2) := by decide +kernel
theorem dX8_ladderOn_28 : decode cX8_ladderOn 28 = .ok (.invokestatic 105, 3) := by decide +kernel
theorem dX8_ladderOn_31 : decode cX8_ladderOn 31 = .ok (.iload_n 2, 1) := by decide +kernel
theorem dX8_ladderOn_32 : decode cX8_ladderOn 32 = .ok (.invokestatic 58, 3) := by decide +kernel
theorem dX8_ladderOn_35 : decode cX8_ladderOn 35 = .ok (.ifCond .ne 5, 3) := by decide +kernel
theorem dX8_ladderOn_38 : decode cX8_ladderOn 38 = .ok (.iconst (-1), 1) := by decide +kernel
theorem dX8_ladderOn_39 : decode cX8_ladderOn 39 = .ok (.ireturn, 1) := by decide +kernel
theorem dX8_ladderOn_40 : decode cX8_ladderOn 40 = .ok (.aload_n 0, 1) := by decide +kernel
theorem dX8_ladderOn_41 : decode cX8_ladderOn 41 = .ok (.iconst 0, 1) := by decide +kernel
theorem dX8_ladderOn_42 : decode cX8_ladderOn 42 = .ok (.putfield 136, 3) := by decide +kernel
theorem dX8_ladderOn_45 : decode cX8_ladderOn 45 = .ok (.iconst (-1), 1) := by decide +kernel
theorem dX8_ladderOn_46 : decode cX8_ladderOn 46 = .ok (.istore 6, 2) := by decide +kernel
theorem dX8_ladderOn_48 : decode cX8_ladderOn 48 = .ok (.iload_n 3, 1) := by decide +kernel
theorem dX8_ladderOn_49 : decode cX8_ladderOn 49 = .ok (.ifCond .ne 26, 3) := by decide +kernel
