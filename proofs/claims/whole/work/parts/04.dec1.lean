theorem dX2_around_0 : decode cX2_around 0 = .ok (.lload_n 1, 1) := by decide +kernel
theorem dX2_around_1 : decode cX2_around 1 = .ok (.iconst 1, 1) := by decide +kernel
theorem dX2_around_2 : decode cX2_around 2 = .ok (.lshl, 1) := by decide +kernel
theorem dX2_around_3 : decode cX2_around 3 = .ok (.aload_n 0, 1) := by decide +kernel
theorem dX2_around_4 : decode cX2_around 4 = .ok (.getfield 24, 3) := by decide +kernel
theorem dX2_around_7 : decode cX2_around 7 = .ok (.land, 1) := by decide +kernel
theorem dX2_around_8 : decode cX2_around 8 = .ok (.lload_n 1, 1) := by decide +kernel
theorem dX2_around_9 : decode cX2_around 9 = .ok (.iconst 1, 1) := by decide +kernel
theorem dX2_around_10 : decode cX2_around 10 = .ok (.lushr, 1) := by decide +kernel
theorem dX2_around_11 : decode cX2_around 11 = .ok (.aload_n 0, 1) := by decide +kernel
theorem dX2_around_12 : decode cX2_around 12 = .ok (.getfield 27, 3) := by decide +kernel
theorem dX2_around_15 : decode cX2_around 15 = .ok (.land, 1) := by decide +kernel
theorem dX2_around_16 : decode cX2_around 16 = .ok (.lor, 1) := by decide +kernel
theorem dX2_around_17 : decode cX2_around 17 = .ok (.lload_n 1, 1) := by decide +kernel
theorem dX2_around_18 : decode cX2_around 18 = .ok (.aload_n 0, 1) := by decide +kernel
theorem dX2_around_19 : decode cX2_around 19 = .ok (.getfield 9, 3) := by decide +kernel
theorem dX2_around_22 : decode cX2_around 22 = .ok (.lshl, 1) := by decide +kernel
theorem dX2_around_23 : decode cX2_around 23 = .ok (.lload_n 1, 1) := by decide +kernel
theorem dX2_around_24 : decode cX2_around 24 = .ok (.aload_n 0, 1) := by decide +kernel
theorem dX2_around_25 : decode cX2_around 25 = .ok (.getfield 9, 3) := by decide +kernel
theorem dX2_around_28 : decode cX2_around 28 = .ok (.lushr, 1) := by decide +kernel
theorem dX2_around_29 : decode cX2_around 29 = .ok (.lor, 1) := by decide +kernel
theorem dX2_around_30 : decode cX2_around 30 = .ok (.aload_n 0, 1) := by decide +kernel
theorem dX2_around_31 : decode cX2_around 31 = .ok (.getfield 18, 3) := by decide +kernel
theorem dX2_around_34 : decode cX2_around 34 = .ok (.land, 1) := by decide +kernel
theorem dX2_around_35 : decode cX2_around 35 = .ok (.lor, 1) := by decide +kernel
theorem dX2_around_36 : decode cX2_around 36 = .ok (.lreturn, 1) := by decide +kernel
theorem dX2_across_0 : decode cX2_across 0 = .ok (.lload_n 1, 1) := by decide +kernel
theorem dX2_across_1 : decode cX2_across 1 = .ok (.aload_n 0, 1) := by decide +kernel
theorem dX2_across_2 : decode cX2_across 2 = .ok (.getfield 9, 3) := by decide +kernel
theorem dX2_across_5 : decode cX2_across 5 = .ok (.lshl, 1) := by decide +kernel
theorem dX2_across_6 : decode cX2_across 6 = .ok (.lload_n 1, 1) := by decide +kernel
theorem dX2_across_7 : decode cX2_across 7 = .ok (.aload_n 0, 1) := by decide +kernel
theorem dX2_across_8 : decode cX2_across 8 = .ok (.getfield 9, 3) := by decide +kernel
theorem dX2_across_11 : decode cX2_across 11 = .ok (.lushr, 1) := by decide +kernel
theorem dX2_across_12 : decode cX2_across 12 = .ok (.lor, 1) := by decide +kernel
theorem dX2_across_13 : decode cX2_across 13 = .ok (.aload_n 0, 1) := by decide +kernel
theorem dX2_across_14 : decode cX2_across 14 = .ok (.getfield 18, 3) := by decide +kernel
theorem dX2_across_17 : decode cX2_across 17 = .ok (.land, 1) := by decide +kernel
theorem dX2_across_18 : decode cX2_across 18 = .ok (.lstore_n 3, 1) := by decide +kernel
theorem dX2_across_19 : decode cX2_across 19 = .ok (.lload_n 3, 1) := by decide +kernel
theorem dX2_across_20 : decode cX2_across 20 = .ok (.iconst 1, 1) := by decide +kernel
theorem dX2_across_21 : decode cX2_across 21 = .ok (.lshl, 1) := by decide +kernel
theorem dX2_across_22 : decode cX2_across 22 = .ok (.aload_n 0, 1) := by decide +kernel
theorem dX2_across_23 : decode cX2_across 23 = .ok (.getfield 24, 3) := by decide +kernel
theorem dX2_across_26 : decode cX2_across 26 = .ok (.land, 1) := by decide +kernel
theorem dX2_across_27 : decode cX2_across 27 = .ok (.lload_n 3, 1) := by decide +kernel
theorem dX2_across_28 : decode cX2_across 28 = .ok (.iconst 1, 1) := by decide +kernel
theorem dX2_across_29 : decode cX2_across 29 = .ok (.lushr, 1) := by decide +kernel
theorem dX2_across_30 : decode cX2_across 30 = .ok (.aload_n 0, 1) := by decide +kernel
theorem dX2_across_31 : decode cX2_across 31 = .ok (.getfield 27, 3) := by decide +kernel
theorem dX2_across_34 : decode cX2_across 34 = .ok (.land, 1) := by decide +kernel
theorem dX2_across_35 : decode cX2_across 35 = .ok (.lor, 1) := by decide +kernel
theorem dX2_across_36 : decode cX2_across 36 = .ok (.lreturn, 1) := by decide +kernel
set_option maxRecDepth 20000 in
theorem ggX2_connected_X2_around : GoodIn wsX2_connected wsX2_around := goodIn_r _ [5, 6, 7, 8, 9, 10, 11, 12, 13, 14] (by decide +kernel) (by decide +kernel)
set_option maxRecDepth 20000 in
theorem gX2_connected_X2_around : GoodIn wsX2_connected (wsV RX2 30 RX2 yX2_around wsX2_around) := goodIn_app (goodIn_of _ (by decide +kernel)) ggX2_connected_X2_around
theorem dX2_connected_0 : decode cX2_connected 0 = .ok (.lload_n 3, 1) := by decide +kernel
theorem dX2_connected_1 : decode cX2_connected 1 = .ok (.lload_n 1, 1) := by decide +kernel
theorem dX2_connected_2 : decode cX2_connected 2 = .ok (.land, 1) := by decide +kernel
theorem dX2_connected_3 : decode cX2_connected 3 = .ok (.lstore 5, 2) := by decide +kernel
theorem dX2_connected_5 : decode cX2_connected 5 = .ok (.iconst 0, 1) := by decide +kernel
theorem dX2_connected_6 : decode cX2_connected 6 = .ok (.istore 7, 2) := by decide +kernel
theorem dX2_connected_8 : decode cX2_connected 8 = .ok (.iload 7, 2) := by decide +kernel
theorem dX2_connected_10 : decode cX2_connected 10 = .ok (.bipush 49, 2) := by decide +kernel
theorem dX2_connected_12 : decode cX2_connected 12 = .ok (.if_icmp .ge 37, 3) := by decide +kernel
theorem dX2_connected_15 : decode cX2_connected 15 = .ok (.lload 5, 2) := by decide +kernel
theorem dX2_connected_17 : decode cX2_connected 17 = .ok (.aload_n 0, 1) := by decide +kernel
theorem dX2_connected_18 : decode cX2_connected 18 = .ok (.lload 5, 2) := by decide +kernel
theorem dX2_connected_20 : decode cX2_connected 20 = .ok (.invokevirtual 30, 3) := by decide +kernel
theorem dX2_connected_23 : decode cX2_connected 23 = .ok (.lload_n 1, 1) := by decide +kernel
theorem dX2_connected_24 : decode cX2_connected 24 = .ok (.land, 1) := by decide +kernel
theorem dX2_connected_25 : decode cX2_connected 25 = .ok (.lor, 1) := by decide +kernel
theorem dX2_connected_26 : decode cX2_connected 26 = .ok (.lstore 8, 2) := by decide +kernel
theorem dX2_connected_28 : decode cX2_connected 28 = .ok (.lload 8, 2) := by decide +kernel
theorem dX2_connected_30 : decode cX2_connected 30 = .ok (.lload 5, 2) := by decide +kernel
theorem dX2_connected_32 : decode cX2_connected 32 = .ok (.lcmp, 1) := by decide +kernel
theorem dX2_connected_33 : decode cX2_connected 33 = .ok (.ifCond .ne 6, 3) := by decide +kernel
theorem dX2_connected_36 : decode cX2_connected 36 = .ok (.lload 5, 2) := by decide +kernel
theorem dX2_connected_38 : decode cX2_connected 38 = .ok (.lreturn, 1) := by decide +kernel
theorem dX2_connected_39 : decode cX2_connected 39 = .ok (.lload 8, 2) := by decide +kernel
theorem dX2_connected_41 : decode cX2_connected 41 = .ok (.lstore 5, 2) := by decide +kernel
theorem dX2_connected_43 : decode cX2_connected 43 = .ok (.iinc 7 1, 3) := by decide +kernel
theorem dX2_connected_46 : decode cX2_connected 46 = .ok (.goto (-38), 3) := by decide +kernel
theorem dX2_connected_49 : decode cX2_connected 49 = .ok (.lload 5, 2) := by decide +kernel
theorem dX2_connected_51 : decode cX2_connected 51 = .ok (.lreturn, 1) := by decide +kernel
set_option maxRecDepth 20000 in
theorem ggX2_liberties_X2_connected : GoodIn wsX2_liberties wsX2_connected := goodIn_r _ [7, 8, 9, 10, 6, 11, 12, 13, 14, 1, 15, 16, 17, 18, 19] (by decide +kernel) (by decide +kernel)
set_option maxRecDepth 20000 in
theorem gX2_liberties_X2_connected : GoodIn wsX2_liberties (wsV RX2 34 RX2 yX2_connected wsX2_connected) := goodIn_app (goodIn_of _ (by decide +kernel)) ggX2_liberties_X2_connected
set_option maxRecDepth 20000 in
theorem ggX2_liberties_X2_around : GoodIn wsX2_liberties wsX2_around := goodIn_r _ [11, 12, 13, 14, 1, 15, 16, 17, 18, 19] (by decide +kernel) (by decide +kernel)
set_option maxRecDepth 20000 in
theorem gX2_liberties_X2_around : GoodIn wsX2_liberties (wsV RX2 30 RX2 yX2_around wsX2_around) := goodIn_app (goodIn_of _ (by decide +kernel)) ggX2_liberties_X2_around
theorem dX2_liberties_0 : decode cX2_liberties 0 = .ok (.aload_n 0, 1) := by decide +kernel
theorem dX2_liberties_1 : decode cX2_liberties 1 = .ok (.aload_n 0, 1) := by decide +kernel
theorem dX2_liberties_2 : decode cX2_liberties 2 = .ok (.lload_n 1, 1) := by decide +kernel
theorem dX2_liberties_3 : decode cX2_liberties 3 = .ok (.lload 5, 2) := by decide +kernel
theorem dX2_liberties_5 : decode cX2_liberties 5 = .ok (.invokevirtual 34, 3) := by decide +kernel
theorem dX2_liberties_8 : decode cX2_liberties 8 = .ok (.invokevirtual 30, 3) := by decide +kernel
theorem dX2_liberties_11 : decode cX2_liberties 11 = .ok (.aload_n 0, 1) := by decide +kernel
theorem dX2_liberties_12 : decode cX2_liberties 12 = .ok (.getfield 18, 3) := by decide +kernel
theorem dX2_liberties_15 : decode cX2_liberties 15 = .ok (.land, 1) := by decide +kernel
theorem dX2_liberties_16 : decode cX2_liberties 16 = .ok (.lload_n 1, 1) := by decide +kernel
theorem dX2_liberties_17 : decode cX2_liberties 17 = .ok (.lload_n 3, 1) := by decide +kernel
theorem dX2_liberties_18 : decode cX2_liberties 18 = .ok (.lor, 1) := by decide +kernel
theorem dX2_liberties_19 : decode cX2_liberties 19 = .ok (.ldc2_w 22, 3) := by decide +kernel
theorem dX2_liberties_22 : decode cX2_liberties 22 = .ok (.lxor, 1) := by decide +kernel
theorem dX2_liberties_23 : decode cX2_liberties 23 = .ok (.land, 1) := by decide +kernel
theorem dX2_liberties_24 : decode cX2_liberties 24 = .ok (.lreturn, 1) := by decide +kernel
set_option maxRecDepth 20000 in
theorem ggX2_taken_X2_around : GoodIn wsX2_taken wsX2_around := goodIn_r _ [7, 8, 9, 10, 1, 15, 16, 17, 18, 19] (by decide +kernel) (by decide +kernel)
set_option maxRecDepth 20000 in
theorem gX2_taken_X2_around : GoodIn wsX2_taken (wsV RX2 30 RX2 yX2_around wsX2_around) := goodIn_app (goodIn_of _ (by decide +kernel)) ggX2_taken_X2_around
set_option maxRecDepth 20000 in
theorem ggX2_taken_X2_connected : GoodIn wsX2_taken wsX2_connected := goodIn_r _ [14, 3, 4, 5, 6, 7, 8, 9, 10, 1, 15, 16, 17, 18, 19] (by decide +kernel) (by decide +kernel)
set_option maxRecDepth 20000 in
theorem gX2_taken_X2_connected : GoodIn wsX2_taken (wsV RX2 34 RX2 yX2_connected wsX2_connected) := goodIn_app (goodIn_of _ (by decide +kernel)) ggX2_taken_X2_connected
theorem dX2_taken_0 : decode cX2_taken 0 = .ok (.aload_n 0, 1) := by decide +kernel
theorem dX2_taken_1 : decode cX2_taken 1 = .ok (.getfield 18, 3) := by decide +kernel
theorem dX2_taken_4 : decode cX2_taken 4 = .ok (.lload_n 1, 1) := by decide +kernel
theorem dX2_taken_5 : decode cX2_taken 5 = .ok (.lload_n 3, 1) := by decide +kernel
theorem dX2_taken_6 : decode cX2_taken 6 = .ok (.lor, 1) := by decide +kernel
theorem dX2_taken_7 : decode cX2_taken 7 = .ok (.lload 5, 2) := by decide +kernel
theorem dX2_taken_9 : decode cX2_taken 9 = .ok (.lor, 1) := by decide +kernel
theorem dX2_taken_10 : decode cX2_taken 10 = .ok (.ldc2_w 22, 3) := by decide +kernel
theorem dX2_taken_13 : decode cX2_taken 13 = .ok (.lxor, 1) := by decide +kernel
theorem dX2_taken_14 : decode cX2_taken 14 = .ok (.land, 1) := by decide +kernel
theorem dX2_taken_15 : decode cX2_taken 15 = .ok (.lstore 7, 2) := by decide +kernel
theorem dX2_taken_17 : decode cX2_taken 17 = .ok (.lload_n 3, 1) := by decide +kernel
theorem dX2_taken_18 : decode cX2_taken 18 = .ok (.aload_n 0, 1) := by decide +kernel
theorem dX2_taken_19 : decode cX2_taken 19 = .ok (.lload_n 3, 1) := by decide +kernel
theorem dX2_taken_20 : decode cX2_taken 20 = .ok (.aload_n 0, 1) := by decide +kernel
theorem dX2_taken_21 : decode cX2_taken 21 = .ok (.lload 7, 2) := by decide +kernel
theorem dX2_taken_23 : decode cX2_taken 23 = .ok (.invokevirtual 30, 3) := by decide +kernel
theorem dX2_taken_26 : decode cX2_taken 26 = .ok (.invokevirtual 34, 3) := by decide +kernel
theorem dX2_taken_29 : decode cX2_taken 29 = .ok (.ldc2_w 22, 3) := by decide +kernel
theorem dX2_taken_32 : decode cX2_taken 32 = .ok (.lxor, 1) := by decide +kernel
theorem dX2_taken_33 : decode cX2_taken 33 = .ok (.land, 1) := by decide +kernel
theorem dX2_taken_34 : decode cX2_taken 34 = .ok (.lreturn, 1) := by decide +kernel
set_option maxRecDepth 20000 in
theorem ggX2_groups_X2_connected : GoodIn wsX2_groups wsX2_connected := goodIn_r _ [6, 7, 8, 9, 5, 10, 11, 12, 13, 14, 15, 16, 17, 18, 19] (by decide +kernel) (by decide +kernel)
set_option maxRecDepth 20000 in
theorem gX2_groups_X2_connected : GoodIn wsX2_groups (wsV RX2 34 RX2 yX2_connected wsX2_connected) := goodIn_app (goodIn_of _ (by decide +kernel)) ggX2_groups_X2_connected
theorem dX2_groups_0 : decode cX2_groups 0 = .ok (.iconst 0, 1) := by decide +kernel
theorem dX2_groups_1 : decode cX2_groups 1 = .ok (.istore_n 3, 1) := by decide +kernel
theorem dX2_groups_2 : decode cX2_groups 2 = .ok (.lload_n 1, 1) := by decide +kernel
theorem dX2_groups_3 : decode cX2_groups 3 = .ok (.lstore 4, 2) := by decide +kernel
theorem dX2_groups_5 : decode cX2_groups 5 = .ok (.iconst 0, 1) := by decide +kernel
theorem dX2_groups_6 : decode cX2_groups 6 = .ok (.istore 6, 2) := by decide +kernel
theorem dX2_groups_8 : decode cX2_groups 8 = .ok (.iload 6, 2) := by decide +kernel
theorem dX2_groups_10 : decode cX2_groups 10 = .ok (.bipush 49, 2) := by decide +kernel
theorem dX2_groups_12 : decode cX2_groups 12 = .ok (.if_icmp .ge 39, 3) := by decide +kernel
theorem dX2_groups_15 : decode cX2_groups 15 = .ok (.lload 4, 2) := by decide +kernel
theorem dX2_groups_17 : decode cX2_groups 17 = .ok (.lconst 0, 1) := by decide +kernel
theorem dX2_groups_18 : decode cX2_groups 18 = .ok (.lcmp, 1) := by decide +kernel
theorem dX2_groups_19 : decode cX2_groups 19 = .ok (.ifCond .eq 32, 3) := by decide +kernel
theorem dX2_groups_22 : decode cX2_groups 22 = .ok (.lload 4, 2) := by decide +kernel
theorem dX2_groups_24 : decode cX2_groups 24 = .ok (.aload_n 0, 1) := by decide +kernel
theorem dX2_groups_25 : decode cX2_groups 25 = .ok (.lload_n 1, 1) := by decide +kernel
theorem dX2_groups_26 : decode cX2_groups 26 = .ok (.lload 4, 2) := by decide +kernel
theorem dX2_groups_28 : decode cX2_groups 28 = .ok (.lload 4, 2) := by decide +kernel
theorem dX2_groups_30 : decode cX2_groups 30 = .ok (.lneg, 1) := by decide +kernel
theorem dX2_groups_31 : decode cX2_groups 31 = .ok (.land, 1) := by decide +kernel
theorem dX2_groups_32 : decode cX2_groups 32 = .ok (.invokevirtual 34, 3) := by decide +kernel
theorem dX2_groups_35 : decode cX2_groups 35 = .ok (.ldc2_w 22, 3) := by decide +kernel
theorem dX2_groups_38 : decode cX2_groups 38 = .ok (.lxor, 1) := by decide +kernel
theorem dX2_groups_39 : decode cX2_groups 39 = .ok (.land, 1) := by decide +kernel
theorem dX2_groups_40 : decode cX2_groups 40 = .ok (.lstore 4, 2) := by decide +kernel
theorem dX2_groups_42 : decode cX2_groups 42 = .ok (.iinc 3 1, 3) := by decide +kernel
theorem dX2_groups_45 : decode cX2_groups 45 = .ok (.iinc 6 1, 3) := by decide +kernel
theorem dX2_groups_48 : decode cX2_groups 48 = .ok (.goto (-40), 3) := by decide +kernel
theorem dX2_groups_51 : decode cX2_groups 51 = .ok (.iload_n 3, 1) := by decide +kernel
theorem dX2_groups_52 : decode cX2_groups 52 = .ok (.ireturn, 1) := by decide +kernel
set_option maxRecDepth 20000 in
theorem ggX2_groupsWithOneLiberty_X2_liberties : GoodIn wsX2_groupsWithOneLiberty wsX2_liberties := goodIn_r _ [6, 7, 1, 8, 9, 10, 5, 11, 12, 13, 14, 15, 16, 17, 18, 26, 27, 28, 29, 30] (by decide +kernel) (by decide +kernel)
set_option maxRecDepth 20000 in
theorem gX2_groupsWithOneLiberty_X2_liberties : GoodIn wsX2_groupsWithOneLiberty (wsV RX2 38 RX2 yX2_liberties wsX2_liberties) := goodIn_app (goodIn_of _ (by decide +kernel)) ggX2_groupsWithOneLiberty_X2_liberties
set_option maxRecDepth 20000 in
theorem ggX2_groupsWithOneLiberty_J13_bitCount_95d88 : GoodIn wsX2_groupsWithOneLiberty wsJ13_bitCount_95d88 := goodIn_r _ [22, 23, 24, 25] (by decide +kernel) (by decide +kernel)
set_option maxRecDepth 20000 in
theorem gX2_groupsWithOneLiberty_J13_bitCount_95d88 : GoodIn wsX2_groupsWithOneLiberty (va_wsS RX2 42 yJ13_bitCount_95d88 wsJ13_bitCount_95d88) := goodIn_app (goodIn_of _ (by decide +kernel)) ggX2_groupsWithOneLiberty_J13_bitCount_95d88
set_option maxRecDepth 20000 in
theorem ggX2_groupsWithOneLiberty_X2_connected : GoodIn wsX2_groupsWithOneLiberty wsX2_connected := goodIn_r _ [11, 12, 13, 14, 5, 15, 16, 17, 18, 7, 26, 27, 28, 29, 30] (by decide +kernel) (by decide +kernel)
set_option maxRecDepth 20000 in
theorem gX2_groupsWithOneLiberty_X2_connected : GoodIn wsX2_groupsWithOneLiberty (wsV RX2 34 RX2 yX2_connected wsX2_connected) := goodIn_app (goodIn_of _ (by decide +kernel)) ggX2_groupsWithOneLiberty_X2_connected
theorem dX2_groupsWithOneLiberty_0 : decode cX2_groupsWithOneLiberty 0 = .ok (.iconst 0, 1) := by decide +kernel
theorem dX2_groupsWithOneLiberty_1 : decode cX2_groupsWithOneLiberty 1 = .ok (.istore 5, 2) := by decide +kernel
theorem dX2_groupsWithOneLiberty_3 : decode cX2_groupsWithOneLiberty 3 = .ok (.lload_n 1, 1) := by decide +kernel
theorem dX2_groupsWithOneLiberty_4 : decode cX2_groupsWithOneLiberty 4 = .ok (.lstore 6, 2) := by decide +kernel
theorem dX2_groupsWithOneLiberty_6 : decode cX2_groupsWithOneLiberty 6 = .ok (.iconst 0, 1) := by decide +kernel
theorem dX2_groupsWithOneLiberty_7 : decode cX2_groupsWithOneLiberty 7 = .ok (.istore 8, 2) := by decide +kernel
theorem dX2_groupsWithOneLiberty_9 : decode cX2_groupsWithOneLiberty 9 = .ok (.iload 8, 2) := by decide +kernel
theorem dX2_groupsWithOneLiberty_11 : decode cX2_groupsWithOneLiberty 11 = .ok (.bipush 49, 2) := by decide +kernel
theorem dX2_groupsWithOneLiberty_13 : decode cX2_groupsWithOneLiberty 13 = .ok (.if_icmp .ge 58, 3) := by decide +kernel
theorem dX2_groupsWithOneLiberty_16 : decode cX2_groupsWithOneLiberty 16 = .ok (.lload 6, 2) := by decide +kernel
theorem dX2_groupsWithOneLiberty_18 : decode cX2_groupsWithOneLiberty 18 = .ok (.lconst 0, 1) := by decide +kernel
theorem dX2_groupsWithOneLiberty_19 : decode cX2_groupsWithOneLiberty 19 = .ok (.lcmp, 1) := by decide +kernel
theorem dX2_groupsWithOneLiberty_20 : decode cX2_groupsWithOneLiberty 20 = .ok (.ifCond .eq 51, 3) := by decide +kernel
theorem dX2_groupsWithOneLiberty_23 : decode cX2_groupsWithOneLiberty 23 = .ok (.lload 6, 2) := by decide +kernel
theorem dX2_groupsWithOneLiberty_25 : decode cX2_groupsWithOneLiberty 25 = .ok (.lload 6, 2) := by decide +kernel
theorem dX2_groupsWithOneLiberty_27 : decode cX2_groupsWithOneLiberty 27 = .ok (.lneg, 1) := by decide +kernel
theorem dX2_groupsWithOneLiberty_28 : decode cX2_groupsWithOneLiberty 28 = .ok (.land, 1) := by decide +kernel
theorem dX2_groupsWithOneLiberty_29 : decode cX2_groupsWithOneLiberty 29 = .ok (.lstore 9, 2) := by decide +kernel
theorem dX2_groupsWithOneLiberty_31 : decode cX2_groupsWithOneLiberty 31 = .ok (.aload_n 0, 1) := by decide +kernel
theorem dX2_groupsWithOneLiberty_32 : decode cX2_groupsWithOneLiberty 32 = .ok (.lload_n 1, 1) := by decide +kernel
theorem dX2_groupsWithOneLiberty_33 : decode cX2_groupsWithOneLiberty 33 = .ok (.lload_n 3, 1) := by decide +kernel
theorem dX2_groupsWithOneLiberty_34 : decode cX2_groupsWithOneLiberty 34 = .ok (.lload 9, 2) := by decide +kernel
theorem dX2_groupsWithOneLiberty_36 : decode cX2_groupsWithOneLiberty 36 = .ok (.invokevirtual 38, 3) := by decide +kernel
theorem dX2_groupsWithOneLiberty_39 : decode cX2_groupsWithOneLiberty 39 = .ok (.invokestatic 42, 3) := by decide +kernel
theorem dX2_groupsWithOneLiberty_42 : decode cX2_groupsWithOneLiberty 42 = .ok (.iconst 1, 1) := by decide +kernel
theorem dX2_groupsWithOneLiberty_43 : decode cX2_groupsWithOneLiberty 43 = .ok (.if_icmp .ne 6, 3) := by decide +kernel
theorem dX2_groupsWithOneLiberty_46 : decode cX2_groupsWithOneLiberty 46 = .ok (.iinc 5 1, 3) := by decide +kernel
theorem dX2_groupsWithOneLiberty_49 : decode cX2_groupsWithOneLiberty 49 = .ok (.lload 6, 2) := by decide +kernel
theorem dX2_groupsWithOneLiberty_51 : decode cX2_groupsWithOneLiberty 51 = .ok (.aload_n 0, 1) := by decide +kernel
theorem dX2_groupsWithOneLiberty_52 : decode cX2_groupsWithOneLiberty 52 = .ok (.lload_n 1, 1) := by decide +kernel
theorem dX2_groupsWithOneLiberty_53 : decode cX2_groupsWithOneLiberty 53 = .ok (.lload 9, 2) := by decide +kernel
theorem dX2_groupsWithOneLiberty_55 : decode cX2_groupsWithOneLiberty 55 = .ok (.invokevirtual 34, 3) := by decide +kernel
theorem dX2_groupsWithOneLiberty_58 : decode cX2_groupsWithOneLiberty 58 = .ok (.ldc2_w 22, 3) := by decide +kernel
theorem dX2_groupsWithOneLiberty_61 : decode cX2_groupsWithOneLiberty 61 = .ok (.lxor, 1) := by decide +kernel
theorem dX2_groupsWithOneLiberty_62 : decode cX2_groupsWithOneLiberty 62 = .ok (.land, 1) := by decide +kernel
theorem dX2_groupsWithOneLiberty_63 : decode cX2_groupsWithOneLiberty 63 = .ok (.lstore 6, 2) := by decide +kernel
theorem dX2_groupsWithOneLiberty_65 : decode cX2_groupsWithOneLiberty 65 = .ok (.iinc 8 1, 3) := by decide +kernel
theorem dX2_groupsWithOneLiberty_68 : decode cX2_groupsWithOneLiberty 68 = .ok (.goto (-59), 3) := by decide +kernel
theorem dX2_groupsWithOneLiberty_71 : decode cX2_groupsWithOneLiberty 71 = .ok (.iload 5, 2) := by decide +kernel
theorem dX2_groupsWithOneLiberty_73 : decode cX2_groupsWithOneLiberty 73 = .ok (.ireturn, 1) := by decide +kernel
set_option maxRecDepth 20000 in
theorem ggX2_enclosed_X2_around : GoodIn wsX2_enclosed wsX2_around := goodIn_r _ [7, 8, 9, 10, 1, 15, 16, 17, 18, 19] (by decide +kernel) (by decide +kernel)
set_option maxRecDepth 20000 in
theorem gX2_enclosed_X2_around : GoodIn wsX2_enclosed (wsV RX2 30 RX2 yX2_around wsX2_around) := goodIn_app (goodIn_of _ (by decide +kernel)) ggX2_enclosed_X2_around
set_option maxRecDepth 20000 in
theorem ggX2_enclosed_X2_connected : GoodIn wsX2_enclosed wsX2_connected := goodIn_r _ [14, 3, 4, 5, 6, 7, 8, 9, 10, 1, 15, 16, 17, 18, 19] (by decide +kernel) (by decide +kernel)
set_option maxRecDepth 20000 in
theorem gX2_enclosed_X2_connected : GoodIn wsX2_enclosed (wsV RX2 34 RX2 yX2_connected wsX2_connected) := goodIn_app (goodIn_of _ (by decide +kernel)) ggX2_enclosed_X2_connected
theorem dX2_enclosed_0 : decode cX2_enclosed 0 = .ok (.aload_n 0, 1) := by decide +kernel
theorem dX2_enclosed_1 : decode cX2_enclosed 1 = .ok (.getfield 18, 3) := by decide +kernel
theorem dX2_enclosed_4 : decode cX2_enclosed 4 = .ok (.lload_n 1, 1) := by decide +kernel
theorem dX2_enclosed_5 : decode cX2_enclosed 5 = .ok (.lload_n 3, 1) := by decide +kernel
theorem dX2_enclosed_6 : decode cX2_enclosed 6 = .ok (.lor, 1) := by decide +kernel
theorem dX2_enclosed_7 : decode cX2_enclosed 7 = .ok (.ldc2_w 22, 3) := by decide +kernel
theorem dX2_enclosed_10 : decode cX2_enclosed 10 = .ok (.lxor, 1) := by decide +kernel
theorem dX2_enclosed_11 : decode cX2_enclosed 11 = .ok (.land, 1) := by decide +kernel
theorem dX2_enclosed_12 : decode cX2_enclosed 12 = .ok (.lstore 5, 2) := by decide +kernel
theorem dX2_enclosed_14 : decode cX2_enclosed 14 = .ok (.aload_n 0, 1) := by decide +kernel
theorem dX2_enclosed_15 : decode cX2_enclosed 15 = .ok (.lload 5, 2) := by decide +kernel
theorem dX2_enclosed_17 : decode cX2_enclosed 17 = .ok (.aload_n 0, 1) := by decide +kernel
theorem dX2_enclosed_18 : decode cX2_enclosed 18 = .ok (.lload_n 1, 1) := by decide +kernel
theorem dX2_enclosed_19 : decode cX2_enclosed 19 = .ok (.invokevirtual 30, 3) := by decide +kernel
theorem dX2_enclosed_22 : decode cX2_enclosed 22 = .ok (.invokevirtual 34, 3) := by decide +kernel
theorem dX2_enclosed_25 : decode cX2_enclosed 25 = .ok (.aload_n 0, 1) := by decide +kernel
theorem dX2_enclosed_26 : decode cX2_enclosed 26 = .ok (.lload 5, 2) := by decide +kernel
theorem dX2_enclosed_28 : decode cX2_enclosed 28 = .ok (.aload_n 0, 1) := by decide +kernel
theorem dX2_enclosed_29 : decode cX2_enclosed 29 = .ok (.lload_n 3, 1) := by decide +kernel
theorem dX2_enclosed_30 : decode cX2_enclosed 30 = .ok (.invokevirtual 30, 3) := by decide +kernel
theorem dX2_enclosed_33 : decode cX2_enclosed 33 = .ok (.invokevirtual 34, 3) := by decide +kernel
theorem dX2_enclosed_36 : decode cX2_enclosed 36 = .ok (.ldc2_w 22, 3) := by decide +kernel
theorem dX2_enclosed_39 : decode cX2_enclosed 39 = .ok (.lxor, 1) := by decide +kernel
theorem dX2_enclosed_40 : decode cX2_enclosed 40 = .ok (.land, 1) := by decide +kernel
theorem dX2_enclosed_41 : decode cX2_enclosed 41 = .ok (.lreturn, 1) := by decide +kernel
set_option maxRecDepth 20000 in
theorem ggX2_eyes_X2_around : GoodIn wsX2_eyes wsX2_around := goodIn_r _ [7, 8, 9, 10, 1, 11, 12, 13, 14, 15] (by decide +kernel) (by decide +kernel)
set_option maxRecDepth 20000 in
theorem gX2_eyes_X2_around : GoodIn wsX2_eyes (wsV RX2 30 RX2 yX2_around wsX2_around) := goodIn_app (goodIn_of _ (by decide +kernel)) ggX2_eyes_X2_around
theorem dX2_eyes_0 : decode cX2_eyes 0 = .ok (.aload_n 0, 1) := by decide +kernel
theorem dX2_eyes_1 : decode cX2_eyes 1 = .ok (.getfield 18, 3) := by decide +kernel
theorem dX2_eyes_4 : decode cX2_eyes 4 = .ok (.lload_n 1, 1) := by decide +kernel
theorem dX2_eyes_5 : decode cX2_eyes 5 = .ok (.lload_n 3, 1) := by decide +kernel
theorem dX2_eyes_6 : decode cX2_eyes 6 = .ok (.lor, 1) := by decide +kernel
theorem dX2_eyes_7 : decode cX2_eyes 7 = .ok (.ldc2_w 22, 3) := by decide +kernel
theorem dX2_eyes_10 : decode cX2_eyes 10 = .ok (.lxor, 1) := by decide +kernel
theorem dX2_eyes_11 : decode cX2_eyes 11 = .ok (.land, 1) := by decide +kernel
theorem dX2_eyes_12 : decode cX2_eyes 12 = .ok (.aload_n 0, 1) := by decide +kernel
theorem dX2_eyes_13 : decode cX2_eyes 13 = .ok (.aload_n 0, 1) := by decide +kernel
theorem dX2_eyes_14 : decode cX2_eyes 14 = .ok (.getfield 18, 3) := by decide +kernel
theorem dX2_eyes_17 : decode cX2_eyes 17 = .ok (.lload_n 1, 1) := by decide +kernel
theorem dX2_eyes_18 : decode cX2_eyes 18 = .ok (.ldc2_w 22, 3) := by decide +kernel
theorem dX2_eyes_21 : decode cX2_eyes 21 = .ok (.lxor, 1) := by decide +kernel
theorem dX2_eyes_22 : decode cX2_eyes 22 = .ok (.land, 1) := by decide +kernel
theorem dX2_eyes_23 : decode cX2_eyes 23 = .ok (.invokevirtual 30, 3) := by decide +kernel
theorem dX2_eyes_26 : decode cX2_eyes 26 = .ok (.ldc2_w 22, 3) := by decide +kernel
theorem dX2_eyes_29 : decode cX2_eyes 29 = .ok (.lxor, 1) := by decide +kernel
theorem dX2_eyes_30 : decode cX2_eyes 30 = .ok (.land, 1) := by decide +kernel
theorem dX2_eyes_31 : decode cX2_eyes 31 = .ok (.lreturn, 1) := by decide +kernel
set_option maxRecDepth 20000 in
theorem ggX2_falseAmong_X2_across : GoodIn wsX2_falseAmong wsX2_across := goodIn_r _ [5, 6, 7, 8, 9, 17, 18, 19, 20, 21] (by decide +kernel) (by decide +kernel)
set_option maxRecDepth 20000 in
theorem gX2_falseAmong_X2_across : GoodIn wsX2_falseAmong (wsV RX2 48 RX2 yX2_across wsX2_across) := goodIn_app (goodIn_of _ (by decide +kernel)) ggX2_falseAmong_X2_across
set_option maxRecDepth 20000 in
theorem ggX2_falseAmong_J13_bitCount_95d88 : GoodIn wsX2_falseAmong wsJ13_bitCount_95d88 := goodIn_r _ [13, 14, 15, 16] (by decide +kernel) (by decide +kernel)
set_option maxRecDepth 20000 in
theorem gX2_falseAmong_J13_bitCount_95d88 : GoodIn wsX2_falseAmong (va_wsS RX2 42 yJ13_bitCount_95d88 wsJ13_bitCount_95d88) := goodIn_app (goodIn_of _ (by decide +kernel)) ggX2_falseAmong_J13_bitCount_95d88
theorem dX2_falseAmong_0 : decode cX2_falseAmong 0 = .ok (.lconst 0, 1) := by decide +kernel
theorem dX2_falseAmong_1 : decode cX2_falseAmong 1 = .ok (.lstore 5, 2) := by decide +kernel
theorem dX2_falseAmong_3 : decode cX2_falseAmong 3 = .ok (.lload_n 1, 1) := by decide +kernel
theorem dX2_falseAmong_4 : decode cX2_falseAmong 4 = .ok (.lstore 7, 2) := by decide +kernel
theorem dX2_falseAmong_6 : decode cX2_falseAmong 6 = .ok (.iconst 0, 1) := by decide +kernel
theorem dX2_falseAmong_7 : decode cX2_falseAmong 7 = .ok (.istore 9, 2) := by decide +kernel
theorem dX2_falseAmong_9 : decode cX2_falseAmong 9 = .ok (.iload 9, 2) := by decide +kernel
theorem dX2_falseAmong_11 : decode cX2_falseAmong 11 = .ok (.bipush 49, 2) := by decide +kernel
theorem dX2_falseAmong_13 : decode cX2_falseAmong 13 = .ok (.if_icmp .ge 74, 3) := by decide +kernel
theorem dX2_falseAmong_16 : decode cX2_falseAmong 16 = .ok (.lload 7, 2) := by decide +kernel
theorem dX2_falseAmong_18 : decode cX2_falseAmong 18 = .ok (.lconst 0, 1) := by decide +kernel
theorem dX2_falseAmong_19 : decode cX2_falseAmong 19 = .ok (.lcmp, 1) := by decide +kernel
theorem dX2_falseAmong_20 : decode cX2_falseAmong 20 = .ok (.ifCond .eq 67, 3) := by decide +kernel
theorem dX2_falseAmong_23 : decode cX2_falseAmong 23 = .ok (.lload 7, 2) := by decide +kernel
theorem dX2_falseAmong_25 : decode cX2_falseAmong 25 = .ok (.lload 7, 2) := by decide +kernel
theorem dX2_falseAmong_27 : decode cX2_falseAmong 27 = .ok (.lneg, 1) := by decide +kernel
theorem dX2_falseAmong_28 : decode cX2_falseAmong 28 = .ok (.land, 1) := by decide +kernel
theorem dX2_falseAmong_29 : decode cX2_falseAmong 29 = .ok (.lstore 10, 2) := by decide +kernel
theorem dX2_falseAmong_31 : decode cX2_falseAmong 31 = .ok (.aload_n 0, 1) := by decide +kernel
theorem dX2_falseAmong_32 : decode cX2_falseAmong 32 = .ok (.lload 10, 2) := by decide +kernel
theorem dX2_falseAmong_34 : decode cX2_falseAmong 34 = .ok (.invokevirtual 48, 3) := by decide +kernel
theorem dX2_falseAmong_37 : decode cX2_falseAmong 37 = .ok (.lstore 12, 2) := by decide +kernel
theorem dX2_falseAmong_39 : decode cX2_falseAmong 39 = .ok (.lload 12, 2) := by decide +kernel
theorem dX2_falseAmong_41 : decode cX2_falseAmong 41 = .ok (.invokestatic 42, 3) := by decide +kernel
theorem dX2_falseAmong_44 : decode cX2_falseAmong 44 = .ok (.iconst 4, 1) := by decide +kernel
theorem dX2_falseAmong_45 : decode cX2_falseAmong 45 = .ok (.if_icmp .ge 7, 3) := by decide +kernel
theorem dX2_falseAmong_48 : decode cX2_falseAmong 48 = .ok (.iconst 1, 1) := by decide +kernel
theorem dX2_falseAmong_49 : decode cX2_falseAmong 49 = .ok (.goto 4, 3) := by decide +kernel
theorem dX2_falseAmong_52 : decode cX2_falseAmong 52 = .ok (.iconst 2, 1) := by decide +kernel
theorem dX2_falseAmong_53 : decode cX2_falseAmong 53 = .ok (.istore 14, 2) := by decide +kernel
theorem dX2_falseAmong_55 : decode cX2_falseAmong 55 = .ok (.lload 12, 2) := by decide +kernel
theorem dX2_falseAmong_57 : decode cX2_falseAmong 57 = .ok (.lload_n 3, 1) := by decide +kernel
theorem dX2_falseAmong_58 : decode cX2_falseAmong 58 = .ok (.land, 1) := by decide +kernel
theorem dX2_falseAmong_59 : decode cX2_falseAmong 59 = .ok (.invokestatic 42, 3) := by decide +kernel
theorem dX2_falseAmong_62 : decode cX2_falseAmong 62 = .ok (.iload 14, 2) := by decide +kernel
theorem dX2_falseAmong_64 : decode cX2_falseAmong 64 = .ok (.if_icmp .lt 10, 3) := by decide +kernel
theorem dX2_falseAmong_67 : decode cX2_falseAmong 67 = .ok (.lload 5, 2) := by decide +kernel
theorem dX2_falseAmong_69 : decode cX2_falseAmong 69 = .ok (.lload 10, 2) := by decide +kernel
theorem dX2_falseAmong_71 : decode cX2_falseAmong 71 = .ok (.lor, 1) := by decide +kernel
theorem dX2_falseAmong_72 : decode cX2_falseAmong 72 = .ok (.lstore 5, 2) := by decide +kernel
theorem dX2_falseAmong_74 : decode cX2_falseAmong 74 = .ok (.lload 7, 2) := by decide +kernel
theorem dX2_falseAmong_76 : decode cX2_falseAmong 76 = .ok (.lload 10, 2) := by decide +kernel
theorem dX2_falseAmong_78 : decode cX2_falseAmong 78 = .ok (.lxor, 1) := by decide +kernel
theorem dX2_falseAmong_79 : decode cX2_falseAmong 79 = .ok (.lstore 7, 2) := by decide +kernel
theorem dX2_falseAmong_81 : decode cX2_falseAmong 81 = .ok (.iinc 9 1, 3) := by decide +kernel
theorem dX2_falseAmong_84 : decode cX2_falseAmong 84 = .ok (.goto (-75), 3) := by decide +kernel
theorem dX2_falseAmong_87 : decode cX2_falseAmong 87 = .ok (.lload 5, 2) := by decide +kernel
theorem dX2_falseAmong_89 : decode cX2_falseAmong 89 = .ok (.lreturn, 1) := by decide +kernel
set_option maxRecDepth 20000 in
theorem ggX3_firstStone_X2_liberties : GoodIn wsX3_firstStone wsX2_liberties := goodIn_r _ [6, 7, 8, 9, 10, 11, 5, 12, 13, 14, 15, 16, 17, 18, 19, 37, 38, 39, 40, 41] (by decide +kernel) (by decide +kernel)
set_option maxRecDepth 20000 in
theorem gX3_firstStone_X2_liberties : GoodIn wsX3_firstStone (wsV RX3 7 RX2 yX2_liberties wsX2_liberties) := goodIn_app (goodIn_of _ (by decide +kernel)) ggX3_firstStone_X2_liberties
set_option maxRecDepth 20000 in
theorem ggX3_firstStone_J13_bitCount_95d88 : GoodIn wsX3_firstStone wsJ13_bitCount_95d88 := goodIn_r _ [23, 24, 25, 26] (by decide +kernel) (by decide +kernel)
set_option maxRecDepth 20000 in
theorem gX3_firstStone_J13_bitCount_95d88 : GoodIn wsX3_firstStone (va_wsS RX3 13 yJ13_bitCount_95d88 wsJ13_bitCount_95d88) := goodIn_app (goodIn_of _ (by decide +kernel)) ggX3_firstStone_J13_bitCount_95d88
set_option maxRecDepth 20000 in
theorem ggX3_firstStone_X2_taken : GoodIn wsX3_firstStone wsX2_taken := goodIn_r _ [30, 7, 8, 13, 14, 15, 5, 16, 17, 18, 19, 9, 10, 11, 12, 37, 38, 39, 40, 41] (by decide +kernel) (by decide +kernel)
set_option maxRecDepth 20000 in
theorem gX3_firstStone_X2_taken : GoodIn wsX3_firstStone (wsV RX3 19 RX2 yX2_taken wsX2_taken) := goodIn_app (goodIn_of _ (by decide +kernel)) ggX3_firstStone_X2_taken
set_option maxRecDepth 20000 in
theorem ggX3_firstStone_X3_holdsOwner : GoodIn wsX3_firstStone wsX3_holdsOwner := goodIn_r _ [34, 1, 2, 3, 4, 5, 6, 7, 8, 9, 10, 11, 12, 13, 14, 15, 16, 17, 18, 19, 20, 21, 22, 23, 24, 25, 26, 27, 28, 29, 30, 35, 36, 33, 0, 31, 32, 37, 38, 39, 40, 41] (by decide +kernel) (by decide +kernel)
set_option maxRecDepth 20000 in
theorem gX3_firstStone_X3_holdsOwner : GoodIn wsX3_firstStone (va_wsS RX3 24 yX3_holdsOwner wsX3_holdsOwner) := goodIn_app (goodIn_of _ (by decide +kernel)) ggX3_firstStone_X3_holdsOwner
theorem dX3_firstStone_0 : decode cX3_firstStone 0 = .ok (.aload_n 0, 1) := by decide +kernel
theorem dX3_firstStone_1 : decode cX3_firstStone 1 = .ok (.lload_n 3, 1) := by decide +kernel
theorem dX3_firstStone_2 : decode cX3_firstStone 2 = .ok (.lload_n 1, 1) := by decide +kernel
theorem dX3_firstStone_3 : decode cX3_firstStone 3 = .ok (.lload 5, 2) := by decide +kernel
theorem dX3_firstStone_5 : decode cX3_firstStone 5 = .ok (.invokevirtual 7, 3) := by decide +kernel
theorem dX3_firstStone_8 : decode cX3_firstStone 8 = .ok (.lstore 8, 2) := by decide +kernel
theorem dX3_firstStone_10 : decode cX3_firstStone 10 = .ok (.lload 8, 2) := by decide +kernel
theorem dX3_firstStone_12 : decode cX3_firstStone 12 = .ok (.invokestatic 13, 3) := by decide +kernel
theorem dX3_firstStone_15 : decode cX3_firstStone 15 = .ok (.istore 10, 2) := by decide +kernel
theorem dX3_firstStone_17 : decode cX3_firstStone 17 = .ok (.iload 7, 2) := by decide +kernel
theorem dX3_firstStone_19 : decode cX3_firstStone 19 = .ok (.ifCond .le 9, 3) := by decide +kernel
theorem dX3_firstStone_22 : decode cX3_firstStone 22 = .ok (.iload 10, 2) := by decide +kernel
theorem dX3_firstStone_24 : decode cX3_firstStone 24 = .ok (.iconst 2, 1) := by decide +kernel
theorem dX3_firstStone_25 : decode cX3_firstStone 25 = .ok (.if_icmp .le 5, 3) := by decide +kernel
theorem dX3_firstStone_28 : decode cX3_firstStone 28 = .ok (.lconst 0, 1) := by decide +kernel
theorem dX3_firstStone_29 : decode cX3_firstStone 29 = .ok (.lreturn, 1) := by decide +kernel
theorem dX3_firstStone_30 : decode cX3_firstStone 30 = .ok (.iconst 0, 1) := by decide +kernel
theorem dX3_firstStone_31 : decode cX3_firstStone 31 = .ok (.istore 11, 2) := by decide +kernel
theorem dX3_firstStone_33 : decode cX3_firstStone 33 = .ok (.iload 11, 2) := by decide +kernel
theorem dX3_firstStone_35 : decode cX3_firstStone 35 = .ok (.iload 10, 2) := by decide +kernel
theorem dX3_firstStone_37 : decode cX3_firstStone 37 = .ok (.if_icmp .ge 97, 3) := by decide +kernel
theorem dX3_firstStone_40 : decode cX3_firstStone 40 = .ok (.lload 8, 2) := by decide +kernel
theorem dX3_firstStone_42 : decode cX3_firstStone 42 = .ok (.lload 8, 2) := by decide +kernel
theorem dX3_firstStone_44 : decode cX3_firstStone 44 = .ok (.lneg, 1) := by decide +kernel
theorem dX3_firstStone_45 : decode cX3_firstStone 45 = .ok (.land, 1) := by decide +kernel
theorem dX3_firstStone_46 : decode cX3_firstStone 46 = .ok (.lstore 12, 2) := by decide +kernel
theorem dX3_firstStone_48 : decode cX3_firstStone 48 = .ok (.lload_n 3, 1) := by decide +kernel
theorem dX3_firstStone_49 : decode cX3_firstStone 49 = .ok (.aload_n 0, 1) := by decide +kernel
theorem dX3_firstStone_50 : decode cX3_firstStone 50 = .ok (.lload_n 1, 1) := by decide +kernel
theorem dX3_firstStone_51 : decode cX3_firstStone 51 = .ok (.lload_n 3, 1) := by decide +kernel
theorem dX3_firstStone_52 : decode cX3_firstStone 52 = .ok (.lload 12, 2) := by decide +kernel
theorem dX3_firstStone_54 : decode cX3_firstStone 54 = .ok (.invokevirtual 19, 3) := by decide +kernel
theorem dX3_firstStone_57 : decode cX3_firstStone 57 = .ok (.ldc2_w 22, 3) := by decide +kernel
theorem dX3_firstStone_60 : decode cX3_firstStone 60 = .ok (.lxor, 1) := by decide +kernel
theorem dX3_firstStone_61 : decode cX3_firstStone 61 = .ok (.land, 1) := by decide +kernel
theorem dX3_firstStone_62 : decode cX3_firstStone 62 = .ok (.lstore 14, 2) := by decide +kernel
theorem dX3_firstStone_64 : decode cX3_firstStone 64 = .ok (.aload_n 0, 1) := by decide +kernel
theorem dX3_firstStone_65 : decode cX3_firstStone 65 = .ok (.lload_n 1, 1) := by decide +kernel
theorem dX3_firstStone_66 : decode cX3_firstStone 66 = .ok (.lload 12, 2) := by decide +kernel
theorem dX3_firstStone_68 : decode cX3_firstStone 68 = .ok (.lor, 1) := by decide +kernel
theorem dX3_firstStone_69 : decode cX3_firstStone 69 = .ok (.lload 14, 2) := by decide +kernel
theorem dX3_firstStone_71 : decode cX3_firstStone 71 = .ok (.lload 12, 2) := by decide +kernel
theorem dX3_firstStone_73 : decode cX3_firstStone 73 = .ok (.invokevirtual 7, 3) := by decide +kernel
theorem dX3_firstStone_76 : decode cX3_firstStone 76 = .ok (.lconst 0, 1) := by decide +kernel
theorem dX3_firstStone_77 : decode cX3_firstStone 77 = .ok (.lcmp, 1) := by decide +kernel
theorem dX3_firstStone_78 : decode cX3_firstStone 78 = .ok (.ifCond .eq 7, 3) := by decide +kernel
theorem dX3_firstStone_81 : decode cX3_firstStone 81 = .ok (.iconst 1, 1) := by decide +kernel
theorem dX3_firstStone_82 : decode cX3_firstStone 82 = .ok (.goto 4, 3) := by decide +kernel
theorem dX3_firstStone_85 : decode cX3_firstStone 85 = .ok (.iconst 0, 1) := by decide +kernel
theorem dX3_firstStone_86 : decode cX3_firstStone 86 = .ok (.istore 16, 2) := by decide +kernel
theorem dX3_firstStone_88 : decode cX3_firstStone 88 = .ok (.iload 16, 2) := by decide +kernel
theorem dX3_firstStone_90 : decode cX3_firstStone 90 = .ok (.ifCond .eq 31, 3) := by decide +kernel
theorem dX3_firstStone_93 : decode cX3_firstStone 93 = .ok (.iload 10, 2) := by decide +kernel
theorem dX3_firstStone_95 : decode cX3_firstStone 95 = .ok (.iconst 1, 1) := by decide +kernel
theorem dX3_firstStone_96 : decode cX3_firstStone 96 = .ok (.if_icmp .eq 22, 3) := by decide +kernel
theorem dX3_firstStone_99 : decode cX3_firstStone 99 = .ok (.aload_n 0, 1) := by decide +kernel
theorem dX3_firstStone_100 : decode cX3_firstStone 100 = .ok (.lload_n 1, 1) := by decide +kernel
theorem dX3_firstStone_101 : decode cX3_firstStone 101 = .ok (.lload 12, 2) := by decide +kernel
theorem dX3_firstStone_103 : decode cX3_firstStone 103 = .ok (.lor, 1) := by decide +kernel
theorem dX3_firstStone_104 : decode cX3_firstStone 104 = .ok (.lload 14, 2) := by decide +kernel
theorem dX3_firstStone_106 : decode cX3_firstStone 106 = .ok (.lload 5, 2) := by decide +kernel
theorem dX3_firstStone_108 : decode cX3_firstStone 108 = .ok (.iload 7, 2) := by decide +kernel
theorem dX3_firstStone_110 : decode cX3_firstStone 110 = .ok (.iconst 1, 1) := by decide +kernel
theorem dX3_firstStone_111 : decode cX3_firstStone 111 = .ok (.isub, 1) := by decide +kernel
theorem dX3_firstStone_112 : decode cX3_firstStone 112 = .ok (.invokestatic 24, 3) := by decide +kernel
theorem dX3_firstStone_115 : decode cX3_firstStone 115 = .ok (.ifCond .eq 6, 3) := by decide +kernel
theorem dX3_firstStone_118 : decode cX3_firstStone 118 = .ok (.lload 12, 2) := by decide +kernel
theorem dX3_firstStone_120 : decode cX3_firstStone 120 = .ok (.lreturn, 1) := by decide +kernel
theorem dX3_firstStone_121 : decode cX3_firstStone 121 = .ok (.lload 8, 2) := by decide +kernel
theorem dX3_firstStone_123 : decode cX3_firstStone 123 = .ok (.lload 12, 2) := by decide +kernel
theorem dX3_firstStone_125 : decode cX3_firstStone 125 = .ok (.lxor, 1) := by decide +kernel
theorem dX3_firstStone_126 : decode cX3_firstStone 126 = .ok (.lstore 8, 2) := by decide +kernel
theorem dX3_firstStone_128 : decode cX3_firstStone 128 = .ok (.iinc 11 1, 3) := by decide +kernel
theorem dX3_firstStone_131 : decode cX3_firstStone 131 = .ok (.goto (-98), 3) := by decide +kernel
theorem dX3_firstStone_134 : decode cX3_firstStone 134 = .ok (.lconst 0, 1) := by decide +kernel
theorem dX3_firstStone_135 : decode cX3_firstStone 135 = .ok (.lreturn, 1) := by decide +kernel
set_option maxRecDepth 20000 in
theorem ggX3_holdsOwner_X2_liberties : GoodIn wsX3_holdsOwner wsX2_liberties := goodIn_r _ [6, 7, 8, 9, 10, 11, 5, 12, 13, 14, 15, 16, 17, 18, 19, 37, 38, 39, 40, 41] (by decide +kernel) (by decide +kernel)
set_option maxRecDepth 20000 in
theorem gX3_holdsOwner_X2_liberties : GoodIn wsX3_holdsOwner (wsV RX3 7 RX2 yX2_liberties wsX2_liberties) := goodIn_app (goodIn_of _ (by decide +kernel)) ggX3_holdsOwner_X2_liberties
set_option maxRecDepth 20000 in
theorem ggX3_holdsOwner_J13_bitCount_95d88 : GoodIn wsX3_holdsOwner wsJ13_bitCount_95d88 := goodIn_r _ [23, 24, 25, 26] (by decide +kernel) (by decide +kernel)
set_option maxRecDepth 20000 in
theorem gX3_holdsOwner_J13_bitCount_95d88 : GoodIn wsX3_holdsOwner (va_wsS RX3 13 yJ13_bitCount_95d88 wsJ13_bitCount_95d88) := goodIn_app (goodIn_of _ (by decide +kernel)) ggX3_holdsOwner_J13_bitCount_95d88
set_option maxRecDepth 20000 in
theorem ggX3_holdsOwner_X2_taken : GoodIn wsX3_holdsOwner wsX2_taken := goodIn_r _ [30, 7, 8, 13, 14, 15, 5, 16, 17, 18, 19, 9, 10, 11, 12, 37, 38, 39, 40, 41] (by decide +kernel) (by decide +kernel)
set_option maxRecDepth 20000 in
theorem gX3_holdsOwner_X2_taken : GoodIn wsX3_holdsOwner (wsV RX3 19 RX2 yX2_taken wsX2_taken) := goodIn_app (goodIn_of _ (by decide +kernel)) ggX3_holdsOwner_X2_taken
set_option maxRecDepth 20000 in
theorem ggX3_holdsOwner_X3_firstStone : GoodIn wsX3_holdsOwner wsX3_firstStone := goodIn_r _ [34, 1, 2, 3, 4, 5, 6, 7, 8, 9, 10, 11, 12, 13, 14, 15, 16, 17, 18, 19, 20, 21, 22, 23, 24, 25, 26, 27, 28, 29, 30, 35, 36, 33, 0, 31, 32, 37, 38, 39, 40, 41] (by decide +kernel) (by decide +kernel)
set_option maxRecDepth 20000 in
theorem gX3_holdsOwner_X3_firstStone : GoodIn wsX3_holdsOwner (va_wsS RX3 30 yX3_firstStone wsX3_firstStone) := goodIn_app (goodIn_of _ (by decide +kernel)) ggX3_holdsOwner_X3_firstStone
theorem dX3_holdsOwner_0 : decode cX3_holdsOwner 0 = .ok (.aload_n 0, 1) := by decide +kernel
theorem dX3_holdsOwner_1 : decode cX3_holdsOwner 1 = .ok (.lload_n 3, 1) := by decide +kernel
theorem dX3_holdsOwner_2 : decode cX3_holdsOwner 2 = .ok (.lload_n 1, 1) := by decide +kernel
theorem dX3_holdsOwner_3 : decode cX3_holdsOwner 3 = .ok (.lload 5, 2) := by decide +kernel
theorem dX3_holdsOwner_5 : decode cX3_holdsOwner 5 = .ok (.invokevirtual 7, 3) := by decide +kernel
theorem dX3_holdsOwner_8 : decode cX3_holdsOwner 8 = .ok (.lstore 8, 2) := by decide +kernel
theorem dX3_holdsOwner_10 : decode cX3_holdsOwner 10 = .ok (.lload 8, 2) := by decide +kernel
theorem dX3_holdsOwner_12 : decode cX3_holdsOwner 12 = .ok (.invokestatic 13, 3) := by decide +kernel
theorem dX3_holdsOwner_15 : decode cX3_holdsOwner 15 = .ok (.iconst 1, 1) := by decide +kernel
theorem dX3_holdsOwner_16 : decode cX3_holdsOwner 16 = .ok (.if_icmp .eq 5, 3) := by decide +kernel
theorem dX3_holdsOwner_19 : decode cX3_holdsOwner 19 = .ok (.iconst 0, 1) := by decide +kernel
theorem dX3_holdsOwner_20 : decode cX3_holdsOwner 20 = .ok (.ireturn, 1) := by decide +kernel
theorem dX3_holdsOwner_21 : decode cX3_holdsOwner 21 = .ok (.lload_n 1, 1) := by decide +kernel
theorem dX3_holdsOwner_22 : decode cX3_holdsOwner 22 = .ok (.aload_n 0, 1) := by decide +kernel
theorem dX3_holdsOwner_23 : decode cX3_holdsOwner 23 = .ok (.lload_n 3, 1) := by decide +kernel
theorem dX3_holdsOwner_24 : decode cX3_holdsOwner 24 = .ok (.lload_n 1, 1) := by decide +kernel
theorem dX3_holdsOwner_25 : decode cX3_holdsOwner 25 = .ok (.lload 8, 2) := by decide +kernel
theorem dX3_holdsOwner_27 : decode cX3_holdsOwner 27 = .ok (.invokevirtual 19, 3) := by decide +kernel
theorem dX3_holdsOwner_30 : decode cX3_holdsOwner 30 = .ok (.ldc2_w 22, 3) := by decide +kernel
theorem dX3_holdsOwner_33 : decode cX3_holdsOwner 33 = .ok (.lxor, 1) := by decide +kernel
theorem dX3_holdsOwner_34 : decode cX3_holdsOwner 34 = .ok (.land, 1) := by decide +kernel
theorem dX3_holdsOwner_35 : decode cX3_holdsOwner 35 = .ok (.lstore 10, 2) := by decide +kernel
theorem dX3_holdsOwner_37 : decode cX3_holdsOwner 37 = .ok (.aload_n 0, 1) := by decide +kernel
theorem dX3_holdsOwner_38 : decode cX3_holdsOwner 38 = .ok (.lload_n 3, 1) := by decide +kernel
theorem dX3_holdsOwner_39 : decode cX3_holdsOwner 39 = .ok (.lload 8, 2) := by decide +kernel
theorem dX3_holdsOwner_41 : decode cX3_holdsOwner 41 = .ok (.lor, 1) := by decide +kernel
theorem dX3_holdsOwner_42 : decode cX3_holdsOwner 42 = .ok (.lload 10, 2) := by decide +kernel
theorem dX3_holdsOwner_44 : decode cX3_holdsOwner 44 = .ok (.lload 8, 2) := by decide +kernel
theorem dX3_holdsOwner_46 : decode cX3_holdsOwner 46 = .ok (.invokevirtual 7, 3) := by decide +kernel
theorem dX3_holdsOwner_49 : decode cX3_holdsOwner 49 = .ok (.lstore 12, 2) := by decide +kernel
theorem dX3_holdsOwner_51 : decode cX3_holdsOwner 51 = .ok (.lload 12, 2) := by decide +kernel
theorem dX3_holdsOwner_53 : decode cX3_holdsOwner 53 = .ok (.lconst 0, 1) := by decide +kernel
theorem dX3_holdsOwner_54 : decode cX3_holdsOwner 54 = .ok (.lcmp, 1) := by decide +kernel
theorem dX3_holdsOwner_55 : decode cX3_holdsOwner 55 = .ok (.ifCond .ne 5, 3) := by decide +kernel
theorem dX3_holdsOwner_58 : decode cX3_holdsOwner 58 = .ok (.iconst 1, 1) := by decide +kernel
theorem dX3_holdsOwner_59 : decode cX3_holdsOwner 59 = .ok (.ireturn, 1) := by decide +kernel
theorem dX3_holdsOwner_60 : decode cX3_holdsOwner 60 = .ok (.aload_n 0, 1) := by decide +kernel
theorem dX3_holdsOwner_61 : decode cX3_holdsOwner 61 = .ok (.lload 10, 2) := by decide +kernel
theorem dX3_holdsOwner_63 : decode cX3_holdsOwner 63 = .ok (.lload_n 3, 1) := by decide +kernel
theorem dX3_holdsOwner_64 : decode cX3_holdsOwner 64 = .ok (.lload 8, 2) := by decide +kernel
theorem dX3_holdsOwner_66 : decode cX3_holdsOwner 66 = .ok (.lor, 1) := by decide +kernel
theorem dX3_holdsOwner_67 : decode cX3_holdsOwner 67 = .ok (.lload 8, 2) := by decide +kernel
theorem dX3_holdsOwner_69 : decode cX3_holdsOwner 69 = .ok (.iload 7, 2) := by decide +kernel
theorem dX3_holdsOwner_71 : decode cX3_holdsOwner 71 = .ok (.invokestatic 30, 3) := by decide +kernel
theorem dX3_holdsOwner_74 : decode cX3_holdsOwner 74 = .ok (.lconst 0, 1) := by decide +kernel
theorem dX3_holdsOwner_75 : decode cX3_holdsOwner 75 = .ok (.lcmp, 1) := by decide +kernel
theorem dX3_holdsOwner_76 : decode cX3_holdsOwner 76 = .ok (.ifCond .eq 7, 3) := by decide +kernel
theorem dX3_holdsOwner_79 : decode cX3_holdsOwner 79 = .ok (.iconst 1, 1) := by decide +kernel
theorem dX3_holdsOwner_80 : decode cX3_holdsOwner 80 = .ok (.goto 4, 3) := by decide +kernel
theorem dX3_holdsOwner_83 : decode cX3_holdsOwner 83 = .ok (.iconst 0, 1) := by decide +kernel
theorem dX3_holdsOwner_84 : decode cX3_holdsOwner 84 = .ok (.ireturn, 1) := by decide +kernel
set_option maxRecDepth 20000 in
theorem ggX4_init_X0_init : GoodIn wsX4_init wsX0_init := goodIn_r _ [10, 11, 2, 3, 12, 13, 14, 15, 19, 20, 21, 22, 23, 24, 25, 26, 27, 28, 29] (by decide +kernel) (by decide +kernel)
set_option maxRecDepth 20000 in
theorem gX4_init_X0_init : GoodIn wsX4_init (wsX0_init) := ggX4_init_X0_init
theorem dX4_init_0 : decode cX4_init 0 = .ok (.aload_n 0, 1) := by decide +kernel
theorem dX4_init_1 : decode cX4_init 1 = .ok (.invokespecial 3, 3) := by decide +kernel
theorem dX4_init_4 : decode cX4_init 4 = .ok (.aload_n 0, 1) := by decide +kernel
theorem dX4_init_5 : decode cX4_init 5 = .ok (.bipush 14, 2) := by decide +kernel
theorem dX4_init_7 : decode cX4_init 7 = .ok (.anewarray 9, 3) := by decide +kernel
theorem dX4_init_10 : decode cX4_init 10 = .ok (.putfield 11, 3) := by decide +kernel
theorem dX4_init_13 : decode cX4_init 13 = .ok (.iconst 0, 1) := by decide +kernel
theorem dX4_init_14 : decode cX4_init 14 = .ok (.istore_n 2, 1) := by decide +kernel
theorem dX4_init_15 : decode cX4_init 15 = .ok (.iload_n 2, 1) := by decide +kernel
theorem dX4_init_16 : decode cX4_init 16 = .ok (.bipush 14, 2) := by decide +kernel
theorem dX4_init_18 : decode cX4_init 18 = .ok (.if_icmp .ge 23, 3) := by decide +kernel
theorem dX4_init_21 : decode cX4_init 21 = .ok (.aload_n 0, 1) := by decide +kernel
theorem dX4_init_22 : decode cX4_init 22 = .ok (.getfield 11, 3) := by decide +kernel
theorem dX4_init_25 : decode cX4_init 25 = .ok (.iload_n 2, 1) := by decide +kernel
theorem dX4_init_26 : decode cX4_init 26 = .ok (.new 9, 3) := by decide +kernel
theorem dX4_init_29 : decode cX4_init 29 = .ok (.dup, 1) := by decide +kernel
theorem dX4_init_30 : decode cX4_init 30 = .ok (.aload_n 1, 1) := by decide +kernel
theorem dX4_init_31 : decode cX4_init 31 = .ok (.invokespecial 17, 3) := by decide +kernel
theorem dX4_init_34 : decode cX4_init 34 = .ok (.aastore, 1) := by decide +kernel
theorem dX4_init_35 : decode cX4_init 35 = .ok (.iinc 2 1, 3) := by decide +kernel
theorem dX4_init_38 : decode cX4_init 38 = .ok (.goto (-23), 3) := by decide +kernel
theorem dX4_init_41 : decode cX4_init 41 = .ok (.return_, 1) := by decide +kernel
theorem dX4_at_0 : decode cX4_at 0 = .ok (.aload_n 0, 1) := by decide +kernel
theorem dX4_at_1 : decode cX4_at 1 = .ok (.getfield 20, 3) := by decide +kernel
theorem dX4_at_4 : decode cX4_at 4 = .ok (.iload_n 1, 1) := by decide +kernel
theorem dX4_at_5 : decode cX4_at 5 = .ok (.iadd, 1) := by decide +kernel
theorem dX4_at_6 : decode cX4_at 6 = .ok (.bipush 14, 2) := by decide +kernel
theorem dX4_at_8 : decode cX4_at 8 = .ok (.irem, 1) := by decide +kernel
theorem dX4_at_9 : decode cX4_at 9 = .ok (.istore_n 2, 1) := by decide +kernel
theorem dX4_at_10 : decode cX4_at 10 = .ok (.iload_n 2, 1) := by decide +kernel
theorem dX4_at_11 : decode cX4_at 11 = .ok (.ifCond .lt 21, 3) := by decide +kernel
theorem dX4_at_14 : decode cX4_at 14 = .ok (.iload_n 2, 1) := by decide +kernel
theorem dX4_at_15 : decode cX4_at 15 = .ok (.aload_n 0, 1) := by decide +kernel
theorem dX4_at_16 : decode cX4_at 16 = .ok (.getfield 11, 3) := by decide +kernel
theorem dX4_at_19 : decode cX4_at 19 = .ok (.arraylength, 1) := by decide +kernel
theorem dX4_at_20 : decode cX4_at 20 = .ok (.if_icmp .ge 12, 3) := by decide +kernel
theorem dX4_at_23 : decode cX4_at 23 = .ok (.aload_n 0, 1) := by decide +kernel
theorem dX4_at_24 : decode cX4_at 24 = .ok (.getfield 11, 3) := by decide +kernel
theorem dX4_at_27 : decode cX4_at 27 = .ok (.iload_n 2, 1) := by decide +kernel
theorem dX4_at_28 : decode cX4_at 28 = .ok (.aaload, 1) := by decide +kernel
theorem dX4_at_29 : decode cX4_at 29 = .ok (.goto 4, 3) := by decide +kernel
theorem dX4_at_32 : decode cX4_at 32 = .ok (.aconst_null, 1) := by decide +kernel
theorem dX4_at_33 : decode cX4_at 33 = .ok (.areturn, 1) := by decide +kernel
set_option maxRecDepth 20000 in
theorem ggX4_remember_X4_at : GoodIn wsX4_remember wsX4_at := goodIn_r _ [7, 2, 8, 25, 26, 27] (by decide +kernel) (by decide +kernel)
set_option maxRecDepth 20000 in
theorem gX4_remember_X4_at : GoodIn wsX4_remember (wsV RX4 27 RX4 yX4_at wsX4_at) := goodIn_app (goodIn_of _ (by decide +kernel)) ggX4_remember_X4_at
set_option maxRecDepth 20000 in
theorem ggX4_remember_X0_copyFrom : GoodIn wsX4_remember wsX0_copyFrom := goodIn_r _ [13, 14, 15, 16, 17, 18, 19, 20, 21, 22, 23, 24, 28, 29, 30, 31, 32, 33, 34, 35, 36, 37, 38] (by decide +kernel) (by decide +kernel)
set_option maxRecDepth 20000 in
theorem gX4_remember_X0_copyFrom : GoodIn wsX4_remember (wsV RX4 31 RX0 yX0_copyFrom wsX0_copyFrom) := goodIn_app (goodIn_of _ (by decide +kernel)) ggX4_remember_X0_copyFrom
theorem dX4_remember_0 : decode cX4_remember 0 = .ok (.aload_n 0, 1) := by decide +kernel
theorem dX4_remember_1 : decode cX4_remember 1 = .ok (.getfield 24, 3) := by decide +kernel
theorem dX4_remember_4 : decode cX4_remember 4 = .ok (.bipush 14, 2) := by decide +kernel
theorem dX4_remember_6 : decode cX4_remember 6 = .ok (.if_icmp .lt 22, 3) := by decide +kernel
theorem dX4_remember_9 : decode cX4_remember 9 = .ok (.aload_n 0, 1) := by decide +kernel
theorem dX4_remember_10 : decode cX4_remember 10 = .ok (.aload_n 0, 1) := by decide +kernel
theorem dX4_remember_11 : decode cX4_remember 11 = .ok (.getfield 20, 3) := by decide +kernel
theorem dX4_remember_14 : decode cX4_remember 14 = .ok (.iconst 1, 1) := by decide +kernel
theorem dX4_remember_15 : decode cX4_remember 15 = .ok (.iadd, 1) := by decide +kernel
theorem dX4_remember_16 : decode cX4_remember 16 = .ok (.bipush 14, 2) := by decide +kernel
theorem dX4_remember_18 : decode cX4_remember 18 = .ok (.irem, 1) := by decide +kernel
theorem dX4_remember_19 : decode cX4_remember 19 = .ok (.putfield 20, 3) := by decide +kernel
theorem dX4_remember_22 : decode cX4_remember 22 = .ok (.aload_n 0, 1) := by decide +kernel
theorem dX4_remember_23 : decode cX4_remember 23 = .ok (.bipush 13, 2) := by decide +kernel
theorem dX4_remember_25 : decode cX4_remember 25 = .ok (.putfield 24, 3) := by decide +kernel
theorem dX4_remember_28 : decode cX4_remember 28 = .ok (.aload_n 0, 1) := by decide +kernel
theorem dX4_remember_29 : decode cX4_remember 29 = .ok (.aload_n 0, 1) := by decide +kernel
theorem dX4_remember_30 : decode cX4_remember 30 = .ok (.getfield 24, 3) := by decide +kernel
theorem dX4_remember_33 : decode cX4_remember 33 = .ok (.invokevirtual 27, 3) := by decide +kernel
theorem dX4_remember_36 : decode cX4_remember 36 = .ok (.astore_n 2, 1) := by decide +kernel
theorem dX4_remember_37 : decode cX4_remember 37 = .ok (.aload_n 2, 1) := by decide +kernel
theorem dX4_remember_38 : decode cX4_remember 38 = .ok (.ifnull 18, 3) := by decide +kernel
theorem dX4_remember_41 : decode cX4_remember 41 = .ok (.aload_n 2, 1) := by decide +kernel
theorem dX4_remember_42 : decode cX4_remember 42 = .ok (.aload_n 1, 1) := by decide +kernel
theorem dX4_remember_43 : decode cX4_remember 43 = .ok (.invokevirtual 31, 3) := by decide +kernel
theorem dX4_remember_46 : decode cX4_remember 46 = .ok (.aload_n 0, 1) := by decide +kernel
theorem dX4_remember_47 : decode cX4_remember 47 = .ok (.dup, 1) := by decide +kernel
theorem dX4_remember_48 : decode cX4_remember 48 = .ok (.getfield 24, 3) := by decide +kernel
theorem dX4_remember_51 : decode cX4_remember 51 = .ok (.iconst 1, 1) := by decide +kernel
theorem dX4_remember_52 : decode cX4_remember 52 = .ok (.iadd, 1) := by decide +kernel
theorem dX4_remember_53 : decode cX4_remember 53 = .ok (.putfield 24, 3) := by decide +kernel
theorem dX4_remember_56 : decode cX4_remember 56 = .ok (.return_, 1) := by decide +kernel
set_option maxRecDepth 20000 in
theorem ggX4_takeBackInto_X4_at : GoodIn wsX4_takeBackInto wsX4_at := goodIn_r _ [6, 7, 8, 25, 26, 27] (by decide +kernel) (by decide +kernel)
set_option maxRecDepth 20000 in
theorem gX4_takeBackInto_X4_at : GoodIn wsX4_takeBackInto (wsV RX4 27 RX4 yX4_at wsX4_at) := goodIn_app (goodIn_of _ (by decide +kernel)) ggX4_takeBackInto_X4_at
set_option maxRecDepth 20000 in
theorem ggX4_takeBackInto_X0_copyFrom : GoodIn wsX4_takeBackInto wsX0_copyFrom := goodIn_r _ [13, 14, 15, 16, 17, 18, 19, 20, 21, 22, 23, 24, 28, 29, 30, 31, 32, 33, 34, 35, 36, 37, 38] (by decide +kernel) (by decide +kernel)
set_option maxRecDepth 20000 in
theorem gX4_takeBackInto_X0_copyFrom : GoodIn wsX4_takeBackInto (wsV RX4 31 RX0 yX0_copyFrom wsX0_copyFrom) := goodIn_app (goodIn_of _ (by decide +kernel)) ggX4_takeBackInto_X0_copyFrom
theorem dX4_takeBackInto_0 : decode cX4_takeBackInto 0 = .ok (.aload_n 0, 1) := by decide +kernel
theorem dX4_takeBackInto_1 : decode cX4_takeBackInto 1 = .ok (.aload_n 0, 1) := by decide +kernel
theorem dX4_takeBackInto_2 : decode cX4_takeBackInto 2 = .ok (.getfield 24, 3) := by decide +kernel
theorem dX4_takeBackInto_5 : decode cX4_takeBackInto 5 = .ok (.iconst 1, 1) := by decide +kernel
theorem dX4_takeBackInto_6 : decode cX4_takeBackInto 6 = .ok (.isub, 1) := by decide +kernel
theorem dX4_takeBackInto_7 : decode cX4_takeBackInto 7 = .ok (.invokevirtual 27, 3) := by decide +kernel
theorem dX4_takeBackInto_10 : decode cX4_takeBackInto 10 = .ok (.astore_n 2, 1) := by decide +kernel
theorem dX4_takeBackInto_11 : decode cX4_takeBackInto 11 = .ok (.aload_n 2, 1) := by decide +kernel
theorem dX4_takeBackInto_12 : decode cX4_takeBackInto 12 = .ok (.ifnull 18, 3) := by decide +kernel
theorem dX4_takeBackInto_15 : decode cX4_takeBackInto 15 = .ok (.aload_n 1, 1) := by decide +kernel
theorem dX4_takeBackInto_16 : decode cX4_takeBackInto 16 = .ok (.aload_n 2, 1) := by decide +kernel
theorem dX4_takeBackInto_17 : decode cX4_takeBackInto 17 = .ok (.invokevirtual 31, 3) := by decide +kernel
theorem dX4_takeBackInto_20 : decode cX4_takeBackInto 20 = .ok (.aload_n 0, 1) := by decide +kernel
theorem dX4_takeBackInto_21 : decode cX4_takeBackInto 21 = .ok (.dup, 1) := by decide +kernel
theorem dX4_takeBackInto_22 : decode cX4_takeBackInto 22 = .ok (.getfield 24, 3) := by decide +kernel
theorem dX4_takeBackInto_25 : decode cX4_takeBackInto 25 = .ok (.iconst 1, 1) := by decide +kernel
theorem dX4_takeBackInto_26 : decode cX4_takeBackInto 26 = .ok (.isub, 1) := by decide +kernel
theorem dX4_takeBackInto_27 : decode cX4_takeBackInto 27 = .ok (.putfield 24, 3) := by decide +kernel
theorem dX4_takeBackInto_30 : decode cX4_takeBackInto 30 = .ok (.aload_n 0, 1) := by decide +kernel
theorem dX4_takeBackInto_31 : decode cX4_takeBackInto 31 = .ok (.getfield 24, 3) := by decide +kernel
theorem dX4_takeBackInto_34 : decode cX4_takeBackInto 34 = .ok (.ireturn, 1) := by decide +kernel
theorem dX4_forgetAll_0 : decode cX4_forgetAll 0 = .ok (.aload_n 0, 1) := by decide +kernel
theorem dX4_forgetAll_1 : decode cX4_forgetAll 1 = .ok (.iconst 0, 1) := by decide +kernel
theorem dX4_forgetAll_2 : decode cX4_forgetAll 2 = .ok (.putfield 24, 3) := by decide +kernel
theorem dX4_forgetAll_5 : decode cX4_forgetAll 5 = .ok (.return_, 1) := by decide +kernel
theorem dX5_commandFromEnd_0 : decode cX5_commandFromEnd 0 = .ok (.lload_n 0, 1) := by decide +kernel
theorem dX5_commandFromEnd_1 : decode cX5_commandFromEnd 1 = .ok (.lstore_n 3, 1) := by decide +kernel
theorem dX5_commandFromEnd_2 : decode cX5_commandFromEnd 2 = .ok (.iconst 0, 1) := by decide +kernel
theorem dX5_commandFromEnd_3 : decode cX5_commandFromEnd 3 = .ok (.istore 5, 2) := by decide +kernel
theorem dX5_commandFromEnd_5 : decode cX5_commandFromEnd 5 = .ok (.iload 5, 2) := by decide +kernel
theorem dX5_commandFromEnd_7 : decode cX5_commandFromEnd 7 = .ok (.iload_n 2, 1) := by decide +kernel
theorem dX5_commandFromEnd_8 : decode cX5_commandFromEnd 8 = .ok (.if_icmp .ge 21, 3) := by decide +kernel
theorem dX5_commandFromEnd_11 : decode cX5_commandFromEnd 11 = .ok (.iload 5, 2) := by decide +kernel
theorem dX5_commandFromEnd_13 : decode cX5_commandFromEnd 13 = .ok (.iconst 4, 1) := by decide +kernel
theorem dX5_commandFromEnd_14 : decode cX5_commandFromEnd 14 = .ok (.if_icmp .ge 15, 3) := by decide +kernel
theorem dX5_commandFromEnd_17 : decode cX5_commandFromEnd 17 = .ok (.lload_n 3, 1) := by decide +kernel
theorem dX5_commandFromEnd_18 : decode cX5_commandFromEnd 18 = .ok (.ldc2_w 9, 3) := by decide +kernel
theorem dX5_commandFromEnd_21 : decode cX5_commandFromEnd 21 = .ok (.ldiv, 1) := by decide +kernel
theorem dX5_commandFromEnd_22 : decode cX5_commandFromEnd 22 = .ok (.lstore_n 3, 1) := by decide +kernel
theorem dX5_commandFromEnd_23 : decode cX5_commandFromEnd 23 = .ok (.iinc 5 1, 3) := by decide +kernel
theorem dX5_commandFromEnd_26 : decode cX5_commandFromEnd 26 = .ok (.goto (-21), 3) := by decide +kernel
theorem dX5_commandFromEnd_29 : decode cX5_commandFromEnd 29 = .ok (.lload_n 3, 1) := by decide +kernel
theorem dX5_commandFromEnd_30 : decode cX5_commandFromEnd 30 = .ok (.ldc2_w 9, 3) := by decide +kernel
theorem dX5_commandFromEnd_33 : decode cX5_commandFromEnd 33 = .ok (.lrem, 1) := by decide +kernel
theorem dX5_commandFromEnd_34 : decode cX5_commandFromEnd 34 = .ok (.l2i, 1) := by decide +kernel
theorem dX5_commandFromEnd_35 : decode cX5_commandFromEnd 35 = .ok (.ireturn, 1) := by decide +kernel
set_option maxRecDepth 20000 in
theorem ggX5_succeeds_X0_layIfAllowed : GoodIn wsX5_succeeds wsX0_layIfAllowed := goodIn_r _ [5, 6, 7, 8, 9, 10, 11, 12, 13, 14, 15, 4, 16, 17, 18, 19, 20, 21, 22, 23, 24, 25, 26, 27, 28, 29, 30, 31, 32, 33, 34, 35, 36, 37, 38, 39, 40, 41, 42, 43, 44, 45, 46, 47, 48, 49, 50, 51, 52, 53, 54, 55, 56, 57, 58, 59, 60, 61, 62, 63, 64, 65, 66, 67, 68, 69, 70, 71, 72, 73, 74, 75, 76, 77, 78, 155, 156, 157, 158, 159, 160, 161, 162, 163, 164, 165, 166, 167, 168, 169, 170] (by decide +kernel) (by decide +kernel)
set_option maxRecDepth 20000 in
theorem gX5_succeeds_X0_layIfAllowed : GoodIn wsX5_succeeds (wsV RX5 11 RX0 yX0_layIfAllowed wsX0_layIfAllowed) := goodIn_app (goodIn_of _ (by decide +kernel)) ggX5_succeeds_X0_layIfAllowed
set_option maxRecDepth 20000 in
theorem ggX5_succeeds_X0_passIfAllowed : GoodIn wsX5_succeeds wsX0_passIfAllowed := goodIn_r _ [82, 18, 83, 67, 75, 76, 77, 4, 78, 59, 60, 27, 28, 155, 156, 157, 158, 159, 160, 161, 162, 163, 164, 165] (by decide +kernel) (by decide +kernel)
set_option maxRecDepth 20000 in
theorem gX5_succeeds_X0_passIfAllowed : GoodIn wsX5_succeeds (wsV RX5 17 RX0 yX0_passIfAllowed wsX0_passIfAllowed) := goodIn_app (goodIn_of _ (by decide +kernel)) ggX5_succeeds_X0_passIfAllowed
set_option maxRecDepth 20000 in
theorem ggX5_succeeds_X5_holdsForColour : GoodIn wsX5_succeeds wsX5_holdsForColour := goodIn_r _ [87, 88, 89, 90, 91, 92, 93, 4, 94, 65, 66, 95, 96, 97, 98, 6, 23, 24, 25, 26, 27, 28, 68, 69, 70, 71, 72, 73, 74, 99, 100, 101, 10, 102, 33, 34, 35, 36, 37, 38, 39, 40, 41, 42, 43, 44, 45, 155, 156, 157, 158, 159, 160, 161, 162, 163, 164, 165, 166, 167, 168, 169, 170] (by decide +kernel) (by decide +kernel)
set_option maxRecDepth 20000 in
theorem gX5_succeeds_X5_holdsForColour : GoodIn wsX5_succeeds (va_wsS RX5 21 yX5_holdsForColour wsX5_holdsForColour) := goodIn_app (goodIn_of _ (by decide +kernel)) ggX5_succeeds_X5_holdsForColour
set_option maxRecDepth 20000 in
theorem ggX5_succeeds_X5_holdsForPoint : GoodIn wsX5_succeeds wsX5_holdsForPoint := goodIn_r _ [105, 106, 8, 9, 10, 11, 12, 107, 108, 109, 4, 110, 27, 28, 111, 112, 113, 114, 6, 115, 23, 24, 25, 26, 46, 47, 48, 49, 33, 34, 42, 43, 44, 45, 35, 36, 37, 38, 39, 40, 41, 116, 69, 70, 71, 72, 73, 74, 117, 14, 15, 16, 17, 18, 19, 20, 21, 22, 29, 30, 31, 32, 50, 51, 52, 53, 54, 55, 56, 57, 58, 59, 60, 118, 119, 120, 121, 122, 123, 124, 125, 126, 127, 128, 129, 130, 131, 132, 133, 134, 135, 136, 137, 138, 139, 140, 141, 142, 143, 144, 145, 146, 147, 148, 149, 150, 151, 152, 153, 154, 155, 156, 157, 158, 159, 160, 161, 162, 163, 164, 165, 166, 167, 168, 169, 170] (by decide +kernel) (by decide +kernel)
set_option maxRecDepth 20000 in
theorem gX5_succeeds_X5_holdsForPoint : GoodIn wsX5_succeeds (va_wsS RX5 27 yX5_holdsForPoint wsX5_holdsForPoint) := goodIn_app (goodIn_of _ (by decide +kernel)) ggX5_succeeds_X5_holdsForPoint
theorem dX5_succeeds_0 : decode cX5_succeeds 0 = .ok (.iload_n 1, 1) := by decide +kernel
theorem dX5_succeeds_1 : decode cX5_succeeds 1 = .ok (.sipush 1000, 3) := by decide +kernel
theorem dX5_succeeds_4 : decode cX5_succeeds 4 = .ok (.idiv, 1) := by decide +kernel
theorem dX5_succeeds_5 : decode cX5_succeeds 5 = .ok (.istore_n 2, 1) := by decide +kernel
theorem dX5_succeeds_6 : decode cX5_succeeds 6 = .ok (.iload_n 1, 1) := by decide +kernel
theorem dX5_succeeds_7 : decode cX5_succeeds 7 = .ok (.bipush 10, 2) := by decide +kernel
theorem dX5_succeeds_9 : decode cX5_succeeds 9 = .ok (.irem, 1) := by decide +kernel
theorem dX5_succeeds_10 : decode cX5_succeeds 10 = .ok (.istore_n 3, 1) := by decide +kernel
theorem dX5_succeeds_11 : decode cX5_succeeds 11 = .ok (.iload_n 2, 1) := by decide +kernel
theorem dX5_succeeds_12 : decode cX5_succeeds 12 = .ok (.tableswitch 109 1 8 #[48, 72, 109, 109, 109, 92, 109, 92], 48) := by decide +kernel
theorem dX5_succeeds_60 : decode cX5_succeeds 60 = .ok (.iload_n 3, 1) := by decide +kernel
theorem dX5_succeeds_61 : decode cX5_succeeds 61 = .ok (.ifCond .ne 21, 3) := by decide +kernel
theorem dX5_succeeds_64 : decode cX5_succeeds 64 = .ok (.aload_n 0, 1) := by decide +kernel
theorem dX5_succeeds_65 : decode cX5_succeeds 65 = .ok (.iload_n 1, 1) := by decide +kernel
theorem dX5_succeeds_66 : decode cX5_succeeds 66 = .ok (.bipush 10, 2) := by decide +kernel
theorem dX5_succeeds_68 : decode cX5_succeeds 68 = .ok (.idiv, 1) := by decide +kernel
theorem dX5_succeeds_69 : decode cX5_succeeds 69 = .ok (.bipush 100, 2) := by decide +kernel
theorem dX5_succeeds_71 : decode cX5_succeeds 71 = .ok (.irem, 1) := by decide +kernel
theorem dX5_succeeds_72 : decode cX5_succeeds 72 = .ok (.invokevirtual 11, 3) := by decide +kernel
theorem dX5_succeeds_75 : decode cX5_succeeds 75 = .ok (.ifCond .eq 7, 3) := by decide +kernel
theorem dX5_succeeds_78 : decode cX5_succeeds 78 = .ok (.iconst 1, 1) := by decide +kernel
theorem dX5_succeeds_79 : decode cX5_succeeds 79 = .ok (.goto 4, 3) := by decide +kernel
theorem dX5_succeeds_82 : decode cX5_succeeds 82 = .ok (.iconst 0, 1) := by decide +kernel
theorem dX5_succeeds_83 : decode cX5_succeeds 83 = .ok (.ireturn, 1) := by decide +kernel
theorem dX5_succeeds_84 : decode cX5_succeeds 84 = .ok (.iload_n 1, 1) := by decide +kernel
theorem dX5_succeeds_85 : decode cX5_succeeds 85 = .ok (.sipush 2000, 3) := by decide +kernel
theorem dX5_succeeds_88 : decode cX5_succeeds 88 = .ok (.if_icmp .ne 14, 3) := by decide +kernel
theorem dX5_succeeds_91 : decode cX5_succeeds 91 = .ok (.aload_n 0, 1) := by decide +kernel
theorem dX5_succeeds_92 : decode cX5_succeeds 92 = .ok (.invokevirtual 17, 3) := by decide +kernel
theorem dX5_succeeds_95 : decode cX5_succeeds 95 = .ok (.ifCond .eq 7, 3) := by decide +kernel
theorem dX5_succeeds_98 : decode cX5_succeeds 98 = .ok (.iconst 1, 1) := by decide +kernel
theorem dX5_succeeds_99 : decode cX5_succeeds 99 = .ok (.goto 4, 3) := by decide +kernel
theorem dX5_succeeds_102 : decode cX5_succeeds 102 = .ok (.iconst 0, 1) := by decide +kernel
theorem dX5_succeeds_103 : decode cX5_succeeds 103 = .ok (.ireturn, 1) := by decide +kernel
theorem dX5_succeeds_104 : decode cX5_succeeds 104 = .ok (.aload_n 0, 1) := by decide +kernel
theorem dX5_succeeds_105 : decode cX5_succeeds 105 = .ok (.iload_n 2, 1) := by decide +kernel
theorem dX5_succeeds_106 : decode cX5_succeeds 106 = .ok (.iload_n 1, 1) := by decide +kernel
theorem dX5_succeeds_107 : decode cX5_succeeds 107 = .ok (.bipush 100, 2) := by decide +kernel
theorem dX5_succeeds_109 : decode cX5_succeeds 109 = .ok (.idiv, 1) := by decide +kernel
theorem dX5_succeeds_110 : decode cX5_succeeds 110 = .ok (.bipush 10, 2) := by decide +kernel
theorem dX5_succeeds_112 : decode cX5_succeeds 112 = .ok (.irem, 1) := by decide +kernel
theorem dX5_succeeds_113 : decode cX5_succeeds 113 = .ok (.iload_n 1, 1) := by decide +kernel
theorem dX5_succeeds_114 : decode cX5_succeeds 114 = .ok (.bipush 100, 2) := by decide +kernel
theorem dX5_succeeds_116 : decode cX5_succeeds 116 = .ok (.irem, 1) := by decide +kernel
theorem dX5_succeeds_117 : decode cX5_succeeds 117 = .ok (.invokestatic 21, 3) := by decide +kernel
theorem dX5_succeeds_120 : decode cX5_succeeds 120 = .ok (.ireturn, 1) := by decide +kernel
theorem dX5_succeeds_121 : decode cX5_succeeds 121 = .ok (.aload_n 0, 1) := by decide +kernel
theorem dX5_succeeds_122 : decode cX5_succeeds 122 = .ok (.iload_n 2, 1) := by decide +kernel
theorem dX5_succeeds_123 : decode cX5_succeeds 123 = .ok (.iload_n 1, 1) := by decide +kernel
theorem dX5_succeeds_124 : decode cX5_succeeds 124 = .ok (.bipush 10, 2) := by decide +kernel
theorem dX5_succeeds_126 : decode cX5_succeeds 126 = .ok (.idiv, 1) := by decide +kernel
theorem dX5_succeeds_127 : decode cX5_succeeds 127 = .ok (.bipush 100, 2) := by decide +kernel
theorem dX5_succeeds_129 : decode cX5_succeeds 129 = .ok (.irem, 1) := by decide +kernel
theorem dX5_succeeds_130 : decode cX5_succeeds 130 = .ok (.iload_n 3, 1) := by decide +kernel
theorem dX5_succeeds_131 : decode cX5_succeeds 131 = .ok (.invokestatic 27, 3) := by decide +kernel
theorem dX5_succeeds_134 : decode cX5_succeeds 134 = .ok (.ireturn, 1) := by decide +kernel
set_option maxRecDepth 20000 in
theorem ggX5_holdsForColour_X7_isColour : GoodIn wsX5_holdsForColour wsX7_isColour := goodIn_r _ [3] (by decide +kernel) (by decide +kernel)
set_option maxRecDepth 20000 in
theorem gX5_holdsForColour_X7_isColour_n30 : GoodIn wsX5_holdsForColour (wsX7_isColour) := ggX5_holdsForColour_X7_isColour
set_option maxRecDepth 20000 in
theorem ggX5_holdsForColour_X0_captivesOf : GoodIn wsX5_holdsForColour wsX0_captivesOf := goodIn_r _ [8, 9, 10, 47, 48, 49, 50, 51, 52, 53, 54, 55, 56, 57] (by decide +kernel) (by decide +kernel)
set_option maxRecDepth 20000 in
theorem gX5_holdsForColour_X0_captivesOf : GoodIn wsX5_holdsForColour (wsV RX5 33 RX0 yX0_captivesOf wsX0_captivesOf) := goodIn_app (goodIn_of _ (by decide +kernel)) ggX5_holdsForColour_X0_captivesOf
set_option maxRecDepth 20000 in
theorem ggX5_holdsForColour_X0_areaOf : GoodIn wsX5_holdsForColour wsX0_areaOf := goodIn_r _ [14, 15, 16, 17, 18, 7, 19, 20, 21, 22, 23, 24, 25, 26, 27, 28, 29, 30, 31, 32, 33, 34, 35, 36, 37, 38, 39, 40, 41, 42, 43, 44, 45, 46, 47, 48, 49, 50, 51, 52, 53, 54, 55, 56, 57, 58, 59, 60, 61, 62] (by decide +kernel) (by decide +kernel)
set_option maxRecDepth 20000 in
theorem gX5_holdsForColour_X0_areaOf : GoodIn wsX5_holdsForColour (wsV RX5 37 RX0 yX0_areaOf wsX0_areaOf) := goodIn_app (goodIn_of _ (by decide +kernel)) ggX5_holdsForColour_X0_areaOf
theorem dX5_holdsForColour_0 : decode cX5_holdsForColour 0 = .ok (.iload_n 2, 1) := by decide +kernel
theorem dX5_holdsForColour_1 : decode cX5_holdsForColour 1 = .ok (.invokestatic 30, 3) := by decide +kernel
theorem dX5_holdsForColour_4 : decode cX5_holdsForColour 4 = .ok (.ifCond .ne 5, 3) := by decide +kernel
theorem dX5_holdsForColour_7 : decode cX5_holdsForColour 7 = .ok (.iconst 0, 1) := by decide +kernel
theorem dX5_holdsForColour_8 : decode cX5_holdsForColour 8 = .ok (.ireturn, 1) := by decide +kernel
theorem dX5_holdsForColour_9 : decode cX5_holdsForColour 9 = .ok (.iload_n 1, 1) := by decide +kernel
theorem dX5_holdsForColour_10 : decode cX5_holdsForColour 10 = .ok (.bipush 6, 2) := by decide +kernel
theorem dX5_holdsForColour_12 : decode cX5_holdsForColour 12 = .ok (.if_icmp .ne 11, 3) := by decide +kernel
theorem dX5_holdsForColour_15 : decode cX5_holdsForColour 15 = .ok (.aload_n 0, 1) := by decide +kernel
theorem dX5_holdsForColour_16 : decode cX5_holdsForColour 16 = .ok (.iload_n 2, 1) := by decide +kernel
theorem dX5_holdsForColour_17 : decode cX5_holdsForColour 17 = .ok (.invokevirtual 33, 3) := by decide +kernel
theorem dX5_holdsForColour_20 : decode cX5_holdsForColour 20 = .ok (.goto 8, 3) := by decide +kernel
theorem dX5_holdsForColour_23 : decode cX5_holdsForColour 23 = .ok (.aload_n 0, 1) := by decide +kernel
theorem dX5_holdsForColour_24 : decode cX5_holdsForColour 24 = .ok (.iload_n 2, 1) := by decide +kernel
theorem dX5_holdsForColour_25 : decode cX5_holdsForColour 25 = .ok (.invokevirtual 37, 3) := by decide +kernel
theorem dX5_holdsForColour_28 : decode cX5_holdsForColour 28 = .ok (.iload_n 3, 1) := by decide +kernel
theorem dX5_holdsForColour_29 : decode cX5_holdsForColour 29 = .ok (.if_icmp .lt 7, 3) := by decide +kernel
theorem dX5_holdsForColour_32 : decode cX5_holdsForColour 32 = .ok (.iconst 1, 1) := by decide +kernel
theorem dX5_holdsForColour_33 : decode cX5_holdsForColour 33 = .ok (.goto 4, 3) := by decide +kernel
theorem dX5_holdsForColour_36 : decode cX5_holdsForColour 36 = .ok (.iconst 0, 1) := by decide +kernel
theorem dX5_holdsForColour_37 : decode cX5_holdsForColour 37 = .ok (.ireturn, 1) := by decide +kernel
set_option maxRecDepth 20000 in
theorem ggX5_holdsForPoint_X2_has : GoodIn wsX5_holdsForPoint wsX2_has := goodIn_r _ [5, 6, 121, 122, 123, 124, 125] (by decide +kernel) (by decide +kernel)
set_option maxRecDepth 20000 in
theorem gX5_holdsForPoint_X2_has : GoodIn wsX5_holdsForPoint (wsV RX5 44 RX2 yX2_has wsX2_has) := goodIn_app (goodIn_of _ (by decide +kernel)) ggX5_holdsForPoint_X2_has
set_option maxRecDepth 20000 in
theorem ggX5_holdsForPoint_X0_colourAt : GoodIn wsX5_holdsForPoint wsX0_colourAt := goodIn_r _ [11, 12, 13, 110, 111, 112, 113, 114, 115, 116, 117, 118, 119, 120] (by decide +kernel) (by decide +kernel)
set_option maxRecDepth 20000 in
theorem gX5_holdsForPoint_X0_colourAt : GoodIn wsX5_holdsForPoint (wsV RX5 49 RX0 yX0_colourAt wsX0_colourAt) := goodIn_app (goodIn_of _ (by decide +kernel)) ggX5_holdsForPoint_X0_colourAt
set_option maxRecDepth 20000 in
theorem ggX5_holdsForPoint_X0_libertiesAt : GoodIn wsX5_holdsForPoint wsX0_libertiesAt := goodIn_r _ [17, 18, 19, 8, 9, 10, 11, 12, 13, 20, 21, 22, 23, 24, 25, 26, 4, 27, 28, 29, 30, 31, 32, 33, 34, 35, 36, 37, 38, 39, 40, 110, 111, 112, 113, 114, 115, 116, 117, 118, 119, 120, 121, 122, 123, 124, 125] (by decide +kernel) (by decide +kernel)
set_option maxRecDepth 20000 in
theorem gX5_holdsForPoint_X0_libertiesAt : GoodIn wsX5_holdsForPoint (wsV RX5 52 RX0 yX0_libertiesAt wsX0_libertiesAt) := goodIn_app (goodIn_of _ (by decide +kernel)) ggX5_holdsForPoint_X0_libertiesAt
set_option maxRecDepth 20000 in
theorem ggX5_holdsForPoint_J13_bitCount_95d88 : GoodIn wsX5_holdsForPoint wsJ13_bitCount_95d88 := goodIn_r _ [44, 45, 46, 47] (by decide +kernel) (by decide +kernel)
set_option maxRecDepth 20000 in
theorem gX5_holdsForPoint_J13_bitCount_95d88 : GoodIn wsX5_holdsForPoint (va_wsS RX5 56 yJ13_bitCount_95d88 wsJ13_bitCount_95d88) := goodIn_app (goodIn_of _ (by decide +kernel)) ggX5_holdsForPoint_J13_bitCount_95d88
set_option maxRecDepth 20000 in
theorem ggX5_holdsForPoint_X0_reasonAt : GoodIn wsX5_holdsForPoint wsX0_reasonAt := goodIn_r _ [51, 18, 52, 53, 54, 55, 56, 10, 57, 20, 21, 22, 23, 12, 13, 58, 59, 60, 4, 61, 28, 29, 34, 35, 36, 37, 38, 39, 40, 30, 31, 32, 33, 24, 25, 26, 27, 62, 63, 64, 65, 66, 67, 68, 69, 70, 71, 72, 110, 111, 112, 113, 114, 115, 116, 117, 118, 119, 120, 121, 122, 123, 124, 125] (by decide +kernel) (by decide +kernel)
set_option maxRecDepth 20000 in
theorem gX5_holdsForPoint_X0_reasonAt : GoodIn wsX5_holdsForPoint (wsV RX5 62 RX0 yX0_reasonAt wsX0_reasonAt) := goodIn_app (goodIn_of _ (by decide +kernel)) ggX5_holdsForPoint_X0_reasonAt
set_option maxRecDepth 20000 in
theorem ggX5_holdsForPoint_X0_stonesOf : GoodIn wsX5_holdsForPoint wsX0_stonesOf := goodIn_r _ [23, 12, 13, 110, 111, 112, 113, 114, 115, 116, 117, 118, 119, 120] (by decide +kernel) (by decide +kernel)
set_option maxRecDepth 20000 in
theorem gX5_holdsForPoint_X0_stonesOf : GoodIn wsX5_holdsForPoint (wsV RX5 65 RX0 yX0_stonesOf wsX0_stonesOf) := goodIn_app (goodIn_of _ (by decide +kernel)) ggX5_holdsForPoint_X0_stonesOf
set_option maxRecDepth 20000 in
theorem ggX5_holdsForPoint_X3_firstStone : GoodIn wsX5_holdsForPoint wsX3_firstStone := goodIn_r _ [76, 77, 78, 25, 26, 4, 27, 28, 29, 30, 31, 32, 33, 34, 35, 36, 37, 38, 39, 40, 79, 42, 43, 44, 45, 46, 47, 80, 59, 60, 61, 81, 82, 75, 83, 84, 74, 121, 122, 123, 124, 125] (by decide +kernel) (by decide +kernel)
set_option maxRecDepth 20000 in
theorem gX5_holdsForPoint_X3_firstStone_n68 : GoodIn wsX5_holdsForPoint (wsX3_firstStone) := ggX5_holdsForPoint_X3_firstStone
set_option maxRecDepth 20000 in
theorem ggX5_holdsForPoint_X0_eyeAt : GoodIn wsX5_holdsForPoint wsX0_eyeAt := goodIn_r _ [88, 89, 90, 91, 10, 92, 18, 20, 21, 22, 23, 12, 13, 93, 94, 95, 4, 96, 28, 29, 34, 35, 36, 37, 38, 39, 40, 97, 98, 99, 100, 101, 102, 103, 104, 105, 42, 43, 44, 45, 46, 47, 106, 107, 108, 109, 52, 110, 111, 112, 113, 114, 115, 116, 117, 118, 119, 120, 121, 122, 123, 124, 125] (by decide +kernel) (by decide +kernel)
set_option maxRecDepth 20000 in
theorem gX5_holdsForPoint_X0_eyeAt : GoodIn wsX5_holdsForPoint (wsV RX5 74 RX0 yX0_eyeAt wsX0_eyeAt) := goodIn_app (goodIn_of _ (by decide +kernel)) ggX5_holdsForPoint_X0_eyeAt
theorem dX5_holdsForPoint_0 : decode cX5_holdsForPoint 0 = .ok (.aload_n 0, 1) := by decide +kernel
theorem dX5_holdsForPoint_1 : decode cX5_holdsForPoint 1 = .ok (.getfield 40, 3) := by decide +kernel
theorem dX5_holdsForPoint_4 : decode cX5_holdsForPoint 4 = .ok (.iload_n 2, 1) := by decide +kernel
theorem dX5_holdsForPoint_5 : decode cX5_holdsForPoint 5 = .ok (.invokevirtual 44, 3) := by decide +kernel
theorem dX5_holdsForPoint_8 : decode cX5_holdsForPoint 8 = .ok (.ifCond .ne 5, 3) := by decide +kernel
theorem dX5_holdsForPoint_11 : decode cX5_holdsForPoint 11 = .ok (.iconst 0, 1) := by decide +kernel
theorem dX5_holdsForPoint_12 : decode cX5_holdsForPoint 12 = .ok (.ireturn, 1) := by decide +kernel
theorem dX5_holdsForPoint_13 : decode cX5_holdsForPoint 13 = .ok (.aload_n 0, 1) := by decide +kernel
theorem dX5_holdsForPoint_14 : decode cX5_holdsForPoint 14 = .ok (.iload_n 2, 1) := by decide +kernel
theorem dX5_holdsForPoint_15 : decode cX5_holdsForPoint 15 = .ok (.invokevirtual 49, 3) := by decide +kernel
theorem dX5_holdsForPoint_18 : decode cX5_holdsForPoint 18 = .ok (.istore 4, 2) := by decide +kernel
theorem dX5_holdsForPoint_20 : decode cX5_holdsForPoint 20 = .ok (.iload_n 1, 1) := by decide +kernel
theorem dX5_holdsForPoint_21 : decode cX5_holdsForPoint 21 = .ok (.tableswitch 167 3 9 #[43, 61, 85, 167, 100, 167, 152], 43) := by decide +kernel
theorem dX5_holdsForPoint_64 : decode cX5_holdsForPoint 64 = .ok (.iload 4, 2) := by decide +kernel
theorem dX5_holdsForPoint_66 : decode cX5_holdsForPoint 66 = .ok (.iconst (-1), 1) := by decide +kernel
theorem dX5_holdsForPoint_67 : decode cX5_holdsForPoint 67 = .ok (.if_icmp .eq 13, 3) := by decide +kernel
theorem dX5_holdsForPoint_70 : decode cX5_holdsForPoint 70 = .ok (.iload 4, 2) := by decide +kernel
theorem dX5_holdsForPoint_72 : decode cX5_holdsForPoint 72 = .ok (.iload_n 3, 1) := by decide +kernel
theorem dX5_holdsForPoint_73 : decode cX5_holdsForPoint 73 = .ok (.if_icmp .ne 7, 3) := by decide +kernel
theorem dX5_holdsForPoint_76 : decode cX5_holdsForPoint 76 = .ok (.iconst 1, 1) := by decide +kernel
theorem dX5_holdsForPoint_77 : decode cX5_holdsForPoint 77 = .ok (.goto 4, 3) := by decide +kernel
theorem dX5_holdsForPoint_80 : decode cX5_holdsForPoint 80 = .ok (.iconst 0, 1) := by decide +kernel
theorem dX5_holdsForPoint_81 : decode cX5_holdsForPoint 81 = .ok (.ireturn, 1) := by decide +kernel
theorem dX5_holdsForPoint_82 : decode cX5_holdsForPoint 82 = .ok (.iload 4, 2) := by decide +kernel
theorem dX5_holdsForPoint_84 : decode cX5_holdsForPoint 84 = .ok (.iconst (-1), 1) := by decide +kernel
theorem dX5_holdsForPoint_85 : decode cX5_holdsForPoint 85 = .ok (.if_icmp .eq 19, 3) := by decide +kernel
theorem dX5_holdsForPoint_88 : decode cX5_holdsForPoint 88 = .ok (.aload_n 0, 1) := by decide +kernel
theorem dX5_holdsForPoint_89 : decode cX5_holdsForPoint 89 = .ok (.iload_n 2, 1) := by decide +kernel
theorem dX5_holdsForPoint_90 : decode cX5_holdsForPoint 90 = .ok (.invokevirtual 52, 3) := by decide +kernel
theorem dX5_holdsForPoint_93 : decode cX5_holdsForPoint 93 = .ok (.invokestatic 56, 3) := by decide +kernel
theorem dX5_holdsForPoint_96 : decode cX5_holdsForPoint 96 = .ok (.iload_n 3, 1) := by decide +kernel
theorem dX5_holdsForPoint_97 : decode cX5_holdsForPoint 97 = .ok (.if_icmp .lt 7, 3) := by decide +kernel
theorem dX5_holdsForPoint_100 : decode cX5_holdsForPoint 100 = .ok (.iconst 1, 1) := by decide +kernel
theorem dX5_holdsForPoint_101 : decode cX5_holdsForPoint 101 = .ok (.goto 4, 3) := by decide +kernel
theorem dX5_holdsForPoint_104 : decode cX5_holdsForPoint 104 = .ok (.iconst 0, 1) := by decide +kernel
theorem dX5_holdsForPoint_105 : decode cX5_holdsForPoint 105 = .ok (.ireturn, 1) := by decide +kernel
theorem dX5_holdsForPoint_106 : decode cX5_holdsForPoint 106 = .ok (.aload_n 0, 1) := by decide +kernel
theorem dX5_holdsForPoint_107 : decode cX5_holdsForPoint 107 = .ok (.iload_n 2, 1) := by decide +kernel
theorem dX5_holdsForPoint_108 : decode cX5_holdsForPoint 108 = .ok (.invokevirtual 62, 3) := by decide +kernel
theorem dX5_holdsForPoint_111 : decode cX5_holdsForPoint 111 = .ok (.iload_n 3, 1) := by decide +kernel
theorem dX5_holdsForPoint_112 : decode cX5_holdsForPoint 112 = .ok (.if_icmp .ne 7, 3) := by decide +kernel
theorem dX5_holdsForPoint_115 : decode cX5_holdsForPoint 115 = .ok (.iconst 1, 1) := by decide +kernel
theorem dX5_holdsForPoint_116 : decode cX5_holdsForPoint 116 = .ok (.goto 4, 3) := by decide +kernel
theorem dX5_holdsForPoint_119 : decode cX5_holdsForPoint 119 = .ok (.iconst 0, 1) := by decide +kernel
theorem dX5_holdsForPoint_120 : decode cX5_holdsForPoint 120 = .ok (.ireturn, 1) := by decide +kernel
theorem dX5_holdsForPoint_121 : decode cX5_holdsForPoint 121 = .ok (.iload 4, 2) := by decide +kernel
theorem dX5_holdsForPoint_123 : decode cX5_holdsForPoint 123 = .ok (.iconst (-1), 1) := by decide +kernel
theorem dX5_holdsForPoint_124 : decode cX5_holdsForPoint 124 = .ok (.if_icmp .eq 47, 3) := by decide +kernel
theorem dX5_holdsForPoint_127 : decode cX5_holdsForPoint 127 = .ok (.iload_n 3, 1) := by decide +kernel
theorem dX5_holdsForPoint_128 : decode cX5_holdsForPoint 128 = .ok (.aload_n 0, 1) := by decide +kernel
theorem dX5_holdsForPoint_129 : decode cX5_holdsForPoint 129 = .ok (.getfield 40, 3) := by decide +kernel
theorem dX5_holdsForPoint_132 : decode cX5_holdsForPoint 132 = .ok (.aload_n 0, 1) := by decide +kernel
theorem dX5_holdsForPoint_133 : decode cX5_holdsForPoint 133 = .ok (.iconst 1, 1) := by decide +kernel
theorem dX5_holdsForPoint_134 : decode cX5_holdsForPoint 134 = .ok (.iload 4, 2) := by decide +kernel
theorem dX5_holdsForPoint_136 : decode cX5_holdsForPoint 136 = .ok (.isub, 1) := by decide +kernel
theorem dX5_holdsForPoint_137 : decode cX5_holdsForPoint 137 = .ok (.invokevirtual 65, 3) := by decide +kernel
theorem dX5_holdsForPoint_140 : decode cX5_holdsForPoint 140 = .ok (.aload_n 0, 1) := by decide +kernel
theorem dX5_holdsForPoint_141 : decode cX5_holdsForPoint 141 = .ok (.iload 4, 2) := by decide +kernel
theorem dX5_holdsForPoint_143 : decode cX5_holdsForPoint 143 = .ok (.invokevirtual 65, 3) := by decide +kernel
theorem dX5_holdsForPoint_146 : decode cX5_holdsForPoint 146 = .ok (.lconst 1, 1) := by decide +kernel
theorem dX5_holdsForPoint_147 : decode cX5_holdsForPoint 147 = .ok (.iload_n 2, 1) := by decide +kernel
theorem dX5_holdsForPoint_148 : decode cX5_holdsForPoint 148 = .ok (.lshl, 1) := by decide +kernel
theorem dX5_holdsForPoint_149 : decode cX5_holdsForPoint 149 = .ok (.bipush 12, 2) := by decide +kernel
theorem dX5_holdsForPoint_151 : decode cX5_holdsForPoint 151 = .ok (.invokestatic 68, 3) := by decide +kernel
theorem dX5_holdsForPoint_154 : decode cX5_holdsForPoint 154 = .ok (.lconst 0, 1) := by decide +kernel
theorem dX5_holdsForPoint_155 : decode cX5_holdsForPoint 155 = .ok (.lcmp, 1) := by decide +kernel
theorem dX5_holdsForPoint_156 : decode cX5_holdsForPoint 156 = .ok (.ifCond .eq 7, 3) := by decide +kernel
theorem dX5_holdsForPoint_159 : decode cX5_holdsForPoint 159 = .ok (.iconst 1, 1) := by decide +kernel
theorem dX5_holdsForPoint_160 : decode cX5_holdsForPoint 160 = .ok (.goto 4, 3) := by decide +kernel
theorem dX5_holdsForPoint_163 : decode cX5_holdsForPoint 163 = .ok (.iconst 0, 1) := by decide +kernel
theorem dX5_holdsForPoint_164 : decode cX5_holdsForPoint 164 = .ok (.if_icmp .ne 7, 3) := by decide +kernel
theorem dX5_holdsForPoint_167 : decode cX5_holdsForPoint 167 = .ok (.iconst 1, 1) := by decide +kernel
theorem dX5_holdsForPoint_168 : decode cX5_holdsForPoint 168 = .ok (.goto 4, 3) := by decide +kernel
theorem dX5_holdsForPoint_171 : decode cX5_holdsForPoint 171 = .ok (.iconst 0, 1) := by decide +kernel
theorem dX5_holdsForPoint_172 : decode cX5_holdsForPoint 172 = .ok (.ireturn, 1) := by decide +kernel
theorem dX5_holdsForPoint_173 : decode cX5_holdsForPoint 173 = .ok (.aload_n 0, 1) := by decide +kernel
theorem dX5_holdsForPoint_174 : decode cX5_holdsForPoint 174 = .ok (.iload_n 2, 1) := by decide +kernel
theorem dX5_holdsForPoint_175 : decode cX5_holdsForPoint 175 = .ok (.invokevirtual 74, 3) := by decide +kernel
theorem dX5_holdsForPoint_178 : decode cX5_holdsForPoint 178 = .ok (.iload_n 3, 1) := by decide +kernel
theorem dX5_holdsForPoint_179 : decode cX5_holdsForPoint 179 = .ok (.if_icmp .ne 7, 3) := by decide +kernel
theorem dX5_holdsForPoint_182 : decode cX5_holdsForPoint 182 = .ok (.iconst 1, 1) := by decide +kernel
theorem dX5_holdsForPoint_183 : decode cX5_holdsForPoint 183 = .ok (.goto 4, 3) := by decide +kernel
theorem dX5_holdsForPoint_186 : decode cX5_holdsForPoint 186 = .ok (.iconst 0, 1) := by decide +kernel
theorem dX5_holdsForPoint_187 : decode cX5_holdsForPoint 187 = .ok (.ireturn, 1) := by decide +kernel
theorem dX5_holdsForPoint_188 : decode cX5_holdsForPoint 188 = .ok (.iconst 0, 1) := by decide +kernel
theorem dX5_holdsForPoint_189 : decode cX5_holdsForPoint 189 = .ok (.ireturn, 1) := by decide +kernel
set_option maxRecDepth 20000 in
theorem ggX6_init_X0_init : GoodIn wsX6_init wsX0_init := goodIn_r _ [10, 11, 2, 3, 12, 13, 14, 15, 16, 17, 18, 19, 20, 21, 22, 23, 24, 25, 26] (by decide +kernel) (by decide +kernel)
set_option maxRecDepth 20000 in
theorem gX6_init_X0_init : GoodIn wsX6_init (wsX0_init) := ggX6_init_X0_init
theorem dX6_init_0 : decode cX6_init 0 = .ok (.aload_n 0, 1) := by decide +kernel
theorem dX6_init_1 : decode cX6_init 1 = .ok (.invokespecial 1, 3) := by decide +kernel
theorem dX6_init_4 : decode cX6_init 4 = .ok (.aload_n 0, 1) := by decide +kernel
theorem dX6_init_5 : decode cX6_init 5 = .ok (.new 7, 3) := by decide +kernel
theorem dX6_init_8 : decode cX6_init 8 = .ok (.dup, 1) := by decide +kernel
theorem dX6_init_9 : decode cX6_init 9 = .ok (.aload_n 1, 1) := by decide +kernel
theorem dX6_init_10 : decode cX6_init 10 = .ok (.invokespecial 9, 3) := by decide +kernel
theorem dX6_init_13 : decode cX6_init 13 = .ok (.putfield 12, 3) := by decide +kernel
theorem dX6_init_16 : decode cX6_init 16 = .ok (.return_, 1) := by decide +kernel
set_option maxRecDepth 20000 in
theorem ggX7_init_X2_init : GoodIn wsX7_init wsX2_init := goodIn_r _ [27, 28, 2, 3, 29, 30, 31, 32, 33, 34, 63, 64, 65, 66, 67] (by decide +kernel) (by decide +kernel)
set_option maxRecDepth 20000 in
theorem gX7_init_X2_init : GoodIn wsX7_init (wsX2_init) := ggX7_init_X2_init
set_option maxRecDepth 20000 in
theorem ggX7_init_X1_init : GoodIn wsX7_init wsX1_init := goodIn_r _ [37, 38, 2, 3, 39, 40, 68, 69] (by decide +kernel) (by decide +kernel)
set_option maxRecDepth 20000 in
theorem gX7_init_X1_init : GoodIn wsX7_init (wsX1_init) := ggX7_init_X1_init
set_option maxRecDepth 20000 in
theorem ggX7_init_X0_init : GoodIn wsX7_init wsX0_init := goodIn_r _ [43, 44, 2, 3, 45, 46, 47, 48, 76, 77, 78, 79, 80, 81, 82, 83, 84, 85, 86] (by decide +kernel) (by decide +kernel)
set_option maxRecDepth 20000 in
theorem gX7_init_X0_init : GoodIn wsX7_init (wsX0_init) := ggX7_init_X0_init
set_option maxRecDepth 20000 in
theorem ggX7_init_X4_init : GoodIn wsX7_init wsX4_init := goodIn_r _ [51, 52, 2, 3, 53, 54, 12, 13, 55, 42, 43, 44, 45, 46, 47, 48, 87, 88, 89, 76, 77, 78, 79, 80, 81, 82, 83, 84, 85, 86] (by decide +kernel) (by decide +kernel)
set_option maxRecDepth 20000 in
theorem gX7_init_X4_init : GoodIn wsX7_init (wsX4_init) := ggX7_init_X4_init
set_option maxRecDepth 20000 in
theorem ggX7_init_X6_init : GoodIn wsX7_init wsX6_init := goodIn_r _ [58, 59, 2, 3, 60, 12, 13, 61, 62, 42, 43, 44, 45, 46, 47, 48, 76, 77, 78, 79, 80, 81, 82, 83, 84, 85, 86, 90, 91] (by decide +kernel) (by decide +kernel)
set_option maxRecDepth 20000 in
theorem gX7_init_X6_init : GoodIn wsX7_init (wsX6_init) := ggX7_init_X6_init
theorem dX7_init_0 : decode cX7_init 0 = .ok (.aload_n 0, 1) := by decide +kernel
theorem dX7_init_1 : decode cX7_init 1 = .ok (.invokespecial 1, 3) := by decide +kernel
theorem dX7_init_4 : decode cX7_init 4 = .ok (.new 7, 3) := by decide +kernel
theorem dX7_init_7 : decode cX7_init 7 = .ok (.dup, 1) := by decide +kernel
theorem dX7_init_8 : decode cX7_init 8 = .ok (.iconst 5, 1) := by decide +kernel
theorem dX7_init_9 : decode cX7_init 9 = .ok (.invokespecial 11, 3) := by decide +kernel
theorem dX7_init_12 : decode cX7_init 12 = .ok (.astore_n 1, 1) := by decide +kernel
theorem dX7_init_13 : decode cX7_init 13 = .ok (.aload_n 0, 1) := by decide +kernel
theorem dX7_init_14 : decode cX7_init 14 = .ok (.new 14, 3) := by decide +kernel
theorem dX7_init_17 : decode cX7_init 17 = .ok (.dup, 1) := by decide +kernel
theorem dX7_init_18 : decode cX7_init 18 = .ok (.invokespecial 16, 3) := by decide +kernel
theorem dX7_init_21 : decode cX7_init 21 = .ok (.putfield 17, 3) := by decide +kernel
theorem dX7_init_24 : decode cX7_init 24 = .ok (.aload_n 0, 1) := by decide +kernel
theorem dX7_init_25 : decode cX7_init 25 = .ok (.new 21, 3) := by decide +kernel
theorem dX7_init_28 : decode cX7_init 28 = .ok (.dup, 1) := by decide +kernel
theorem dX7_init_29 : decode cX7_init 29 = .ok (.aload_n 1, 1) := by decide +kernel
theorem dX7_init_30 : decode cX7_init 30 = .ok (.invokespecial 23, 3) := by decide +kernel
theorem dX7_init_33 : decode cX7_init 33 = .ok (.putfield 26, 3) := by decide +kernel
theorem dX7_init_36 : decode cX7_init 36 = .ok (.aload_n 0, 1) := by decide +kernel
theorem dX7_init_37 : decode cX7_init 37 = .ok (.new 21, 3) := by decide +kernel
theorem dX7_init_40 : decode cX7_init 40 = .ok (.dup, 1) := by decide +kernel
theorem dX7_init_41 : decode cX7_init 41 = .ok (.aload_n 1, 1) := by decide +kernel
theorem dX7_init_42 : decode cX7_init 42 = .ok (.invokespecial 23, 3) := by decide +kernel
theorem dX7_init_45 : decode cX7_init 45 = .ok (.putfield 30, 3) := by decide +kernel
theorem dX7_init_48 : decode cX7_init 48 = .ok (.aload_n 0, 1) := by decide +kernel
theorem dX7_init_49 : decode cX7_init 49 = .ok (.new 33, 3) := by decide +kernel
theorem dX7_init_52 : decode cX7_init 52 = .ok (.dup, 1) := by decide +kernel
theorem dX7_init_53 : decode cX7_init 53 = .ok (.aload_n 1, 1) := by decide +kernel
theorem dX7_init_54 : decode cX7_init 54 = .ok (.invokespecial 35, 3) := by decide +kernel
theorem dX7_init_57 : decode cX7_init 57 = .ok (.putfield 36, 3) := by decide +kernel
theorem dX7_init_60 : decode cX7_init 60 = .ok (.aload_n 0, 1) := by decide +kernel
theorem dX7_init_61 : decode cX7_init 61 = .ok (.new 40, 3) := by decide +kernel
theorem dX7_init_64 : decode cX7_init 64 = .ok (.dup, 1) := by decide +kernel
theorem dX7_init_65 : decode cX7_init 65 = .ok (.aload_n 1, 1) := by decide +kernel
theorem dX7_init_66 : decode cX7_init 66 = .ok (.invokespecial 42, 3) := by decide +kernel
theorem dX7_init_69 : decode cX7_init 69 = .ok (.putfield 43, 3) := by decide +kernel
theorem dX7_init_72 : decode cX7_init 72 = .ok (.aload_n 0, 1) := by decide +kernel
theorem dX7_init_73 : decode cX7_init 73 = .ok (.new 40, 3) := by decide +kernel
theorem dX7_init_76 : decode cX7_init 76 = .ok (.dup, 1) := by decide +kernel
theorem dX7_init_77 : decode cX7_init 77 = .ok (.aload_n 1, 1) := by decide +kernel
theorem dX7_init_78 : decode cX7_init 78 = .ok (.invokespecial 42, 3) := by decide +kernel
theorem dX7_init_81 : decode cX7_init 81 = .ok (.putfield 47, 3) := by decide +kernel
theorem dX7_init_84 : decode cX7_init 84 = .ok (.return_, 1) := by decide +kernel
set_option maxRecDepth 20000 in
theorem ggX7_append_X1_isFull : GoodIn wsX7_append wsX1_isFull := goodIn_r _ [10, 11, 23, 24] (by decide +kernel) (by decide +kernel)
set_option maxRecDepth 20000 in
theorem gX7_append_X1_isFull : GoodIn wsX7_append (wsV RX7 57 RX1 yX1_isFull wsX1_isFull) := goodIn_app (goodIn_of _ (by decide +kernel)) ggX7_append_X1_isFull
set_option maxRecDepth 20000 in
theorem ggX7_append_X1_add : GoodIn wsX7_append wsX1_add := goodIn_r _ [15, 11, 16, 23, 24] (by decide +kernel) (by decide +kernel)
set_option maxRecDepth 20000 in
theorem gX7_append_X1_add : GoodIn wsX7_append (wsV RX7 66 RX1 yX1_add wsX1_add) := goodIn_app (goodIn_of _ (by decide +kernel)) ggX7_append_X1_add
theorem dX7_append_0 : decode cX7_append 0 = .ok (.iload_n 1, 1) := by decide +kernel
theorem dX7_append_1 : decode cX7_append 1 = .ok (.ifCond .lt 10, 3) := by decide +kernel
theorem dX7_append_4 : decode cX7_append 4 = .ok (.iload_n 1, 1) := by decide +kernel
theorem dX7_append_5 : decode cX7_append 5 = .ok (.sipush 255, 3) := by decide +kernel
theorem dX7_append_8 : decode cX7_append 8 = .ok (.if_icmp .le 13, 3) := by decide +kernel
theorem dX7_append_11 : decode cX7_append 11 = .ok (.new 50, 3) := by decide +kernel
theorem dX7_append_14 : decode cX7_append 14 = .ok (.dup, 1) := by decide +kernel
theorem dX7_append_15 : decode cX7_append 15 = .ok (.ldc 52, 2) := by decide +kernel
theorem dX7_append_17 : decode cX7_append 17 = .ok (.invokespecial 54, 3) := by decide +kernel
theorem dX7_append_20 : decode cX7_append 20 = .ok (.athrow, 1) := by decide +kernel
theorem dX7_append_21 : decode cX7_append 21 = .ok (.aload_n 0, 1) := by decide +kernel
theorem dX7_append_22 : decode cX7_append 22 = .ok (.getfield 17, 3) := by decide +kernel
theorem dX7_append_25 : decode cX7_append 25 = .ok (.invokevirtual 57, 3) := by decide +kernel
theorem dX7_append_28 : decode cX7_append 28 = .ok (.ifCond .eq 13, 3) := by decide +kernel
theorem dX7_append_31 : decode cX7_append 31 = .ok (.new 61, 3) := by decide +kernel
theorem dX7_append_34 : decode cX7_append 34 = .ok (.dup, 1) := by decide +kernel
theorem dX7_append_35 : decode cX7_append 35 = .ok (.ldc 63, 2) := by decide +kernel
theorem dX7_append_37 : decode cX7_append 37 = .ok (.invokespecial 65, 3) := by decide +kernel
theorem dX7_append_40 : decode cX7_append 40 = .ok (.athrow, 1) := by decide +kernel
theorem dX7_append_41 : decode cX7_append 41 = .ok (.aload_n 0, 1) := by decide +kernel
theorem dX7_append_42 : decode cX7_append 42 = .ok (.getfield 17, 3) := by decide +kernel
theorem dX7_append_45 : decode cX7_append 45 = .ok (.iload_n 1, 1) := by decide +kernel
theorem dX7_append_46 : decode cX7_append 46 = .ok (.i2c, 1) := by decide +kernel
theorem dX7_append_47 : decode cX7_append 47 = .ok (.invokevirtual 66, 3) := by decide +kernel
theorem dX7_append_50 : decode cX7_append 50 = .ok (.ireturn, 1) := by decide +kernel
set_option maxRecDepth 20000 in
theorem ggX7_clearText_X1_empty : GoodIn wsX7_clearText wsX1_empty := goodIn_r _ [6, 7, 14, 15] (by decide +kernel) (by decide +kernel)
set_option maxRecDepth 20000 in
theorem gX7_clearText_X1_empty : GoodIn wsX7_clearText (wsV RX7 70 RX1 yX1_empty wsX1_empty) := goodIn_app (goodIn_of _ (by decide +kernel)) ggX7_clearText_X1_empty
theorem dX7_clearText_0 : decode cX7_clearText 0 = .ok (.aload_n 0, 1) := by decide +kernel
theorem dX7_clearText_1 : decode cX7_clearText 1 = .ok (.getfield 17, 3) := by decide +kernel
theorem dX7_clearText_4 : decode cX7_clearText 4 = .ok (.invokevirtual 70, 3) := by decide +kernel
theorem dX7_clearText_7 : decode cX7_clearText 7 = .ok (.ireturn, 1) := by decide +kernel
set_option maxRecDepth 20000 in
theorem ggX7_errorPosition_X1_firstError : GoodIn wsX7_errorPosition wsX1_firstError := goodIn_r _ [6, 7, 8, 9, 10, 5, 11, 12, 13, 14, 15, 16, 17, 18, 19, 20, 27, 28] (by decide +kernel) (by decide +kernel)
set_option maxRecDepth 20000 in
theorem gX7_errorPosition_X1_firstError : GoodIn wsX7_errorPosition (wsV RX7 74 RX1 yX1_firstError wsX1_firstError) := goodIn_app (goodIn_of _ (by decide +kernel)) ggX7_errorPosition_X1_firstError
theorem dX7_errorPosition_0 : decode cX7_errorPosition 0 = .ok (.aload_n 0, 1) := by decide +kernel
theorem dX7_errorPosition_1 : decode cX7_errorPosition 1 = .ok (.getfield 17, 3) := by decide +kernel
theorem dX7_errorPosition_4 : decode cX7_errorPosition 4 = .ok (.invokevirtual 74, 3) := by decide +kernel
theorem dX7_errorPosition_7 : decode cX7_errorPosition 7 = .ok (.ireturn, 1) := by decide +kernel
set_option maxRecDepth 20000 in
theorem ggX7_load_X1_firstError : GoodIn wsX7_load wsX1_firstError := goodIn_r _ [12, 13, 14, 15, 16, 11, 17, 18, 19, 20, 21, 22, 23, 24, 25, 26, 159, 160] (by decide +kernel) (by decide +kernel)
set_option maxRecDepth 20000 in
theorem gX7_load_X1_firstError : GoodIn wsX7_load (wsV RX7 74 RX1 yX1_firstError wsX1_firstError) := goodIn_app (goodIn_of _ (by decide +kernel)) ggX7_load_X1_firstError
set_option maxRecDepth 20000 in
theorem ggX7_load_X1_rows : GoodIn wsX7_load wsX1_rows := goodIn_r _ [30, 14, 15, 16, 11, 17, 13, 18, 159, 160] (by decide +kernel) (by decide +kernel)
set_option maxRecDepth 20000 in
theorem gX7_load_X1_rows : GoodIn wsX7_load (wsV RX7 79 RX1 yX1_rows wsX1_rows) := goodIn_app (goodIn_of _ (by decide +kernel)) ggX7_load_X1_rows
set_option maxRecDepth 20000 in
theorem ggX7_load_X0_layOut : GoodIn wsX7_load wsX0_layOut := goodIn_r _ [35, 36, 37, 38, 39, 40, 41, 42, 43, 44, 45, 46, 47, 48, 49, 50, 51, 52, 53, 54, 55, 56, 57, 58, 59, 60, 61, 34, 62, 63, 64, 163, 164, 165, 166, 167, 148, 149, 150, 151, 152, 153, 154, 155, 156, 157, 158] (by decide +kernel) (by decide +kernel)
set_option maxRecDepth 20000 in
theorem gX7_load_X0_layOut : GoodIn wsX7_load (wsV RX7 82 RX0 yX0_layOut wsX0_layOut) := goodIn_app (goodIn_of _ (by decide +kernel)) ggX7_load_X0_layOut
set_option maxRecDepth 20000 in
theorem ggX7_load_X1_setting : GoodIn wsX7_load wsX1_setting := goodIn_r _ [68, 14, 15, 16, 11, 17, 13, 18, 159, 160] (by decide +kernel) (by decide +kernel)
set_option maxRecDepth 20000 in
theorem gX7_load_X1_setting : GoodIn wsX7_load (wsV RX7 85 RX1 yX1_setting wsX1_setting) := goodIn_app (goodIn_of _ (by decide +kernel)) ggX7_load_X1_setting
set_option maxRecDepth 20000 in
theorem ggX7_load_X1_firstMove : GoodIn wsX7_load wsX1_firstMove := goodIn_r _ [22, 14, 15, 16, 11, 17, 13, 18, 159, 160] (by decide +kernel) (by decide +kernel)
set_option maxRecDepth 20000 in
theorem gX7_load_X1_firstMove : GoodIn wsX7_load (wsV RX7 91 RX1 yX1_firstMove wsX1_firstMove) := goodIn_app (goodIn_of _ (by decide +kernel)) ggX7_load_X1_firstMove
set_option maxRecDepth 20000 in
theorem ggX7_load_X1_isPassAt : GoodIn wsX7_load wsX1_isPassAt := goodIn_r _ [26, 14, 15, 16, 11, 17, 13, 18, 159, 160] (by decide +kernel) (by decide +kernel)
set_option maxRecDepth 20000 in
theorem gX7_load_X1_isPassAt : GoodIn wsX7_load (wsV RX7 97 RX1 yX1_isPassAt wsX1_isPassAt) := goodIn_app (goodIn_of _ (by decide +kernel)) ggX7_load_X1_isPassAt
set_option maxRecDepth 20000 in
theorem ggX7_load_X0_passIfAllowed : GoodIn wsX7_load wsX0_passIfAllowed := goodIn_r _ [74, 40, 41, 42, 59, 60, 61, 34, 62, 63, 64, 43, 44, 148, 149, 150, 151, 152, 153, 154, 155, 156, 157, 158] (by decide +kernel) (by decide +kernel)
set_option maxRecDepth 20000 in
theorem gX7_load_X0_passIfAllowed : GoodIn wsX7_load (wsV RX7 101 RX0 yX0_passIfAllowed wsX0_passIfAllowed) := goodIn_app (goodIn_of _ (by decide +kernel)) ggX7_load_X0_passIfAllowed
set_option maxRecDepth 20000 in
theorem ggX7_load_X1_pointAt : GoodIn wsX7_load wsX1_pointAt := goodIn_r _ [78, 14, 15, 16, 11, 17, 13, 18, 159, 160] (by decide +kernel) (by decide +kernel)
set_option maxRecDepth 20000 in
theorem gX7_load_X1_pointAt : GoodIn wsX7_load (wsV RX7 104 RX1 yX1_pointAt wsX1_pointAt) := goodIn_app (goodIn_of _ (by decide +kernel)) ggX7_load_X1_pointAt
set_option maxRecDepth 20000 in
theorem ggX7_load_X0_layIfAllowed : GoodIn wsX7_load wsX0_layIfAllowed := goodIn_r _ [82, 39, 83, 84, 85, 38, 86, 54, 87, 88, 89, 34, 90, 91, 40, 92, 93, 94, 95, 96, 97, 98, 99, 43, 44, 100, 101, 102, 103, 55, 56, 104, 105, 106, 107, 57, 58, 53, 108, 109, 110, 111, 112, 113, 114, 115, 116, 117, 118, 119, 120, 121, 122, 123, 124, 63, 64, 125, 126, 127, 128, 45, 46, 42, 129, 130, 131, 132, 133, 134, 135, 59, 60, 61, 62, 148, 149, 150, 151, 152, 153, 154, 155, 156, 157, 158, 163, 164, 165, 166, 167] (by decide +kernel) (by decide +kernel)
set_option maxRecDepth 20000 in
theorem gX7_load_X0_layIfAllowed : GoodIn wsX7_load (wsV RX7 108 RX0 yX0_layIfAllowed wsX0_layIfAllowed) := goodIn_app (goodIn_of _ (by decide +kernel)) ggX7_load_X0_layIfAllowed
set_option maxRecDepth 20000 in
theorem ggX7_load_X4_forgetAll : GoodIn wsX7_load wsX4_forgetAll := goodIn_r _ [140, 141, 168, 169, 170] (by decide +kernel) (by decide +kernel)
set_option maxRecDepth 20000 in
theorem gX7_load_X4_forgetAll : GoodIn wsX7_load (wsV RX7 111 RX4 yX4_forgetAll wsX4_forgetAll) := goodIn_app (goodIn_of _ (by decide +kernel)) ggX7_load_X4_forgetAll
theorem dX7_load_0 : decode cX7_load 0 = .ok (.aload_n 0, 1) := by decide +kernel
theorem dX7_load_1 : decode cX7_load 1 = .ok (.getfield 17, 3) := by decide +kernel
theorem dX7_load_4 : decode cX7_load 4 = .ok (.invokevirtual 74, 3) := by decide +kernel
theorem dX7_load_7 : decode cX7_load 7 = .ok (.iconst (-1), 1) := by decide +kernel
theorem dX7_load_8 : decode cX7_load 8 = .ok (.if_icmp .eq 13, 3) := by decide +kernel
theorem dX7_load_11 : decode cX7_load 11 = .ok (.new 61, 3) := by decide +kernel
theorem dX7_load_14 : decode cX7_load 14 = .ok (.dup, 1) := by decide +kernel
theorem dX7_load_15 : decode cX7_load 15 = .ok (.ldc 77, 2) := by decide +kernel
theorem dX7_load_17 : decode cX7_load 17 = .ok (.invokespecial 65, 3) := by decide +kernel
theorem dX7_load_20 : decode cX7_load 20 = .ok (.athrow, 1) := by decide +kernel
theorem dX7_load_21 : decode cX7_load 21 = .ok (.aload_n 0, 1) := by decide +kernel
theorem dX7_load_22 : decode cX7_load 22 = .ok (.getfield 26, 3) := by decide +kernel
theorem dX7_load_25 : decode cX7_load 25 = .ok (.aload_n 0, 1) := by decide +kernel
theorem dX7_load_26 : decode cX7_load 26 = .ok (.getfield 17, 3) := by decide +kernel
theorem dX7_load_29 : decode cX7_load 29 = .ok (.invokevirtual 79, 3) := by decide +kernel
theorem dX7_load_32 : decode cX7_load 32 = .ok (.invokevirtual 82, 3) := by decide +kernel
theorem dX7_load_35 : decode cX7_load 35 = .ok (.aload_n 0, 1) := by decide +kernel
theorem dX7_load_36 : decode cX7_load 36 = .ok (.getfield 26, 3) := by decide +kernel
theorem dX7_load_39 : decode cX7_load 39 = .ok (.aload_n 0, 1) := by decide +kernel
theorem dX7_load_40 : decode cX7_load 40 = .ok (.getfield 17, 3) := by decide +kernel
theorem dX7_load_43 : decode cX7_load 43 = .ok (.invokevirtual 85, 3) := by decide +kernel
theorem dX7_load_46 : decode cX7_load 46 = .ok (.putfield 88, 3) := by decide +kernel
theorem dX7_load_49 : decode cX7_load 49 = .ok (.iconst 0, 1) := by decide +kernel
theorem dX7_load_50 : decode cX7_load 50 = .ok (.istore_n 1, 1) := by decide +kernel
theorem dX7_load_51 : decode cX7_load 51 = .ok (.aload_n 0, 1) := by decide +kernel
theorem dX7_load_52 : decode cX7_load 52 = .ok (.getfield 17, 3) := by decide +kernel
theorem dX7_load_55 : decode cX7_load 55 = .ok (.invokevirtual 91, 3) := by decide +kernel
theorem dX7_load_58 : decode cX7_load 58 = .ok (.istore_n 2, 1) := by decide +kernel
theorem dX7_load_59 : decode cX7_load 59 = .ok (.iload_n 2, 1) := by decide +kernel
theorem dX7_load_60 : decode cX7_load 60 = .ok (.aload_n 0, 1) := by decide +kernel
theorem dX7_load_61 : decode cX7_load 61 = .ok (.getfield 17, 3) := by decide +kernel
theorem dX7_load_64 : decode cX7_load 64 = .ok (.getfield 94, 3) := by decide +kernel
theorem dX7_load_67 : decode cX7_load 67 = .ok (.if_icmp .ge 63, 3) := by decide +kernel
theorem dX7_load_70 : decode cX7_load 70 = .ok (.aload_n 0, 1) := by decide +kernel
theorem dX7_load_71 : decode cX7_load 71 = .ok (.getfield 17, 3) := by decide +kernel
theorem dX7_load_74 : decode cX7_load 74 = .ok (.iload_n 2, 1) := by decide +kernel
theorem dX7_load_75 : decode cX7_load 75 = .ok (.invokevirtual 97, 3) := by decide +kernel
theorem dX7_load_78 : decode cX7_load 78 = .ok (.istore_n 3, 1) := by decide +kernel
theorem dX7_load_79 : decode cX7_load 79 = .ok (.iload_n 3, 1) := by decide +kernel
theorem dX7_load_80 : decode cX7_load 80 = .ok (.ifCond .eq 16, 3) := by decide +kernel
theorem dX7_load_83 : decode cX7_load 83 = .ok (.aload_n 0, 1) := by decide +kernel
theorem dX7_load_84 : decode cX7_load 84 = .ok (.getfield 26, 3) := by decide +kernel
theorem dX7_load_87 : decode cX7_load 87 = .ok (.invokevirtual 101, 3) := by decide +kernel
theorem dX7_load_90 : decode cX7_load 90 = .ok (.ifCond .eq 24, 3) := by decide +kernel
theorem dX7_load_93 : decode cX7_load 93 = .ok (.goto 24, 3) := by decide +kernel
theorem dX7_load_96 : decode cX7_load 96 = .ok (.aload_n 0, 1) := by decide +kernel
theorem dX7_load_97 : decode cX7_load 97 = .ok (.getfield 26, 3) := by decide +kernel
theorem dX7_load_100 : decode cX7_load 100 = .ok (.aload_n 0, 1) := by decide +kernel
theorem dX7_load_101 : decode cX7_load 101 = .ok (.getfield 17, 3) := by decide +kernel
theorem dX7_load_104 : decode cX7_load 104 = .ok (.iload_n 2, 1) := by decide +kernel
theorem dX7_load_105 : decode cX7_load 105 = .ok (.invokevirtual 104, 3) := by decide +kernel
theorem dX7_load_108 : decode cX7_load 108 = .ok (.invokevirtual 108, 3) := by decide +kernel
theorem dX7_load_111 : decode cX7_load 111 = .ok (.ifCond .ne 6, 3) := by decide +kernel
theorem dX7_load_114 : decode cX7_load 114 = .ok (.iinc 1 1, 3) := by decide +kernel
theorem dX7_load_117 : decode cX7_load 117 = .ok (.iload_n 3, 1) := by decide +kernel
theorem dX7_load_118 : decode cX7_load 118 = .ok (.ifCond .ne 6, 3) := by decide +kernel
theorem dX7_load_121 : decode cX7_load 121 = .ok (.iinc 2 1, 3) := by decide +kernel
theorem dX7_load_124 : decode cX7_load 124 = .ok (.iinc 2 1, 3) := by decide +kernel
theorem dX7_load_127 : decode cX7_load 127 = .ok (.goto (-68), 3) := by decide +kernel
theorem dX7_load_130 : decode cX7_load 130 = .ok (.aload_n 0, 1) := by decide +kernel
theorem dX7_load_131 : decode cX7_load 131 = .ok (.getfield 36, 3) := by decide +kernel
theorem dX7_load_134 : decode cX7_load 134 = .ok (.invokevirtual 111, 3) := by decide +kernel
theorem dX7_load_137 : decode cX7_load 137 = .ok (.aload_n 0, 1) := by decide +kernel
theorem dX7_load_138 : decode cX7_load 138 = .ok (.getfield 43, 3) := by decide +kernel
theorem dX7_load_141 : decode cX7_load 141 = .ok (.iconst 0, 1) := by decide +kernel
theorem dX7_load_142 : decode cX7_load 142 = .ok (.putfield 114, 3) := by decide +kernel
theorem dX7_load_145 : decode cX7_load 145 = .ok (.aload_n 0, 1) := by decide +kernel
theorem dX7_load_146 : decode cX7_load 146 = .ok (.getfield 47, 3) := by decide +kernel
theorem dX7_load_149 : decode cX7_load 149 = .ok (.iconst 0, 1) := by decide +kernel
theorem dX7_load_150 : decode cX7_load 150 = .ok (.putfield 114, 3) := by decide +kernel
theorem dX7_load_153 : decode cX7_load 153 = .ok (.iload_n 1, 1) := by decide +kernel
theorem dX7_load_154 : decode cX7_load 154 = .ok (.ireturn, 1) := by decide +kernel
set_option maxRecDepth 20000 in
theorem ggX7_about_X0_turn : GoodIn wsX7_about wsX0_turn := goodIn_r _ [9, 10, 65, 66, 67, 68, 69, 70, 71, 72, 73, 74, 75] (by decide +kernel) (by decide +kernel)
set_option maxRecDepth 20000 in
theorem gX7_about_X0_turn : GoodIn wsX7_about (wsV RX7 127 RX0 yX0_turn wsX0_turn) := goodIn_app (goodIn_of _ (by decide +kernel)) ggX7_about_X0_turn
set_option maxRecDepth 20000 in
theorem ggX7_about_X0_groupsOf : GoodIn wsX7_about wsX0_groupsOf := goodIn_r _ [14, 15, 16, 17, 18, 8, 19, 20, 21, 22, 23, 24, 25, 26, 27, 28, 29, 30, 31, 32, 33, 34, 35, 36, 37, 38, 39, 65, 66, 67, 68, 69, 70, 71, 72, 73, 74, 75, 76, 77, 78, 79, 80] (by decide +kernel) (by decide +kernel)
set_option maxRecDepth 20000 in
theorem gX7_about_X0_groupsOf : GoodIn wsX7_about (wsV RX7 136 RX0 yX0_groupsOf wsX0_groupsOf) := goodIn_app (goodIn_of _ (by decide +kernel)) ggX7_about_X0_groupsOf
set_option maxRecDepth 20000 in
theorem ggX7_about_X0_groupsWithOneLiberty : GoodIn wsX7_about wsX0_groupsWithOneLiberty := goodIn_r _ [43, 15, 20, 21, 44, 45, 46, 25, 47, 27, 48, 49, 50, 51, 39, 28, 29, 30, 31, 32, 33, 34, 35, 36, 37, 38, 52, 53, 54, 55, 56, 57, 58, 65, 66, 67, 68, 69, 70, 71, 72, 73, 74, 75, 76, 77, 78, 79, 80] (by decide +kernel) (by decide +kernel)
set_option maxRecDepth 20000 in
theorem gX7_about_X0_groupsWithOneLiberty : GoodIn wsX7_about (wsV RX7 139 RX0 yX0_groupsWithOneLiberty wsX0_groupsWithOneLiberty) := goodIn_app (goodIn_of _ (by decide +kernel)) ggX7_about_X0_groupsWithOneLiberty
theorem dX7_about_0 : decode cX7_about 0 = .ok (.iload_n 1, 1) := by decide +kernel
theorem dX7_about_1 : decode cX7_about 1 = .ok (.tableswitch 133 0 7 #[47, 58, 66, 74, 82, 99, 117, 125], 47) := by decide +kernel
theorem dX7_about_48 : decode cX7_about 48 = .ok (.aload_n 0, 1) := by decide +kernel
theorem dX7_about_49 : decode cX7_about 49 = .ok (.getfield 26, 3) := by decide +kernel
theorem dX7_about_52 : decode cX7_about 52 = .ok (.getfield 118, 3) := by decide +kernel
theorem dX7_about_55 : decode cX7_about 55 = .ok (.getfield 122, 3) := by decide +kernel
theorem dX7_about_58 : decode cX7_about 58 = .ok (.ireturn, 1) := by decide +kernel
theorem dX7_about_59 : decode cX7_about 59 = .ok (.aload_n 0, 1) := by decide +kernel
theorem dX7_about_60 : decode cX7_about 60 = .ok (.getfield 26, 3) := by decide +kernel
theorem dX7_about_63 : decode cX7_about 63 = .ok (.getfield 124, 3) := by decide +kernel
theorem dX7_about_66 : decode cX7_about 66 = .ok (.ireturn, 1) := by decide +kernel
theorem dX7_about_67 : decode cX7_about 67 = .ok (.aload_n 0, 1) := by decide +kernel
theorem dX7_about_68 : decode cX7_about 68 = .ok (.getfield 26, 3) := by decide +kernel
theorem dX7_about_71 : decode cX7_about 71 = .ok (.invokevirtual 127, 3) := by decide +kernel
theorem dX7_about_74 : decode cX7_about 74 = .ok (.ireturn, 1) := by decide +kernel
theorem dX7_about_75 : decode cX7_about 75 = .ok (.aload_n 0, 1) := by decide +kernel
theorem dX7_about_76 : decode cX7_about 76 = .ok (.getfield 26, 3) := by decide +kernel
theorem dX7_about_79 : decode cX7_about 79 = .ok (.getfield 130, 3) := by decide +kernel
theorem dX7_about_82 : decode cX7_about 82 = .ok (.ireturn, 1) := by decide +kernel
theorem dX7_about_83 : decode cX7_about 83 = .ok (.aload_n 0, 1) := by decide +kernel
theorem dX7_about_84 : decode cX7_about 84 = .ok (.getfield 26, 3) := by decide +kernel
theorem dX7_about_87 : decode cX7_about 87 = .ok (.getfield 133, 3) := by decide +kernel
theorem dX7_about_90 : decode cX7_about 90 = .ok (.iconst 2, 1) := by decide +kernel
theorem dX7_about_91 : decode cX7_about 91 = .ok (.if_icmp .lt 7, 3) := by decide +kernel
theorem dX7_about_94 : decode cX7_about 94 = .ok (.iconst 1, 1) := by decide +kernel
theorem dX7_about_95 : decode cX7_about 95 = .ok (.goto 4, 3) := by decide +kernel
theorem dX7_about_98 : decode cX7_about 98 = .ok (.iconst 0, 1) := by decide +kernel
theorem dX7_about_99 : decode cX7_about 99 = .ok (.ireturn, 1) := by decide +kernel
theorem dX7_about_100 : decode cX7_about 100 = .ok (.aload_n 0, 1) := by decide +kernel
theorem dX7_about_101 : decode cX7_about 101 = .ok (.getfield 26, 3) := by decide +kernel
theorem dX7_about_104 : decode cX7_about 104 = .ok (.iconst 0, 1) := by decide +kernel
theorem dX7_about_105 : decode cX7_about 105 = .ok (.invokevirtual 136, 3) := by decide +kernel
theorem dX7_about_108 : decode cX7_about 108 = .ok (.aload_n 0, 1) := by decide +kernel
theorem dX7_about_109 : decode cX7_about 109 = .ok (.getfield 26, 3) := by decide +kernel
theorem dX7_about_112 : decode cX7_about 112 = .ok (.iconst 1, 1) := by decide +kernel
theorem dX7_about_113 : decode cX7_about 113 = .ok (.invokevirtual 136, 3) := by decide +kernel
theorem dX7_about_116 : decode cX7_about 116 = .ok (.iadd, 1) := by decide +kernel
theorem dX7_about_117 : decode cX7_about 117 = .ok (.ireturn, 1) := by decide +kernel
theorem dX7_about_118 : decode cX7_about 118 = .ok (.aload_n 0, 1) := by decide +kernel
theorem dX7_about_119 : decode cX7_about 119 = .ok (.getfield 26, 3) := by decide +kernel
theorem dX7_about_122 : decode cX7_about 122 = .ok (.invokevirtual 139, 3) := by decide +kernel
theorem dX7_about_125 : decode cX7_about 125 = .ok (.ireturn, 1) := by decide +kernel
theorem dX7_about_126 : decode cX7_about 126 = .ok (.aload_n 0, 1) := by decide +kernel
theorem dX7_about_127 : decode cX7_about 127 = .ok (.getfield 26, 3) := by decide +kernel
theorem dX7_about_130 : decode cX7_about 130 = .ok (.getfield 88, 3) := by decide +kernel
theorem dX7_about_133 : decode cX7_about 133 = .ok (.ireturn, 1) := by decide +kernel
theorem dX7_about_134 : decode cX7_about 134 = .ok (.new 50, 3) := by decide +kernel
theorem dX7_about_137 : decode cX7_about 137 = .ok (.dup, 1) := by decide +kernel
theorem dX7_about_138 : decode cX7_about 138 = .ok (.ldc 142, 2) := by decide +kernel
theorem dX7_about_140 : decode cX7_about 140 = .ok (.invokespecial 54, 3) := by decide +kernel
theorem dX7_about_143 : decode cX7_about 143 = .ok (.athrow, 1) := by decide +kernel
set_option maxRecDepth 20000 in
theorem ggX7_stones_X7_isColour : GoodIn wsX7_stones wsX7_isColour := goodIn_r _ [7] (by decide +kernel) (by decide +kernel)
set_option maxRecDepth 20000 in
theorem gX7_stones_X7_isColour : GoodIn wsX7_stones (va_wsS RX7 144 yX7_isColour wsX7_isColour) := goodIn_app (goodIn_of _ (by decide +kernel)) ggX7_stones_X7_isColour
set_option maxRecDepth 20000 in
theorem ggX7_stones_X0_stonesOf : GoodIn wsX7_stones wsX0_stonesOf := goodIn_r _ [12, 13, 14, 21, 22, 23, 24, 25, 26, 27, 28, 29, 30, 31] (by decide +kernel) (by decide +kernel)
set_option maxRecDepth 20000 in
theorem gX7_stones_X0_stonesOf : GoodIn wsX7_stones (wsV RX7 152 RX0 yX0_stonesOf wsX0_stonesOf) := goodIn_app (goodIn_of _ (by decide +kernel)) ggX7_stones_X0_stonesOf
theorem dX7_stones_0 : decode cX7_stones 0 = .ok (.iload_n 1, 1) := by decide +kernel
theorem dX7_stones_1 : decode cX7_stones 1 = .ok (.invokestatic 144, 3) := by decide +kernel
theorem dX7_stones_4 : decode cX7_stones 4 = .ok (.ifCond .ne 13, 3) := by decide +kernel
theorem dX7_stones_7 : decode cX7_stones 7 = .ok (.new 147, 3) := by decide +kernel
theorem dX7_stones_10 : decode cX7_stones 10 = .ok (.dup, 1) := by decide +kernel
theorem dX7_stones_11 : decode cX7_stones 11 = .ok (.ldc 149, 2) := by decide +kernel
theorem dX7_stones_13 : decode cX7_stones 13 = .ok (.invokespecial 151, 3) := by decide +kernel
theorem dX7_stones_16 : decode cX7_stones 16 = .ok (.athrow, 1) := by decide +kernel
theorem dX7_stones_17 : decode cX7_stones 17 = .ok (.aload_n 0, 1) := by decide +kernel
theorem dX7_stones_18 : decode cX7_stones 18 = .ok (.getfield 26, 3) := by decide +kernel
theorem dX7_stones_21 : decode cX7_stones 21 = .ok (.iload_n 1, 1) := by decide +kernel
theorem dX7_stones_22 : decode cX7_stones 22 = .ok (.invokevirtual 152, 3) := by decide +kernel
theorem dX7_stones_25 : decode cX7_stones 25 = .ok (.lreturn, 1) := by decide +kernel
set_option maxRecDepth 20000 in
theorem ggX7_colour_X7_isColour : GoodIn wsX7_colour wsX7_isColour := goodIn_r _ [9] (by decide +kernel) (by decide +kernel)
set_option maxRecDepth 20000 in
theorem gX7_colour_X7_isColour : GoodIn wsX7_colour (va_wsS RX7 144 yX7_isColour wsX7_isColour) := goodIn_app (goodIn_of _ (by decide +kernel)) ggX7_colour_X7_isColour
set_option maxRecDepth 20000 in
theorem ggX7_colour_X0_stonesOf : GoodIn wsX7_colour wsX0_stonesOf := goodIn_r _ [14, 15, 16, 91, 92, 93, 94, 95, 96, 97, 98, 99, 100, 101] (by decide +kernel) (by decide +kernel)
set_option maxRecDepth 20000 in
theorem gX7_colour_X0_stonesOf : GoodIn wsX7_colour (wsV RX7 152 RX0 yX0_stonesOf wsX0_stonesOf) := goodIn_app (goodIn_of _ (by decide +kernel)) ggX7_colour_X0_stonesOf
set_option maxRecDepth 20000 in
theorem ggX7_colour_J13_bitCount_95d88 : GoodIn wsX7_colour wsJ13_bitCount_95d88 := goodIn_r _ [20, 21, 22, 23] (by decide +kernel) (by decide +kernel)
set_option maxRecDepth 20000 in
theorem gX7_colour_J13_bitCount_95d88 : GoodIn wsX7_colour (va_wsS RX7 156 yJ13_bitCount_95d88 wsJ13_bitCount_95d88) := goodIn_app (goodIn_of _ (by decide +kernel)) ggX7_colour_J13_bitCount_95d88
set_option maxRecDepth 20000 in
theorem ggX7_colour_X0_captivesOf : GoodIn wsX7_colour wsX0_captivesOf := goodIn_r _ [27, 28, 29, 91, 92, 93, 94, 95, 96, 97, 98, 99, 100, 101] (by decide +kernel) (by decide +kernel)
set_option maxRecDepth 20000 in
theorem gX7_colour_X0_captivesOf : GoodIn wsX7_colour (wsV RX7 162 RX0 yX0_captivesOf wsX0_captivesOf) := goodIn_app (goodIn_of _ (by decide +kernel)) ggX7_colour_X0_captivesOf
set_option maxRecDepth 20000 in
theorem ggX7_colour_X0_areaOf : GoodIn wsX7_colour wsX0_areaOf := goodIn_r _ [33, 34, 35, 11, 12, 13, 14, 15, 16, 36, 18, 19, 20, 21, 22, 23, 37, 38, 39, 40, 41, 42, 43, 44, 45, 46, 47, 48, 49, 50, 51, 52, 53, 54, 91, 92, 93, 94, 95, 96, 97, 98, 99, 100, 101, 102, 103, 104, 105, 106] (by decide +kernel) (by decide +kernel)
