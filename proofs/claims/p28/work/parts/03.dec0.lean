theorem dX0_init_0 : decode cX0_init 0 = .ok (.aload_n 0, 1) := by decide +kernel
theorem dX0_init_1 : decode cX0_init 1 = .ok (.invokespecial 3, 3) := by decide +kernel
theorem dX0_init_4 : decode cX0_init 4 = .ok (.aload_n 0, 1) := by decide +kernel
theorem dX0_init_5 : decode cX0_init 5 = .ok (.bipush 121, 2) := by decide +kernel
theorem dX0_init_7 : decode cX0_init 7 = .ok (.newarray .long, 2) := by decide +kernel
theorem dX0_init_9 : decode cX0_init 9 = .ok (.putfield 9, 3) := by decide +kernel
theorem dX0_init_12 : decode cX0_init 12 = .ok (.aload_n 0, 1) := by decide +kernel
theorem dX0_init_13 : decode cX0_init 13 = .ok (.bipush 121, 2) := by decide +kernel
theorem dX0_init_15 : decode cX0_init 15 = .ok (.newarray .long, 2) := by decide +kernel
theorem dX0_init_17 : decode cX0_init 17 = .ok (.putfield 15, 3) := by decide +kernel
theorem dX0_init_20 : decode cX0_init 20 = .ok (.aload_n 0, 1) := by decide +kernel
theorem dX0_init_21 : decode cX0_init 21 = .ok (.aload_n 1, 1) := by decide +kernel
theorem dX0_init_22 : decode cX0_init 22 = .ok (.putfield 18, 3) := by decide +kernel
theorem dX0_init_25 : decode cX0_init 25 = .ok (.return_, 1) := by decide +kernel
theorem dX0_layOut_0 : decode cX0_layOut 0 = .ok (.aload_n 0, 1) := by decide +kernel
theorem dX0_layOut_1 : decode cX0_layOut 1 = .ok (.new 22, 3) := by decide +kernel
theorem dX0_layOut_4 : decode cX0_layOut 4 = .ok (.dup, 1) := by decide +kernel
theorem dX0_layOut_5 : decode cX0_layOut 5 = .ok (.iload_n 1, 1) := by decide +kernel
theorem dX0_layOut_6 : decode cX0_layOut 6 = .ok (.invokespecial 24, 3) := by decide +kernel
theorem dX0_layOut_9 : decode cX0_layOut 9 = .ok (.putfield 18, 3) := by decide +kernel
theorem dX0_layOut_12 : decode cX0_layOut 12 = .ok (.aload_n 0, 1) := by decide +kernel
theorem dX0_layOut_13 : decode cX0_layOut 13 = .ok (.iconst 0, 1) := by decide +kernel
theorem dX0_layOut_14 : decode cX0_layOut 14 = .ok (.putfield 27, 3) := by decide +kernel
theorem dX0_layOut_17 : decode cX0_layOut 17 = .ok (.aload_n 0, 1) := by decide +kernel
theorem dX0_layOut_18 : decode cX0_layOut 18 = .ok (.iconst 0, 1) := by decide +kernel
theorem dX0_layOut_19 : decode cX0_layOut 19 = .ok (.putfield 31, 3) := by decide +kernel
theorem dX0_layOut_22 : decode cX0_layOut 22 = .ok (.aload_n 0, 1) := by decide +kernel
theorem dX0_layOut_23 : decode cX0_layOut 23 = .ok (.iconst 0, 1) := by decide +kernel
theorem dX0_layOut_24 : decode cX0_layOut 24 = .ok (.putfield 34, 3) := by decide +kernel
theorem dX0_layOut_27 : decode cX0_layOut 27 = .ok (.aload_n 0, 1) := by decide +kernel
theorem dX0_layOut_28 : decode cX0_layOut 28 = .ok (.lconst 0, 1) := by decide +kernel
theorem dX0_layOut_29 : decode cX0_layOut 29 = .ok (.putfield 37, 3) := by decide +kernel
theorem dX0_layOut_32 : decode cX0_layOut 32 = .ok (.aload_n 0, 1) := by decide +kernel
theorem dX0_layOut_33 : decode cX0_layOut 33 = .ok (.lconst 0, 1) := by decide +kernel
theorem dX0_layOut_34 : decode cX0_layOut 34 = .ok (.putfield 41, 3) := by decide +kernel
theorem dX0_layOut_37 : decode cX0_layOut 37 = .ok (.aload_n 0, 1) := by decide +kernel
theorem dX0_layOut_38 : decode cX0_layOut 38 = .ok (.iconst 0, 1) := by decide +kernel
theorem dX0_layOut_39 : decode cX0_layOut 39 = .ok (.putfield 44, 3) := by decide +kernel
theorem dX0_layOut_42 : decode cX0_layOut 42 = .ok (.aload_n 0, 1) := by decide +kernel
theorem dX0_layOut_43 : decode cX0_layOut 43 = .ok (.iconst 0, 1) := by decide +kernel
theorem dX0_layOut_44 : decode cX0_layOut 44 = .ok (.putfield 47, 3) := by decide +kernel
theorem dX0_layOut_47 : decode cX0_layOut 47 = .ok (.aload_n 0, 1) := by decide +kernel
theorem dX0_layOut_48 : decode cX0_layOut 48 = .ok (.invokevirtual 50, 3) := by decide +kernel
theorem dX0_layOut_51 : decode cX0_layOut 51 = .ok (.return_, 1) := by decide +kernel
theorem dX0_copyFrom_0 : decode cX0_copyFrom 0 = .ok (.aload_n 0, 1) := by decide +kernel
theorem dX0_copyFrom_1 : decode cX0_copyFrom 1 = .ok (.aload_n 1, 1) := by decide +kernel
theorem dX0_copyFrom_2 : decode cX0_copyFrom 2 = .ok (.getfield 18, 3) := by decide +kernel
theorem dX0_copyFrom_5 : decode cX0_copyFrom 5 = .ok (.putfield 18, 3) := by decide +kernel
theorem dX0_copyFrom_8 : decode cX0_copyFrom 8 = .ok (.aload_n 0, 1) := by decide +kernel
theorem dX0_copyFrom_9 : decode cX0_copyFrom 9 = .ok (.aload_n 1, 1) := by decide +kernel
theorem dX0_copyFrom_10 : decode cX0_copyFrom 10 = .ok (.getfield 53, 3) := by decide +kernel
theorem dX0_copyFrom_13 : decode cX0_copyFrom 13 = .ok (.putfield 53, 3) := by decide +kernel
theorem dX0_copyFrom_16 : decode cX0_copyFrom 16 = .ok (.aload_n 0, 1) := by decide +kernel
theorem dX0_copyFrom_17 : decode cX0_copyFrom 17 = .ok (.aload_n 1, 1) := by decide +kernel
theorem dX0_copyFrom_18 : decode cX0_copyFrom 18 = .ok (.getfield 27, 3) := by decide +kernel
theorem dX0_copyFrom_21 : decode cX0_copyFrom 21 = .ok (.putfield 27, 3) := by decide +kernel
theorem dX0_copyFrom_24 : decode cX0_copyFrom 24 = .ok (.aload_n 0, 1) := by decide +kernel
theorem dX0_copyFrom_25 : decode cX0_copyFrom 25 = .ok (.aload_n 1, 1) := by decide +kernel
theorem dX0_copyFrom_26 : decode cX0_copyFrom 26 = .ok (.getfield 31, 3) := by decide +kernel
theorem dX0_copyFrom_29 : decode cX0_copyFrom 29 = .ok (.putfield 31, 3) := by decide +kernel
theorem dX0_copyFrom_32 : decode cX0_copyFrom 32 = .ok (.aload_n 0, 1) := by decide +kernel
theorem dX0_copyFrom_33 : decode cX0_copyFrom 33 = .ok (.aload_n 1, 1) := by decide +kernel
theorem dX0_copyFrom_34 : decode cX0_copyFrom 34 = .ok (.getfield 34, 3) := by decide +kernel
theorem dX0_copyFrom_37 : decode cX0_copyFrom 37 = .ok (.putfield 34, 3) := by decide +kernel
theorem dX0_copyFrom_40 : decode cX0_copyFrom 40 = .ok (.aload_n 0, 1) := by decide +kernel
theorem dX0_copyFrom_41 : decode cX0_copyFrom 41 = .ok (.aload_n 1, 1) := by decide +kernel
theorem dX0_copyFrom_42 : decode cX0_copyFrom 42 = .ok (.getfield 37, 3) := by decide +kernel
theorem dX0_copyFrom_45 : decode cX0_copyFrom 45 = .ok (.putfield 37, 3) := by decide +kernel
theorem dX0_copyFrom_48 : decode cX0_copyFrom 48 = .ok (.aload_n 0, 1) := by decide +kernel
theorem dX0_copyFrom_49 : decode cX0_copyFrom 49 = .ok (.aload_n 1, 1) := by decide +kernel
theorem dX0_copyFrom_50 : decode cX0_copyFrom 50 = .ok (.getfield 41, 3) := by decide +kernel
theorem dX0_copyFrom_53 : decode cX0_copyFrom 53 = .ok (.putfield 41, 3) := by decide +kernel
theorem dX0_copyFrom_56 : decode cX0_copyFrom 56 = .ok (.aload_n 0, 1) := by decide +kernel
theorem dX0_copyFrom_57 : decode cX0_copyFrom 57 = .ok (.aload_n 1, 1) := by decide +kernel
theorem dX0_copyFrom_58 : decode cX0_copyFrom 58 = .ok (.getfield 44, 3) := by decide +kernel
theorem dX0_copyFrom_61 : decode cX0_copyFrom 61 = .ok (.putfield 44, 3) := by decide +kernel
theorem dX0_copyFrom_64 : decode cX0_copyFrom 64 = .ok (.aload_n 0, 1) := by decide +kernel
theorem dX0_copyFrom_65 : decode cX0_copyFrom 65 = .ok (.aload_n 1, 1) := by decide +kernel
theorem dX0_copyFrom_66 : decode cX0_copyFrom 66 = .ok (.getfield 47, 3) := by decide +kernel
theorem dX0_copyFrom_69 : decode cX0_copyFrom 69 = .ok (.putfield 47, 3) := by decide +kernel
theorem dX0_copyFrom_72 : decode cX0_copyFrom 72 = .ok (.iconst 0, 1) := by decide +kernel
theorem dX0_copyFrom_73 : decode cX0_copyFrom 73 = .ok (.istore_n 2, 1) := by decide +kernel
theorem dX0_copyFrom_74 : decode cX0_copyFrom 74 = .ok (.iload_n 2, 1) := by decide +kernel
theorem dX0_copyFrom_75 : decode cX0_copyFrom 75 = .ok (.aload_n 0, 1) := by decide +kernel
theorem dX0_copyFrom_76 : decode cX0_copyFrom 76 = .ok (.getfield 27, 3) := by decide +kernel
theorem dX0_copyFrom_79 : decode cX0_copyFrom 79 = .ok (.if_icmp .gt 39, 3) := by decide +kernel
theorem dX0_copyFrom_82 : decode cX0_copyFrom 82 = .ok (.iload_n 2, 1) := by decide +kernel
theorem dX0_copyFrom_83 : decode cX0_copyFrom 83 = .ok (.aload_n 0, 1) := by decide +kernel
theorem dX0_copyFrom_84 : decode cX0_copyFrom 84 = .ok (.getfield 9, 3) := by decide +kernel
theorem dX0_copyFrom_87 : decode cX0_copyFrom 87 = .ok (.arraylength, 1) := by decide +kernel
theorem dX0_copyFrom_88 : decode cX0_copyFrom 88 = .ok (.if_icmp .ge 30, 3) := by decide +kernel
theorem dX0_copyFrom_91 : decode cX0_copyFrom 91 = .ok (.iload_n 2, 1) := by decide +kernel
theorem dX0_copyFrom_92 : decode cX0_copyFrom 92 = .ok (.aload_n 1, 1) := by decide +kernel
theorem dX0_copyFrom_93 : decode cX0_copyFrom 93 = .ok (.getfield 9, 3) := by decide +kernel
theorem dX0_copyFrom_96 : decode cX0_copyFrom 96 = .ok (.arraylength, 1) := by decide +kernel
theorem dX0_copyFrom_97 : decode cX0_copyFrom 97 = .ok (.if_icmp .ge 21, 3) := by decide +kernel
theorem dX0_copyFrom_100 : decode cX0_copyFrom 100 = .ok (.aload_n 0, 1) := by decide +kernel
theorem dX0_copyFrom_101 : decode cX0_copyFrom 101 = .ok (.getfield 9, 3) := by decide +kernel
theorem dX0_copyFrom_104 : decode cX0_copyFrom 104 = .ok (.iload_n 2, 1) := by decide +kernel
theorem dX0_copyFrom_105 : decode cX0_copyFrom 105 = .ok (.aload_n 1, 1) := by decide +kernel
theorem dX0_copyFrom_106 : decode cX0_copyFrom 106 = .ok (.getfield 9, 3) := by decide +kernel
theorem dX0_copyFrom_109 : decode cX0_copyFrom 109 = .ok (.iload_n 2, 1) := by decide +kernel
theorem dX0_copyFrom_110 : decode cX0_copyFrom 110 = .ok (.laload, 1) := by decide +kernel
theorem dX0_copyFrom_111 : decode cX0_copyFrom 111 = .ok (.lastore, 1) := by decide +kernel
theorem dX0_copyFrom_112 : decode cX0_copyFrom 112 = .ok (.iinc 2 1, 3) := by decide +kernel
theorem dX0_copyFrom_115 : decode cX0_copyFrom 115 = .ok (.goto (-41), 3) := by decide +kernel
theorem dX0_copyFrom_118 : decode cX0_copyFrom 118 = .ok (.iconst 0, 1) := by decide +kernel
theorem dX0_copyFrom_119 : decode cX0_copyFrom 119 = .ok (.istore_n 2, 1) := by decide +kernel
theorem dX0_copyFrom_120 : decode cX0_copyFrom 120 = .ok (.iload_n 2, 1) := by decide +kernel
theorem dX0_copyFrom_121 : decode cX0_copyFrom 121 = .ok (.aload_n 0, 1) := by decide +kernel
theorem dX0_copyFrom_122 : decode cX0_copyFrom 122 = .ok (.getfield 27, 3) := by decide +kernel
theorem dX0_copyFrom_125 : decode cX0_copyFrom 125 = .ok (.if_icmp .gt 39, 3) := by decide +kernel
theorem dX0_copyFrom_128 : decode cX0_copyFrom 128 = .ok (.iload_n 2, 1) := by decide +kernel
theorem dX0_copyFrom_129 : decode cX0_copyFrom 129 = .ok (.aload_n 0, 1) := by decide +kernel
theorem dX0_copyFrom_130 : decode cX0_copyFrom 130 = .ok (.getfield 15, 3) := by decide +kernel
theorem dX0_copyFrom_133 : decode cX0_copyFrom 133 = .ok (.arraylength, 1) := by decide +kernel
theorem dX0_copyFrom_134 : decode cX0_copyFrom 134 = .ok (.if_icmp .ge 30, 3) := by decide +kernel
theorem dX0_copyFrom_137 : decode cX0_copyFrom 137 = .ok (.iload_n 2, 1) := by decide +kernel
theorem dX0_copyFrom_138 : decode cX0_copyFrom 138 = .ok (.aload_n 1, 1) := by decide +kernel
theorem dX0_copyFrom_139 : decode cX0_copyFrom 139 = .ok (.getfield 15, 3) := by decide +kernel
theorem dX0_copyFrom_142 : decode cX0_copyFrom 142 = .ok (.arraylength, 1) := by decide +kernel
theorem dX0_copyFrom_143 : decode cX0_copyFrom 143 = .ok (.if_icmp .ge 21, 3) := by decide +kernel
theorem dX0_copyFrom_146 : decode cX0_copyFrom 146 = .ok (.aload_n 0, 1) := by decide +kernel
theorem dX0_copyFrom_147 : decode cX0_copyFrom 147 = .ok (.getfield 15, 3) := by decide +kernel
theorem dX0_copyFrom_150 : decode cX0_copyFrom 150 = .ok (.iload_n 2, 1) := by decide +kernel
theorem dX0_copyFrom_151 : decode cX0_copyFrom 151 = .ok (.aload_n 1, 1) := by decide +kernel
theorem dX0_copyFrom_152 : decode cX0_copyFrom 152 = .ok (.getfield 15, 3) := by decide +kernel
theorem dX0_copyFrom_155 : decode cX0_copyFrom 155 = .ok (.iload_n 2, 1) := by decide +kernel
theorem dX0_copyFrom_156 : decode cX0_copyFrom 156 = .ok (.laload, 1) := by decide +kernel
theorem dX0_copyFrom_157 : decode cX0_copyFrom 157 = .ok (.lastore, 1) := by decide +kernel
theorem dX0_copyFrom_158 : decode cX0_copyFrom 158 = .ok (.iinc 2 1, 3) := by decide +kernel
theorem dX0_copyFrom_161 : decode cX0_copyFrom 161 = .ok (.goto (-41), 3) := by decide +kernel
theorem dX0_copyFrom_164 : decode cX0_copyFrom 164 = .ok (.return_, 1) := by decide +kernel
theorem dX0_keepPosition_0 : decode cX0_keepPosition 0 = .ok (.aload_n 0, 1) := by decide +kernel
theorem dX0_keepPosition_1 : decode cX0_keepPosition 1 = .ok (.getfield 27, 3) := by decide +kernel
theorem dX0_keepPosition_4 : decode cX0_keepPosition 4 = .ok (.ifCond .lt 53, 3) := by decide +kernel
theorem dX0_keepPosition_7 : decode cX0_keepPosition 7 = .ok (.aload_n 0, 1) := by decide +kernel
theorem dX0_keepPosition_8 : decode cX0_keepPosition 8 = .ok (.getfield 27, 3) := by decide +kernel
theorem dX0_keepPosition_11 : decode cX0_keepPosition 11 = .ok (.aload_n 0, 1) := by decide +kernel
theorem dX0_keepPosition_12 : decode cX0_keepPosition 12 = .ok (.getfield 9, 3) := by decide +kernel
theorem dX0_keepPosition_15 : decode cX0_keepPosition 15 = .ok (.arraylength, 1) := by decide +kernel
theorem dX0_keepPosition_16 : decode cX0_keepPosition 16 = .ok (.if_icmp .ge 41, 3) := by decide +kernel
theorem dX0_keepPosition_19 : decode cX0_keepPosition 19 = .ok (.aload_n 0, 1) := by decide +kernel
theorem dX0_keepPosition_20 : decode cX0_keepPosition 20 = .ok (.getfield 27, 3) := by decide +kernel
theorem dX0_keepPosition_23 : decode cX0_keepPosition 23 = .ok (.aload_n 0, 1) := by decide +kernel
theorem dX0_keepPosition_24 : decode cX0_keepPosition 24 = .ok (.getfield 15, 3) := by decide +kernel
theorem dX0_keepPosition_27 : decode cX0_keepPosition 27 = .ok (.arraylength, 1) := by decide +kernel
theorem dX0_keepPosition_28 : decode cX0_keepPosition 28 = .ok (.if_icmp .ge 29, 3) := by decide +kernel
theorem dX0_keepPosition_31 : decode cX0_keepPosition 31 = .ok (.aload_n 0, 1) := by decide +kernel
theorem dX0_keepPosition_32 : decode cX0_keepPosition 32 = .ok (.getfield 9, 3) := by decide +kernel
theorem dX0_keepPosition_35 : decode cX0_keepPosition 35 = .ok (.aload_n 0, 1) := by decide +kernel
theorem dX0_keepPosition_36 : decode cX0_keepPosition 36 = .ok (.getfield 27, 3) := by decide +kernel
theorem dX0_keepPosition_39 : decode cX0_keepPosition 39 = .ok (.aload_n 0, 1) := by decide +kernel
theorem dX0_keepPosition_40 : decode cX0_keepPosition 40 = .ok (.getfield 37, 3) := by decide +kernel
theorem dX0_keepPosition_43 : decode cX0_keepPosition 43 = .ok (.lastore, 1) := by decide +kernel
theorem dX0_keepPosition_44 : decode cX0_keepPosition 44 = .ok (.aload_n 0, 1) := by decide +kernel
theorem dX0_keepPosition_45 : decode cX0_keepPosition 45 = .ok (.getfield 15, 3) := by decide +kernel
theorem dX0_keepPosition_48 : decode cX0_keepPosition 48 = .ok (.aload_n 0, 1) := by decide +kernel
theorem dX0_keepPosition_49 : decode cX0_keepPosition 49 = .ok (.getfield 27, 3) := by decide +kernel
theorem dX0_keepPosition_52 : decode cX0_keepPosition 52 = .ok (.aload_n 0, 1) := by decide +kernel
theorem dX0_keepPosition_53 : decode cX0_keepPosition 53 = .ok (.getfield 41, 3) := by decide +kernel
theorem dX0_keepPosition_56 : decode cX0_keepPosition 56 = .ok (.lastore, 1) := by decide +kernel
theorem dX0_keepPosition_57 : decode cX0_keepPosition 57 = .ok (.return_, 1) := by decide +kernel
theorem dX0_turn_0 : decode cX0_turn 0 = .ok (.aload_n 0, 1) := by decide +kernel
theorem dX0_turn_1 : decode cX0_turn 1 = .ok (.getfield 27, 3) := by decide +kernel
theorem dX0_turn_4 : decode cX0_turn 4 = .ok (.iconst 1, 1) := by decide +kernel
theorem dX0_turn_5 : decode cX0_turn 5 = .ok (.iand, 1) := by decide +kernel
theorem dX0_turn_6 : decode cX0_turn 6 = .ok (.ireturn, 1) := by decide +kernel
theorem dX0_stonesOf_0 : decode cX0_stonesOf 0 = .ok (.iload_n 1, 1) := by decide +kernel
theorem dX0_stonesOf_1 : decode cX0_stonesOf 1 = .ok (.ifCond .ne 10, 3) := by decide +kernel
theorem dX0_stonesOf_4 : decode cX0_stonesOf 4 = .ok (.aload_n 0, 1) := by decide +kernel
theorem dX0_stonesOf_5 : decode cX0_stonesOf 5 = .ok (.getfield 37, 3) := by decide +kernel
theorem dX0_stonesOf_8 : decode cX0_stonesOf 8 = .ok (.goto 7, 3) := by decide +kernel
theorem dX0_stonesOf_11 : decode cX0_stonesOf 11 = .ok (.aload_n 0, 1) := by decide +kernel
theorem dX0_stonesOf_12 : decode cX0_stonesOf 12 = .ok (.getfield 41, 3) := by decide +kernel
theorem dX0_stonesOf_15 : decode cX0_stonesOf 15 = .ok (.lreturn, 1) := by decide +kernel
theorem dX0_captivesOf_0 : decode cX0_captivesOf 0 = .ok (.iload_n 1, 1) := by decide +kernel
theorem dX0_captivesOf_1 : decode cX0_captivesOf 1 = .ok (.ifCond .ne 10, 3) := by decide +kernel
theorem dX0_captivesOf_4 : decode cX0_captivesOf 4 = .ok (.aload_n 0, 1) := by decide +kernel
theorem dX0_captivesOf_5 : decode cX0_captivesOf 5 = .ok (.getfield 44, 3) := by decide +kernel
theorem dX0_captivesOf_8 : decode cX0_captivesOf 8 = .ok (.goto 7, 3) := by decide +kernel
theorem dX0_captivesOf_11 : decode cX0_captivesOf 11 = .ok (.aload_n 0, 1) := by decide +kernel
theorem dX0_captivesOf_12 : decode cX0_captivesOf 12 = .ok (.getfield 47, 3) := by decide +kernel
theorem dX0_captivesOf_15 : decode cX0_captivesOf 15 = .ok (.ireturn, 1) := by decide +kernel
theorem dX0_groupsOf_0 : decode cX0_groupsOf 0 = .ok (.aload_n 0, 1) := by decide +kernel
theorem dX0_groupsOf_1 : decode cX0_groupsOf 1 = .ok (.getfield 18, 3) := by decide +kernel
theorem dX0_groupsOf_4 : decode cX0_groupsOf 4 = .ok (.aload_n 0, 1) := by decide +kernel
theorem dX0_groupsOf_5 : decode cX0_groupsOf 5 = .ok (.iload_n 1, 1) := by decide +kernel
theorem dX0_groupsOf_6 : decode cX0_groupsOf 6 = .ok (.invokevirtual 56, 3) := by decide +kernel
theorem dX0_groupsOf_9 : decode cX0_groupsOf 9 = .ok (.invokevirtual 60, 3) := by decide +kernel
theorem dX0_groupsOf_12 : decode cX0_groupsOf 12 = .ok (.ireturn, 1) := by decide +kernel
theorem dX0_groupsWithOneLiberty_0 : decode cX0_groupsWithOneLiberty 0 = .ok (.aload_n 0, 1) := by decide +kernel
theorem dX0_groupsWithOneLiberty_1 : decode cX0_groupsWithOneLiberty 1 = .ok (.getfield 18, 3) := by decide +kernel
theorem dX0_groupsWithOneLiberty_4 : decode cX0_groupsWithOneLiberty 4 = .ok (.aload_n 0, 1) := by decide +kernel
theorem dX0_groupsWithOneLiberty_5 : decode cX0_groupsWithOneLiberty 5 = .ok (.getfield 37, 3) := by decide +kernel
theorem dX0_groupsWithOneLiberty_8 : decode cX0_groupsWithOneLiberty 8 = .ok (.aload_n 0, 1) := by decide +kernel
theorem dX0_groupsWithOneLiberty_9 : decode cX0_groupsWithOneLiberty 9 = .ok (.getfield 41, 3) := by decide +kernel
theorem dX0_groupsWithOneLiberty_12 : decode cX0_groupsWithOneLiberty 12 = .ok (.invokevirtual 64, 3) := by decide +kernel
theorem dX0_groupsWithOneLiberty_15 : decode cX0_groupsWithOneLiberty 15 = .ok (.aload_n 0, 1) := by decide +kernel
theorem dX0_groupsWithOneLiberty_16 : decode cX0_groupsWithOneLiberty 16 = .ok (.getfield 18, 3) := by decide +kernel
theorem dX0_groupsWithOneLiberty_19 : decode cX0_groupsWithOneLiberty 19 = .ok (.aload_n 0, 1) := by decide +kernel
theorem dX0_groupsWithOneLiberty_20 : decode cX0_groupsWithOneLiberty 20 = .ok (.getfield 41, 3) := by decide +kernel
theorem dX0_groupsWithOneLiberty_23 : decode cX0_groupsWithOneLiberty 23 = .ok (.aload_n 0, 1) := by decide +kernel
theorem dX0_groupsWithOneLiberty_24 : decode cX0_groupsWithOneLiberty 24 = .ok (.getfield 37, 3) := by decide +kernel
theorem dX0_groupsWithOneLiberty_27 : decode cX0_groupsWithOneLiberty 27 = .ok (.invokevirtual 64, 3) := by decide +kernel
theorem dX0_groupsWithOneLiberty_30 : decode cX0_groupsWithOneLiberty 30 = .ok (.iadd, 1) := by decide +kernel
theorem dX0_groupsWithOneLiberty_31 : decode cX0_groupsWithOneLiberty 31 = .ok (.ireturn, 1) := by decide +kernel
theorem dX0_areaOf_0 : decode cX0_areaOf 0 = .ok (.aload_n 0, 1) := by decide +kernel
theorem dX0_areaOf_1 : decode cX0_areaOf 1 = .ok (.iload_n 1, 1) := by decide +kernel
theorem dX0_areaOf_2 : decode cX0_areaOf 2 = .ok (.invokevirtual 56, 3) := by decide +kernel
theorem dX0_areaOf_5 : decode cX0_areaOf 5 = .ok (.invokestatic 68, 3) := by decide +kernel
theorem dX0_areaOf_8 : decode cX0_areaOf 8 = .ok (.aload_n 0, 1) := by decide +kernel
theorem dX0_areaOf_9 : decode cX0_areaOf 9 = .ok (.getfield 18, 3) := by decide +kernel
theorem dX0_areaOf_12 : decode cX0_areaOf 12 = .ok (.aload_n 0, 1) := by decide +kernel
theorem dX0_areaOf_13 : decode cX0_areaOf 13 = .ok (.iload_n 1, 1) := by decide +kernel
theorem dX0_areaOf_14 : decode cX0_areaOf 14 = .ok (.invokevirtual 56, 3) := by decide +kernel
theorem dX0_areaOf_17 : decode cX0_areaOf 17 = .ok (.aload_n 0, 1) := by decide +kernel
theorem dX0_areaOf_18 : decode cX0_areaOf 18 = .ok (.iconst 1, 1) := by decide +kernel
theorem dX0_areaOf_19 : decode cX0_areaOf 19 = .ok (.iload_n 1, 1) := by decide +kernel
theorem dX0_areaOf_20 : decode cX0_areaOf 20 = .ok (.isub, 1) := by decide +kernel
theorem dX0_areaOf_21 : decode cX0_areaOf 21 = .ok (.invokevirtual 56, 3) := by decide +kernel
theorem dX0_areaOf_24 : decode cX0_areaOf 24 = .ok (.invokevirtual 73, 3) := by decide +kernel
theorem dX0_areaOf_27 : decode cX0_areaOf 27 = .ok (.invokestatic 68, 3) := by decide +kernel
theorem dX0_areaOf_30 : decode cX0_areaOf 30 = .ok (.iadd, 1) := by decide +kernel
theorem dX0_areaOf_31 : decode cX0_areaOf 31 = .ok (.ireturn, 1) := by decide +kernel
theorem dX0_falseEyes_0 : decode cX0_falseEyes 0 = .ok (.aload_n 0, 1) := by decide +kernel
theorem dX0_falseEyes_1 : decode cX0_falseEyes 1 = .ok (.getfield 18, 3) := by decide +kernel
theorem dX0_falseEyes_4 : decode cX0_falseEyes 4 = .ok (.aload_n 0, 1) := by decide +kernel
theorem dX0_falseEyes_5 : decode cX0_falseEyes 5 = .ok (.getfield 18, 3) := by decide +kernel
theorem dX0_falseEyes_8 : decode cX0_falseEyes 8 = .ok (.aload_n 0, 1) := by decide +kernel
theorem dX0_falseEyes_9 : decode cX0_falseEyes 9 = .ok (.iload_n 1, 1) := by decide +kernel
theorem dX0_falseEyes_10 : decode cX0_falseEyes 10 = .ok (.invokevirtual 56, 3) := by decide +kernel
theorem dX0_falseEyes_13 : decode cX0_falseEyes 13 = .ok (.aload_n 0, 1) := by decide +kernel
theorem dX0_falseEyes_14 : decode cX0_falseEyes 14 = .ok (.iconst 1, 1) := by decide +kernel
theorem dX0_falseEyes_15 : decode cX0_falseEyes 15 = .ok (.iload_n 1, 1) := by decide +kernel
theorem dX0_falseEyes_16 : decode cX0_falseEyes 16 = .ok (.isub, 1) := by decide +kernel
theorem dX0_falseEyes_17 : decode cX0_falseEyes 17 = .ok (.invokevirtual 56, 3) := by decide +kernel
theorem dX0_falseEyes_20 : decode cX0_falseEyes 20 = .ok (.invokevirtual 77, 3) := by decide +kernel
theorem dX0_falseEyes_23 : decode cX0_falseEyes 23 = .ok (.aload_n 0, 1) := by decide +kernel
theorem dX0_falseEyes_24 : decode cX0_falseEyes 24 = .ok (.iconst 1, 1) := by decide +kernel
theorem dX0_falseEyes_25 : decode cX0_falseEyes 25 = .ok (.iload_n 1, 1) := by decide +kernel
theorem dX0_falseEyes_26 : decode cX0_falseEyes 26 = .ok (.isub, 1) := by decide +kernel
theorem dX0_falseEyes_27 : decode cX0_falseEyes 27 = .ok (.invokevirtual 56, 3) := by decide +kernel
theorem dX0_falseEyes_30 : decode cX0_falseEyes 30 = .ok (.invokevirtual 80, 3) := by decide +kernel
theorem dX0_falseEyes_33 : decode cX0_falseEyes 33 = .ok (.lreturn, 1) := by decide +kernel
theorem dX0_trueEyes_0 : decode cX0_trueEyes 0 = .ok (.aload_n 0, 1) := by decide +kernel
theorem dX0_trueEyes_1 : decode cX0_trueEyes 1 = .ok (.getfield 18, 3) := by decide +kernel
theorem dX0_trueEyes_4 : decode cX0_trueEyes 4 = .ok (.aload_n 0, 1) := by decide +kernel
theorem dX0_trueEyes_5 : decode cX0_trueEyes 5 = .ok (.iload_n 1, 1) := by decide +kernel
theorem dX0_trueEyes_6 : decode cX0_trueEyes 6 = .ok (.invokevirtual 56, 3) := by decide +kernel
theorem dX0_trueEyes_9 : decode cX0_trueEyes 9 = .ok (.aload_n 0, 1) := by decide +kernel
theorem dX0_trueEyes_10 : decode cX0_trueEyes 10 = .ok (.iconst 1, 1) := by decide +kernel
theorem dX0_trueEyes_11 : decode cX0_trueEyes 11 = .ok (.iload_n 1, 1) := by decide +kernel
theorem dX0_trueEyes_12 : decode cX0_trueEyes 12 = .ok (.isub, 1) := by decide +kernel
theorem dX0_trueEyes_13 : decode cX0_trueEyes 13 = .ok (.invokevirtual 56, 3) := by decide +kernel
theorem dX0_trueEyes_16 : decode cX0_trueEyes 16 = .ok (.invokevirtual 77, 3) := by decide +kernel
theorem dX0_trueEyes_19 : decode cX0_trueEyes 19 = .ok (.lstore_n 2, 1) := by decide +kernel
theorem dX0_trueEyes_20 : decode cX0_trueEyes 20 = .ok (.lload_n 2, 1) := by decide +kernel
theorem dX0_trueEyes_21 : decode cX0_trueEyes 21 = .ok (.aload_n 0, 1) := by decide +kernel
theorem dX0_trueEyes_22 : decode cX0_trueEyes 22 = .ok (.getfield 18, 3) := by decide +kernel
theorem dX0_trueEyes_25 : decode cX0_trueEyes 25 = .ok (.lload_n 2, 1) := by decide +kernel
theorem dX0_trueEyes_26 : decode cX0_trueEyes 26 = .ok (.aload_n 0, 1) := by decide +kernel
theorem dX0_trueEyes_27 : decode cX0_trueEyes 27 = .ok (.iconst 1, 1) := by decide +kernel
theorem dX0_trueEyes_28 : decode cX0_trueEyes 28 = .ok (.iload_n 1, 1) := by decide +kernel
theorem dX0_trueEyes_29 : decode cX0_trueEyes 29 = .ok (.isub, 1) := by decide +kernel
theorem dX0_trueEyes_30 : decode cX0_trueEyes 30 = .ok (.invokevirtual 56, 3) := by decide +kernel
theorem dX0_trueEyes_33 : decode cX0_trueEyes 33 = .ok (.invokevirtual 80, 3) := by decide +kernel
theorem dX0_trueEyes_36 : decode cX0_trueEyes 36 = .ok (.ldc2_w 83, 3) := by decide +kernel
theorem dX0_trueEyes_39 : decode cX0_trueEyes 39 = .ok (.lxor, 1) := by decide +kernel
theorem dX0_trueEyes_40 : decode cX0_trueEyes 40 = .ok (.land, 1) := by decide +kernel
theorem dX0_trueEyes_41 : decode cX0_trueEyes 41 = .ok (.lreturn, 1) := by decide +kernel
theorem dX0_colourAt_0 : decode cX0_colourAt 0 = .ok (.lconst 1, 1) := by decide +kernel
theorem dX0_colourAt_1 : decode cX0_colourAt 1 = .ok (.iload_n 1, 1) := by decide +kernel
theorem dX0_colourAt_2 : decode cX0_colourAt 2 = .ok (.lshl, 1) := by decide +kernel
theorem dX0_colourAt_3 : decode cX0_colourAt 3 = .ok (.lstore_n 2, 1) := by decide +kernel
theorem dX0_colourAt_4 : decode cX0_colourAt 4 = .ok (.aload_n 0, 1) := by decide +kernel
theorem dX0_colourAt_5 : decode cX0_colourAt 5 = .ok (.getfield 37, 3) := by decide +kernel
theorem dX0_colourAt_8 : decode cX0_colourAt 8 = .ok (.lload_n 2, 1) := by decide +kernel
theorem dX0_colourAt_9 : decode cX0_colourAt 9 = .ok (.land, 1) := by decide +kernel
theorem dX0_colourAt_10 : decode cX0_colourAt 10 = .ok (.lconst 0, 1) := by decide +kernel
theorem dX0_colourAt_11 : decode cX0_colourAt 11 = .ok (.lcmp, 1) := by decide +kernel
theorem dX0_colourAt_12 : decode cX0_colourAt 12 = .ok (.ifCond .eq 5, 3) := by decide +kernel
theorem dX0_colourAt_15 : decode cX0_colourAt 15 = .ok (.iconst 0, 1) := by decide +kernel
theorem dX0_colourAt_16 : decode cX0_colourAt 16 = .ok (.ireturn, 1) := by decide +kernel
theorem dX0_colourAt_17 : decode cX0_colourAt 17 = .ok (.aload_n 0, 1) := by decide +kernel
theorem dX0_colourAt_18 : decode cX0_colourAt 18 = .ok (.getfield 41, 3) := by decide +kernel
theorem dX0_colourAt_21 : decode cX0_colourAt 21 = .ok (.lload_n 2, 1) := by decide +kernel
theorem dX0_colourAt_22 : decode cX0_colourAt 22 = .ok (.land, 1) := by decide +kernel
theorem dX0_colourAt_23 : decode cX0_colourAt 23 = .ok (.lconst 0, 1) := by decide +kernel
theorem dX0_colourAt_24 : decode cX0_colourAt 24 = .ok (.lcmp, 1) := by decide +kernel
theorem dX0_colourAt_25 : decode cX0_colourAt 25 = .ok (.ifCond .eq 7, 3) := by decide +kernel
theorem dX0_colourAt_28 : decode cX0_colourAt 28 = .ok (.iconst 1, 1) := by decide +kernel
theorem dX0_colourAt_29 : decode cX0_colourAt 29 = .ok (.goto 4, 3) := by decide +kernel
theorem dX0_colourAt_32 : decode cX0_colourAt 32 = .ok (.iconst (-1), 1) := by decide +kernel
theorem dX0_colourAt_33 : decode cX0_colourAt 33 = .ok (.ireturn, 1) := by decide +kernel
theorem dX0_groupAt_0 : decode cX0_groupAt 0 = .ok (.aload_n 0, 1) := by decide +kernel
theorem dX0_groupAt_1 : decode cX0_groupAt 1 = .ok (.iload_n 1, 1) := by decide +kernel
theorem dX0_groupAt_2 : decode cX0_groupAt 2 = .ok (.invokevirtual 85, 3) := by decide +kernel
theorem dX0_groupAt_5 : decode cX0_groupAt 5 = .ok (.istore_n 2, 1) := by decide +kernel
theorem dX0_groupAt_6 : decode cX0_groupAt 6 = .ok (.iload_n 2, 1) := by decide +kernel
theorem dX0_groupAt_7 : decode cX0_groupAt 7 = .ok (.iconst (-1), 1) := by decide +kernel
theorem dX0_groupAt_8 : decode cX0_groupAt 8 = .ok (.if_icmp .ne 7, 3) := by decide +kernel
theorem dX0_groupAt_11 : decode cX0_groupAt 11 = .ok (.lconst 0, 1) := by decide +kernel
theorem dX0_groupAt_12 : decode cX0_groupAt 12 = .ok (.goto 18, 3) := by decide +kernel
theorem dX0_groupAt_15 : decode cX0_groupAt 15 = .ok (.aload_n 0, 1) := by decide +kernel
theorem dX0_groupAt_16 : decode cX0_groupAt 16 = .ok (.getfield 18, 3) := by decide +kernel
theorem dX0_groupAt_19 : decode cX0_groupAt 19 = .ok (.aload_n 0, 1) := by decide +kernel
theorem dX0_groupAt_20 : decode cX0_groupAt 20 = .ok (.iload_n 2, 1) := by decide +kernel
theorem dX0_groupAt_21 : decode cX0_groupAt 21 = .ok (.invokevirtual 56, 3) := by decide +kernel
theorem dX0_groupAt_24 : decode cX0_groupAt 24 = .ok (.lconst 1, 1) := by decide +kernel
theorem dX0_groupAt_25 : decode cX0_groupAt 25 = .ok (.iload_n 1, 1) := by decide +kernel
theorem dX0_groupAt_26 : decode cX0_groupAt 26 = .ok (.lshl, 1) := by decide +kernel
theorem dX0_groupAt_27 : decode cX0_groupAt 27 = .ok (.invokevirtual 89, 3) := by decide +kernel
theorem dX0_groupAt_30 : decode cX0_groupAt 30 = .ok (.lreturn, 1) := by decide +kernel
theorem dX0_libertiesAt_0 : decode cX0_libertiesAt 0 = .ok (.aload_n 0, 1) := by decide +kernel
theorem dX0_libertiesAt_1 : decode cX0_libertiesAt 1 = .ok (.iload_n 1, 1) := by decide +kernel
theorem dX0_libertiesAt_2 : decode cX0_libertiesAt 2 = .ok (.invokevirtual 85, 3) := by decide +kernel
theorem dX0_libertiesAt_5 : decode cX0_libertiesAt 5 = .ok (.istore_n 2, 1) := by decide +kernel
theorem dX0_libertiesAt_6 : decode cX0_libertiesAt 6 = .ok (.iload_n 2, 1) := by decide +kernel
theorem dX0_libertiesAt_7 : decode cX0_libertiesAt 7 = .ok (.iconst (-1), 1) := by decide +kernel
theorem dX0_libertiesAt_8 : decode cX0_libertiesAt 8 = .ok (.if_icmp .ne 7, 3) := by decide +kernel
theorem dX0_libertiesAt_11 : decode cX0_libertiesAt 11 = .ok (.lconst 0, 1) := by decide +kernel
theorem dX0_libertiesAt_12 : decode cX0_libertiesAt 12 = .ok (.goto 25, 3) := by decide +kernel
theorem dX0_libertiesAt_15 : decode cX0_libertiesAt 15 = .ok (.aload_n 0, 1) := by decide +kernel
theorem dX0_libertiesAt_16 : decode cX0_libertiesAt 16 = .ok (.getfield 18, 3) := by decide +kernel
theorem dX0_libertiesAt_19 : decode cX0_libertiesAt 19 = .ok (.aload_n 0, 1) := by decide +kernel
theorem dX0_libertiesAt_20 : decode cX0_libertiesAt 20 = .ok (.iload_n 2, 1) := by decide +kernel
theorem dX0_libertiesAt_21 : decode cX0_libertiesAt 21 = .ok (.invokevirtual 56, 3) := by decide +kernel
theorem dX0_libertiesAt_24 : decode cX0_libertiesAt 24 = .ok (.aload_n 0, 1) := by decide +kernel
theorem dX0_libertiesAt_25 : decode cX0_libertiesAt 25 = .ok (.iconst 1, 1) := by decide +kernel
theorem dX0_libertiesAt_26 : decode cX0_libertiesAt 26 = .ok (.iload_n 2, 1) := by decide +kernel
theorem dX0_libertiesAt_27 : decode cX0_libertiesAt 27 = .ok (.isub, 1) := by decide +kernel
theorem dX0_libertiesAt_28 : decode cX0_libertiesAt 28 = .ok (.invokevirtual 56, 3) := by decide +kernel
theorem dX0_libertiesAt_31 : decode cX0_libertiesAt 31 = .ok (.lconst 1, 1) := by decide +kernel
theorem dX0_libertiesAt_32 : decode cX0_libertiesAt 32 = .ok (.iload_n 1, 1) := by decide +kernel
theorem dX0_libertiesAt_33 : decode cX0_libertiesAt 33 = .ok (.lshl, 1) := by decide +kernel
theorem dX0_libertiesAt_34 : decode cX0_libertiesAt 34 = .ok (.invokevirtual 92, 3) := by decide +kernel
theorem dX0_libertiesAt_37 : decode cX0_libertiesAt 37 = .ok (.lreturn, 1) := by decide +kernel
theorem dX0_partAt_0 : decode cX0_partAt 0 = .ok (.aload_n 0, 1) := by decide +kernel
theorem dX0_partAt_1 : decode cX0_partAt 1 = .ok (.getfield 18, 3) := by decide +kernel
theorem dX0_partAt_4 : decode cX0_partAt 4 = .ok (.aload_n 0, 1) := by decide +kernel
theorem dX0_partAt_5 : decode cX0_partAt 5 = .ok (.getfield 18, 3) := by decide +kernel
theorem dX0_partAt_8 : decode cX0_partAt 8 = .ok (.getfield 96, 3) := by decide +kernel
theorem dX0_partAt_11 : decode cX0_partAt 11 = .ok (.aload_n 0, 1) := by decide +kernel
theorem dX0_partAt_12 : decode cX0_partAt 12 = .ok (.getfield 37, 3) := by decide +kernel
theorem dX0_partAt_15 : decode cX0_partAt 15 = .ok (.aload_n 0, 1) := by decide +kernel
theorem dX0_partAt_16 : decode cX0_partAt 16 = .ok (.getfield 41, 3) := by decide +kernel
theorem dX0_partAt_19 : decode cX0_partAt 19 = .ok (.lor, 1) := by decide +kernel
theorem dX0_partAt_20 : decode cX0_partAt 20 = .ok (.ldc2_w 83, 3) := by decide +kernel
theorem dX0_partAt_23 : decode cX0_partAt 23 = .ok (.lxor, 1) := by decide +kernel
theorem dX0_partAt_24 : decode cX0_partAt 24 = .ok (.land, 1) := by decide +kernel
theorem dX0_partAt_25 : decode cX0_partAt 25 = .ok (.lconst 1, 1) := by decide +kernel
theorem dX0_partAt_26 : decode cX0_partAt 26 = .ok (.iload_n 1, 1) := by decide +kernel
theorem dX0_partAt_27 : decode cX0_partAt 27 = .ok (.lshl, 1) := by decide +kernel
theorem dX0_partAt_28 : decode cX0_partAt 28 = .ok (.invokevirtual 89, 3) := by decide +kernel
theorem dX0_partAt_31 : decode cX0_partAt 31 = .ok (.lreturn, 1) := by decide +kernel
theorem dX0_eyeAt_0 : decode cX0_eyeAt 0 = .ok (.lconst 1, 1) := by decide +kernel
theorem dX0_eyeAt_1 : decode cX0_eyeAt 1 = .ok (.iload_n 1, 1) := by decide +kernel
theorem dX0_eyeAt_2 : decode cX0_eyeAt 2 = .ok (.lshl, 1) := by decide +kernel
theorem dX0_eyeAt_3 : decode cX0_eyeAt 3 = .ok (.lstore_n 2, 1) := by decide +kernel
theorem dX0_eyeAt_4 : decode cX0_eyeAt 4 = .ok (.aload_n 0, 1) := by decide +kernel
theorem dX0_eyeAt_5 : decode cX0_eyeAt 5 = .ok (.iconst 0, 1) := by decide +kernel
theorem dX0_eyeAt_6 : decode cX0_eyeAt 6 = .ok (.invokevirtual 99, 3) := by decide +kernel
theorem dX0_eyeAt_9 : decode cX0_eyeAt 9 = .ok (.aload_n 0, 1) := by decide +kernel
theorem dX0_eyeAt_10 : decode cX0_eyeAt 10 = .ok (.iconst 1, 1) := by decide +kernel
theorem dX0_eyeAt_11 : decode cX0_eyeAt 11 = .ok (.invokevirtual 99, 3) := by decide +kernel
theorem dX0_eyeAt_14 : decode cX0_eyeAt 14 = .ok (.lor, 1) := by decide +kernel
theorem dX0_eyeAt_15 : decode cX0_eyeAt 15 = .ok (.lload_n 2, 1) := by decide +kernel
theorem dX0_eyeAt_16 : decode cX0_eyeAt 16 = .ok (.land, 1) := by decide +kernel
theorem dX0_eyeAt_17 : decode cX0_eyeAt 17 = .ok (.lconst 0, 1) := by decide +kernel
theorem dX0_eyeAt_18 : decode cX0_eyeAt 18 = .ok (.lcmp, 1) := by decide +kernel
theorem dX0_eyeAt_19 : decode cX0_eyeAt 19 = .ok (.ifCond .eq 5, 3) := by decide +kernel
theorem dX0_eyeAt_22 : decode cX0_eyeAt 22 = .ok (.iconst 1, 1) := by decide +kernel
theorem dX0_eyeAt_23 : decode cX0_eyeAt 23 = .ok (.ireturn, 1) := by decide +kernel
theorem dX0_eyeAt_24 : decode cX0_eyeAt 24 = .ok (.aload_n 0, 1) := by decide +kernel
theorem dX0_eyeAt_25 : decode cX0_eyeAt 25 = .ok (.iconst 0, 1) := by decide +kernel
theorem dX0_eyeAt_26 : decode cX0_eyeAt 26 = .ok (.invokevirtual 102, 3) := by decide +kernel
theorem dX0_eyeAt_29 : decode cX0_eyeAt 29 = .ok (.aload_n 0, 1) := by decide +kernel
theorem dX0_eyeAt_30 : decode cX0_eyeAt 30 = .ok (.iconst 1, 1) := by decide +kernel
theorem dX0_eyeAt_31 : decode cX0_eyeAt 31 = .ok (.invokevirtual 102, 3) := by decide +kernel
theorem dX0_eyeAt_34 : decode cX0_eyeAt 34 = .ok (.lor, 1) := by decide +kernel
theorem dX0_eyeAt_35 : decode cX0_eyeAt 35 = .ok (.lload_n 2, 1) := by decide +kernel
theorem dX0_eyeAt_36 : decode cX0_eyeAt 36 = .ok (.land, 1) := by decide +kernel
theorem dX0_eyeAt_37 : decode cX0_eyeAt 37 = .ok (.lconst 0, 1) := by decide +kernel
theorem dX0_eyeAt_38 : decode cX0_eyeAt 38 = .ok (.lcmp, 1) := by decide +kernel
theorem dX0_eyeAt_39 : decode cX0_eyeAt 39 = .ok (.ifCond .eq 7, 3) := by decide +kernel
theorem dX0_eyeAt_42 : decode cX0_eyeAt 42 = .ok (.iconst 2, 1) := by decide +kernel
theorem dX0_eyeAt_43 : decode cX0_eyeAt 43 = .ok (.goto 4, 3) := by decide +kernel
theorem dX0_eyeAt_46 : decode cX0_eyeAt 46 = .ok (.iconst 0, 1) := by decide +kernel
theorem dX0_eyeAt_47 : decode cX0_eyeAt 47 = .ok (.ireturn, 1) := by decide +kernel
theorem dX0_trueEyesAt_0 : decode cX0_trueEyesAt 0 = .ok (.aload_n 0, 1) := by decide +kernel
theorem dX0_trueEyesAt_1 : decode cX0_trueEyesAt 1 = .ok (.iload_n 1, 1) := by decide +kernel
theorem dX0_trueEyesAt_2 : decode cX0_trueEyesAt 2 = .ok (.invokevirtual 85, 3) := by decide +kernel
theorem dX0_trueEyesAt_5 : decode cX0_trueEyesAt 5 = .ok (.istore_n 2, 1) := by decide +kernel
theorem dX0_trueEyesAt_6 : decode cX0_trueEyesAt 6 = .ok (.iload_n 2, 1) := by decide +kernel
theorem dX0_trueEyesAt_7 : decode cX0_trueEyesAt 7 = .ok (.iconst (-1), 1) := by decide +kernel
theorem dX0_trueEyesAt_8 : decode cX0_trueEyesAt 8 = .ok (.if_icmp .ne 7, 3) := by decide +kernel
theorem dX0_trueEyesAt_11 : decode cX0_trueEyesAt 11 = .ok (.iconst 0, 1) := by decide +kernel
theorem dX0_trueEyesAt_12 : decode cX0_trueEyesAt 12 = .ok (.goto 17, 3) := by decide +kernel
theorem dX0_trueEyesAt_15 : decode cX0_trueEyesAt 15 = .ok (.aload_n 0, 1) := by decide +kernel
theorem dX0_trueEyesAt_16 : decode cX0_trueEyesAt 16 = .ok (.iload_n 1, 1) := by decide +kernel
theorem dX0_trueEyesAt_17 : decode cX0_trueEyesAt 17 = .ok (.invokevirtual 105, 3) := by decide +kernel
theorem dX0_trueEyesAt_20 : decode cX0_trueEyesAt 20 = .ok (.aload_n 0, 1) := by decide +kernel
theorem dX0_trueEyesAt_21 : decode cX0_trueEyesAt 21 = .ok (.iload_n 2, 1) := by decide +kernel
theorem dX0_trueEyesAt_22 : decode cX0_trueEyesAt 22 = .ok (.invokevirtual 102, 3) := by decide +kernel
theorem dX0_trueEyesAt_25 : decode cX0_trueEyesAt 25 = .ok (.land, 1) := by decide +kernel
theorem dX0_trueEyesAt_26 : decode cX0_trueEyesAt 26 = .ok (.invokestatic 68, 3) := by decide +kernel
theorem dX0_trueEyesAt_29 : decode cX0_trueEyesAt 29 = .ok (.ireturn, 1) := by decide +kernel
theorem dX0_reasonAt_0 : decode cX0_reasonAt 0 = .ok (.lconst 1, 1) := by decide +kernel
theorem dX0_reasonAt_1 : decode cX0_reasonAt 1 = .ok (.iload_n 1, 1) := by decide +kernel
theorem dX0_reasonAt_2 : decode cX0_reasonAt 2 = .ok (.lshl, 1) := by decide +kernel
theorem dX0_reasonAt_3 : decode cX0_reasonAt 3 = .ok (.lstore_n 2, 1) := by decide +kernel
theorem dX0_reasonAt_4 : decode cX0_reasonAt 4 = .ok (.aload_n 0, 1) := by decide +kernel
theorem dX0_reasonAt_5 : decode cX0_reasonAt 5 = .ok (.aload_n 0, 1) := by decide +kernel
theorem dX0_reasonAt_6 : decode cX0_reasonAt 6 = .ok (.invokevirtual 108, 3) := by decide +kernel
theorem dX0_reasonAt_9 : decode cX0_reasonAt 9 = .ok (.invokevirtual 56, 3) := by decide +kernel
theorem dX0_reasonAt_12 : decode cX0_reasonAt 12 = .ok (.lstore 4, 2) := by decide +kernel
theorem dX0_reasonAt_14 : decode cX0_reasonAt 14 = .ok (.aload_n 0, 1) := by decide +kernel
theorem dX0_reasonAt_15 : decode cX0_reasonAt 15 = .ok (.iconst 1, 1) := by decide +kernel
theorem dX0_reasonAt_16 : decode cX0_reasonAt 16 = .ok (.aload_n 0, 1) := by decide +kernel
theorem dX0_reasonAt_17 : decode cX0_reasonAt 17 = .ok (.invokevirtual 108, 3) := by decide +kernel
theorem dX0_reasonAt_20 : decode cX0_reasonAt 20 = .ok (.isub, 1) := by decide +kernel
theorem dX0_reasonAt_21 : decode cX0_reasonAt 21 = .ok (.invokevirtual 56, 3) := by decide +kernel
theorem dX0_reasonAt_24 : decode cX0_reasonAt 24 = .ok (.lstore 6, 2) := by decide +kernel
theorem dX0_reasonAt_26 : decode cX0_reasonAt 26 = .ok (.lload 4, 2) := by decide +kernel
theorem dX0_reasonAt_28 : decode cX0_reasonAt 28 = .ok (.lload 6, 2) := by decide +kernel
theorem dX0_reasonAt_30 : decode cX0_reasonAt 30 = .ok (.lor, 1) := by decide +kernel
theorem dX0_reasonAt_31 : decode cX0_reasonAt 31 = .ok (.lload_n 2, 1) := by decide +kernel
theorem dX0_reasonAt_32 : decode cX0_reasonAt 32 = .ok (.land, 1) := by decide +kernel
theorem dX0_reasonAt_33 : decode cX0_reasonAt 33 = .ok (.lconst 0, 1) := by decide +kernel
theorem dX0_reasonAt_34 : decode cX0_reasonAt 34 = .ok (.lcmp, 1) := by decide +kernel
theorem dX0_reasonAt_35 : decode cX0_reasonAt 35 = .ok (.ifCond .eq 5, 3) := by decide +kernel
theorem dX0_reasonAt_38 : decode cX0_reasonAt 38 = .ok (.iconst 1, 1) := by decide +kernel
theorem dX0_reasonAt_39 : decode cX0_reasonAt 39 = .ok (.ireturn, 1) := by decide +kernel
theorem dX0_reasonAt_40 : decode cX0_reasonAt 40 = .ok (.lload 6, 2) := by decide +kernel
theorem dX0_reasonAt_42 : decode cX0_reasonAt 42 = .ok (.aload_n 0, 1) := by decide +kernel
theorem dX0_reasonAt_43 : decode cX0_reasonAt 43 = .ok (.getfield 18, 3) := by decide +kernel
theorem dX0_reasonAt_46 : decode cX0_reasonAt 46 = .ok (.lload 4, 2) := by decide +kernel
theorem dX0_reasonAt_48 : decode cX0_reasonAt 48 = .ok (.lload 6, 2) := by decide +kernel
theorem dX0_reasonAt_50 : decode cX0_reasonAt 50 = .ok (.lload_n 2, 1) := by decide +kernel
theorem dX0_reasonAt_51 : decode cX0_reasonAt 51 = .ok (.invokevirtual 112, 3) := by decide +kernel
theorem dX0_reasonAt_54 : decode cX0_reasonAt 54 = .ok (.ldc2_w 83, 3) := by decide +kernel
theorem dX0_reasonAt_57 : decode cX0_reasonAt 57 = .ok (.lxor, 1) := by decide +kernel
theorem dX0_reasonAt_58 : decode cX0_reasonAt 58 = .ok (.land, 1) := by decide +kernel
theorem dX0_reasonAt_59 : decode cX0_reasonAt 59 = .ok (.lstore 6, 2) := by decide +kernel
theorem dX0_reasonAt_61 : decode cX0_reasonAt 61 = .ok (.lload 4, 2) := by decide +kernel
theorem dX0_reasonAt_63 : decode cX0_reasonAt 63 = .ok (.lload_n 2, 1) := by decide +kernel
theorem dX0_reasonAt_64 : decode cX0_reasonAt 64 = .ok (.lor, 1) := by decide +kernel
theorem dX0_reasonAt_65 : decode cX0_reasonAt 65 = .ok (.lstore 4, 2) := by decide +kernel
theorem dX0_reasonAt_67 : decode cX0_reasonAt 67 = .ok (.aload_n 0, 1) := by decide +kernel
theorem dX0_reasonAt_68 : decode cX0_reasonAt 68 = .ok (.getfield 18, 3) := by decide +kernel
theorem dX0_reasonAt_71 : decode cX0_reasonAt 71 = .ok (.lload 4, 2) := by decide +kernel
theorem dX0_reasonAt_73 : decode cX0_reasonAt 73 = .ok (.lload 6, 2) := by decide +kernel
theorem dX0_reasonAt_75 : decode cX0_reasonAt 75 = .ok (.lload_n 2, 1) := by decide +kernel
theorem dX0_reasonAt_76 : decode cX0_reasonAt 76 = .ok (.invokevirtual 92, 3) := by decide +kernel
theorem dX0_reasonAt_79 : decode cX0_reasonAt 79 = .ok (.lconst 0, 1) := by decide +kernel
theorem dX0_reasonAt_80 : decode cX0_reasonAt 80 = .ok (.lcmp, 1) := by decide +kernel
theorem dX0_reasonAt_81 : decode cX0_reasonAt 81 = .ok (.ifCond .ne 5, 3) := by decide +kernel
theorem dX0_reasonAt_84 : decode cX0_reasonAt 84 = .ok (.iconst 2, 1) := by decide +kernel
theorem dX0_reasonAt_85 : decode cX0_reasonAt 85 = .ok (.ireturn, 1) := by decide +kernel
theorem dX0_reasonAt_86 : decode cX0_reasonAt 86 = .ok (.aload_n 0, 1) := by decide +kernel
theorem dX0_reasonAt_87 : decode cX0_reasonAt 87 = .ok (.invokevirtual 108, 3) := by decide +kernel
theorem dX0_reasonAt_90 : decode cX0_reasonAt 90 = .ok (.ifCond .ne 17, 3) := by decide +kernel
theorem dX0_reasonAt_93 : decode cX0_reasonAt 93 = .ok (.aload_n 0, 1) := by decide +kernel
theorem dX0_reasonAt_94 : decode cX0_reasonAt 94 = .ok (.lload 4, 2) := by decide +kernel
theorem dX0_reasonAt_96 : decode cX0_reasonAt 96 = .ok (.lload 6, 2) := by decide +kernel
theorem dX0_reasonAt_98 : decode cX0_reasonAt 98 = .ok (.invokevirtual 115, 3) := by decide +kernel
theorem dX0_reasonAt_101 : decode cX0_reasonAt 101 = .ok (.ifCond .eq 19, 3) := by decide +kernel
theorem dX0_reasonAt_104 : decode cX0_reasonAt 104 = .ok (.goto 14, 3) := by decide +kernel
theorem dX0_reasonAt_107 : decode cX0_reasonAt 107 = .ok (.aload_n 0, 1) := by decide +kernel
theorem dX0_reasonAt_108 : decode cX0_reasonAt 108 = .ok (.lload 6, 2) := by decide +kernel
theorem dX0_reasonAt_110 : decode cX0_reasonAt 110 = .ok (.lload 4, 2) := by decide +kernel
theorem dX0_reasonAt_112 : decode cX0_reasonAt 112 = .ok (.invokevirtual 115, 3) := by decide +kernel
theorem dX0_reasonAt_115 : decode cX0_reasonAt 115 = .ok (.ifCond .eq 5, 3) := by decide +kernel
theorem dX0_reasonAt_118 : decode cX0_reasonAt 118 = .ok (.iconst 3, 1) := by decide +kernel
theorem dX0_reasonAt_119 : decode cX0_reasonAt 119 = .ok (.ireturn, 1) := by decide +kernel
theorem dX0_reasonAt_120 : decode cX0_reasonAt 120 = .ok (.aload_n 0, 1) := by decide +kernel
theorem dX0_reasonAt_121 : decode cX0_reasonAt 121 = .ok (.getfield 27, 3) := by decide +kernel
theorem dX0_reasonAt_124 : decode cX0_reasonAt 124 = .ok (.bipush 120, 2) := by decide +kernel
theorem dX0_reasonAt_126 : decode cX0_reasonAt 126 = .ok (.if_icmp .lt 7, 3) := by decide +kernel
theorem dX0_reasonAt_129 : decode cX0_reasonAt 129 = .ok (.iconst 4, 1) := by decide +kernel
theorem dX0_reasonAt_130 : decode cX0_reasonAt 130 = .ok (.goto 4, 3) := by decide +kernel
theorem dX0_reasonAt_133 : decode cX0_reasonAt 133 = .ok (.iconst 0, 1) := by decide +kernel
theorem dX0_reasonAt_134 : decode cX0_reasonAt 134 = .ok (.ireturn, 1) := by decide +kernel
theorem dX0_mustNotCome_0 : decode cX0_mustNotCome 0 = .ok (.aload_n 0, 1) := by decide +kernel
theorem dX0_mustNotCome_1 : decode cX0_mustNotCome 1 = .ok (.getfield 53, 3) := by decide +kernel
theorem dX0_mustNotCome_4 : decode cX0_mustNotCome 4 = .ok (.iconst 1, 1) := by decide +kernel
theorem dX0_mustNotCome_5 : decode cX0_mustNotCome 5 = .ok (.if_icmp .ne 7, 3) := by decide +kernel
theorem dX0_mustNotCome_8 : decode cX0_mustNotCome 8 = .ok (.iconst 0, 1) := by decide +kernel
theorem dX0_mustNotCome_9 : decode cX0_mustNotCome 9 = .ok (.goto 13, 3) := by decide +kernel
theorem dX0_mustNotCome_12 : decode cX0_mustNotCome 12 = .ok (.aload_n 0, 1) := by decide +kernel
theorem dX0_mustNotCome_13 : decode cX0_mustNotCome 13 = .ok (.getfield 27, 3) := by decide +kernel
theorem dX0_mustNotCome_16 : decode cX0_mustNotCome 16 = .ok (.iconst 1, 1) := by decide +kernel
theorem dX0_mustNotCome_17 : decode cX0_mustNotCome 17 = .ok (.isub, 1) := by decide +kernel
theorem dX0_mustNotCome_18 : decode cX0_mustNotCome 18 = .ok (.iconst 0, 1) := by decide +kernel
theorem dX0_mustNotCome_19 : decode cX0_mustNotCome 19 = .ok (.invokestatic 119, 3) := by decide +kernel
theorem dX0_mustNotCome_22 : decode cX0_mustNotCome 22 = .ok (.istore 5, 2) := by decide +kernel
theorem dX0_mustNotCome_24 : decode cX0_mustNotCome 24 = .ok (.aload_n 0, 1) := by decide +kernel
theorem dX0_mustNotCome_25 : decode cX0_mustNotCome 25 = .ok (.getfield 53, 3) := by decide +kernel
theorem dX0_mustNotCome_28 : decode cX0_mustNotCome 28 = .ok (.iconst 1, 1) := by decide +kernel
theorem dX0_mustNotCome_29 : decode cX0_mustNotCome 29 = .ok (.if_icmp .ne 12, 3) := by decide +kernel
theorem dX0_mustNotCome_32 : decode cX0_mustNotCome 32 = .ok (.aload_n 0, 1) := by decide +kernel
theorem dX0_mustNotCome_33 : decode cX0_mustNotCome 33 = .ok (.getfield 27, 3) := by decide +kernel
theorem dX0_mustNotCome_36 : decode cX0_mustNotCome 36 = .ok (.iconst 1, 1) := by decide +kernel
theorem dX0_mustNotCome_37 : decode cX0_mustNotCome 37 = .ok (.iadd, 1) := by decide +kernel
theorem dX0_mustNotCome_38 : decode cX0_mustNotCome 38 = .ok (.goto 7, 3) := by decide +kernel
theorem dX0_mustNotCome_41 : decode cX0_mustNotCome 41 = .ok (.aload_n 0, 1) := by decide +kernel
theorem dX0_mustNotCome_42 : decode cX0_mustNotCome 42 = .ok (.getfield 27, 3) := by decide +kernel
theorem dX0_mustNotCome_45 : decode cX0_mustNotCome 45 = .ok (.istore 6, 2) := by decide +kernel
theorem dX0_mustNotCome_47 : decode cX0_mustNotCome 47 = .ok (.iload 5, 2) := by decide +kernel
theorem dX0_mustNotCome_49 : decode cX0_mustNotCome 49 = .ok (.istore 7, 2) := by decide +kernel
theorem dX0_mustNotCome_51 : decode cX0_mustNotCome 51 = .ok (.iload 7, 2) := by decide +kernel
theorem dX0_mustNotCome_53 : decode cX0_mustNotCome 53 = .ok (.iload 6, 2) := by decide +kernel
theorem dX0_mustNotCome_55 : decode cX0_mustNotCome 55 = .ok (.if_icmp .ge 55, 3) := by decide +kernel
theorem dX0_mustNotCome_58 : decode cX0_mustNotCome 58 = .ok (.iload 7, 2) := by decide +kernel
theorem dX0_mustNotCome_60 : decode cX0_mustNotCome 60 = .ok (.aload_n 0, 1) := by decide +kernel
theorem dX0_mustNotCome_61 : decode cX0_mustNotCome 61 = .ok (.getfield 9, 3) := by decide +kernel
theorem dX0_mustNotCome_64 : decode cX0_mustNotCome 64 = .ok (.arraylength, 1) := by decide +kernel
theorem dX0_mustNotCome_65 : decode cX0_mustNotCome 65 = .ok (.if_icmp .ge 45, 3) := by decide +kernel
theorem dX0_mustNotCome_68 : decode cX0_mustNotCome 68 = .ok (.iload 7, 2) := by decide +kernel
theorem dX0_mustNotCome_70 : decode cX0_mustNotCome 70 = .ok (.aload_n 0, 1) := by decide +kernel
theorem dX0_mustNotCome_71 : decode cX0_mustNotCome 71 = .ok (.getfield 15, 3) := by decide +kernel
theorem dX0_mustNotCome_74 : decode cX0_mustNotCome 74 = .ok (.arraylength, 1) := by decide +kernel
theorem dX0_mustNotCome_75 : decode cX0_mustNotCome 75 = .ok (.if_icmp .ge 35, 3) := by decide +kernel
theorem dX0_mustNotCome_78 : decode cX0_mustNotCome 78 = .ok (.aload_n 0, 1) := by decide +kernel
theorem dX0_mustNotCome_79 : decode cX0_mustNotCome 79 = .ok (.getfield 9, 3) := by decide +kernel
theorem dX0_mustNotCome_82 : decode cX0_mustNotCome 82 = .ok (.iload 7, 2) := by decide +kernel
theorem dX0_mustNotCome_84 : decode cX0_mustNotCome 84 = .ok (.laload, 1) := by decide +kernel
theorem dX0_mustNotCome_85 : decode cX0_mustNotCome 85 = .ok (.lload_n 1, 1) := by decide +kernel
theorem dX0_mustNotCome_86 : decode cX0_mustNotCome 86 = .ok (.lcmp, 1) := by decide +kernel
theorem dX0_mustNotCome_87 : decode cX0_mustNotCome 87 = .ok (.ifCond .ne 17, 3) := by decide +kernel
theorem dX0_mustNotCome_90 : decode cX0_mustNotCome 90 = .ok (.aload_n 0, 1) := by decide +kernel
theorem dX0_mustNotCome_91 : decode cX0_mustNotCome 91 = .ok (.getfield 15, 3) := by decide +kernel
theorem dX0_mustNotCome_94 : decode cX0_mustNotCome 94 = .ok (.iload 7, 2) := by decide +kernel
theorem dX0_mustNotCome_96 : decode cX0_mustNotCome 96 = .ok (.laload, 1) := by decide +kernel
theorem dX0_mustNotCome_97 : decode cX0_mustNotCome 97 = .ok (.lload_n 3, 1) := by decide +kernel
theorem dX0_mustNotCome_98 : decode cX0_mustNotCome 98 = .ok (.lcmp, 1) := by decide +kernel
theorem dX0_mustNotCome_99 : decode cX0_mustNotCome 99 = .ok (.ifCond .ne 5, 3) := by decide +kernel
theorem dX0_mustNotCome_102 : decode cX0_mustNotCome 102 = .ok (.iconst 1, 1) := by decide +kernel
theorem dX0_mustNotCome_103 : decode cX0_mustNotCome 103 = .ok (.ireturn, 1) := by decide +kernel
theorem dX0_mustNotCome_104 : decode cX0_mustNotCome 104 = .ok (.iinc 7 1, 3) := by decide +kernel
theorem dX0_mustNotCome_107 : decode cX0_mustNotCome 107 = .ok (.goto (-56), 3) := by decide +kernel
theorem dX0_mustNotCome_110 : decode cX0_mustNotCome 110 = .ok (.iconst 0, 1) := by decide +kernel
theorem dX0_mustNotCome_111 : decode cX0_mustNotCome 111 = .ok (.ireturn, 1) := by decide +kernel
theorem dX0_effectOf_0 : decode cX0_effectOf 0 = .ok (.lconst 1, 1) := by decide +kernel
theorem dX0_effectOf_1 : decode cX0_effectOf 1 = .ok (.iload_n 1, 1) := by decide +kernel
theorem dX0_effectOf_2 : decode cX0_effectOf 2 = .ok (.lshl, 1) := by decide +kernel
theorem dX0_effectOf_3 : decode cX0_effectOf 3 = .ok (.lstore_n 3, 1) := by decide +kernel
theorem dX0_effectOf_4 : decode cX0_effectOf 4 = .ok (.aload_n 0, 1) := by decide +kernel
theorem dX0_effectOf_5 : decode cX0_effectOf 5 = .ok (.aload_n 0, 1) := by decide +kernel
theorem dX0_effectOf_6 : decode cX0_effectOf 6 = .ok (.invokevirtual 108, 3) := by decide +kernel
theorem dX0_effectOf_9 : decode cX0_effectOf 9 = .ok (.invokevirtual 56, 3) := by decide +kernel
theorem dX0_effectOf_12 : decode cX0_effectOf 12 = .ok (.lstore 5, 2) := by decide +kernel
theorem dX0_effectOf_14 : decode cX0_effectOf 14 = .ok (.aload_n 0, 1) := by decide +kernel
theorem dX0_effectOf_15 : decode cX0_effectOf 15 = .ok (.iconst 1, 1) := by decide +kernel
theorem dX0_effectOf_16 : decode cX0_effectOf 16 = .ok (.aload_n 0, 1) := by decide +kernel
theorem dX0_effectOf_17 : decode cX0_effectOf 17 = .ok (.invokevirtual 108, 3) := by decide +kernel
theorem dX0_effectOf_20 : decode cX0_effectOf 20 = .ok (.isub, 1) := by decide +kernel
theorem dX0_effectOf_21 : decode cX0_effectOf 21 = .ok (.invokevirtual 56, 3) := by decide +kernel
theorem dX0_effectOf_24 : decode cX0_effectOf 24 = .ok (.lstore 7, 2) := by decide +kernel
theorem dX0_effectOf_26 : decode cX0_effectOf 26 = .ok (.aload_n 0, 1) := by decide +kernel
theorem dX0_effectOf_27 : decode cX0_effectOf 27 = .ok (.getfield 18, 3) := by decide +kernel
theorem dX0_effectOf_30 : decode cX0_effectOf 30 = .ok (.lload 5, 2) := by decide +kernel
theorem dX0_effectOf_32 : decode cX0_effectOf 32 = .ok (.lload 7, 2) := by decide +kernel
theorem dX0_effectOf_34 : decode cX0_effectOf 34 = .ok (.lload_n 3, 1) := by decide +kernel
theorem dX0_effectOf_35 : decode cX0_effectOf 35 = .ok (.invokevirtual 112, 3) := by decide +kernel
theorem dX0_effectOf_38 : decode cX0_effectOf 38 = .ok (.lstore 9, 2) := by decide +kernel
theorem dX0_effectOf_40 : decode cX0_effectOf 40 = .ok (.lload 5, 2) := by decide +kernel
theorem dX0_effectOf_42 : decode cX0_effectOf 42 = .ok (.lload_n 3, 1) := by decide +kernel
theorem dX0_effectOf_43 : decode cX0_effectOf 43 = .ok (.lor, 1) := by decide +kernel
theorem dX0_effectOf_44 : decode cX0_effectOf 44 = .ok (.lstore 5, 2) := by decide +kernel
theorem dX0_effectOf_46 : decode cX0_effectOf 46 = .ok (.lload 7, 2) := by decide +kernel
theorem dX0_effectOf_48 : decode cX0_effectOf 48 = .ok (.lload 9, 2) := by decide +kernel
theorem dX0_effectOf_50 : decode cX0_effectOf 50 = .ok (.ldc2_w 83, 3) := by decide +kernel
theorem dX0_effectOf_53 : decode cX0_effectOf 53 = .ok (.lxor, 1) := by decide +kernel
theorem dX0_effectOf_54 : decode cX0_effectOf 54 = .ok (.land, 1) := by decide +kernel
theorem dX0_effectOf_55 : decode cX0_effectOf 55 = .ok (.lstore 7, 2) := by decide +kernel
theorem dX0_effectOf_57 : decode cX0_effectOf 57 = .ok (.iload_n 2, 1) := by decide +kernel
theorem dX0_effectOf_58 : decode cX0_effectOf 58 = .ok (.tableswitch 62 0 2 #[26, 32, 48], 26) := by decide +kernel
theorem dX0_effectOf_84 : decode cX0_effectOf 84 = .ok (.lload 9, 2) := by decide +kernel
theorem dX0_effectOf_86 : decode cX0_effectOf 86 = .ok (.invokestatic 68, 3) := by decide +kernel
theorem dX0_effectOf_89 : decode cX0_effectOf 89 = .ok (.ireturn, 1) := by decide +kernel
theorem dX0_effectOf_90 : decode cX0_effectOf 90 = .ok (.aload_n 0, 1) := by decide +kernel
theorem dX0_effectOf_91 : decode cX0_effectOf 91 = .ok (.getfield 18, 3) := by decide +kernel
theorem dX0_effectOf_94 : decode cX0_effectOf 94 = .ok (.lload 5, 2) := by decide +kernel
theorem dX0_effectOf_96 : decode cX0_effectOf 96 = .ok (.lload 7, 2) := by decide +kernel
theorem dX0_effectOf_98 : decode cX0_effectOf 98 = .ok (.lload_n 3, 1) := by decide +kernel
theorem dX0_effectOf_99 : decode cX0_effectOf 99 = .ok (.invokevirtual 92, 3) := by decide +kernel
theorem dX0_effectOf_102 : decode cX0_effectOf 102 = .ok (.invokestatic 68, 3) := by decide +kernel
theorem dX0_effectOf_105 : decode cX0_effectOf 105 = .ok (.ireturn, 1) := by decide +kernel
theorem dX0_effectOf_106 : decode cX0_effectOf 106 = .ok (.aload_n 0, 1) := by decide +kernel
theorem dX0_effectOf_107 : decode cX0_effectOf 107 = .ok (.getfield 18, 3) := by decide +kernel
theorem dX0_effectOf_110 : decode cX0_effectOf 110 = .ok (.lload 5, 2) := by decide +kernel
theorem dX0_effectOf_112 : decode cX0_effectOf 112 = .ok (.lload_n 3, 1) := by decide +kernel
theorem dX0_effectOf_113 : decode cX0_effectOf 113 = .ok (.invokevirtual 89, 3) := by decide +kernel
theorem dX0_effectOf_116 : decode cX0_effectOf 116 = .ok (.invokestatic 68, 3) := by decide +kernel
theorem dX0_effectOf_119 : decode cX0_effectOf 119 = .ok (.ireturn, 1) := by decide +kernel
theorem dX0_effectOf_120 : decode cX0_effectOf 120 = .ok (.aload_n 0, 1) := by decide +kernel
theorem dX0_effectOf_121 : decode cX0_effectOf 121 = .ok (.getfield 18, 3) := by decide +kernel
theorem dX0_effectOf_124 : decode cX0_effectOf 124 = .ok (.lload 7, 2) := by decide +kernel
theorem dX0_effectOf_126 : decode cX0_effectOf 126 = .ok (.lload 5, 2) := by decide +kernel
theorem dX0_effectOf_128 : decode cX0_effectOf 128 = .ok (.invokevirtual 64, 3) := by decide +kernel
theorem dX0_effectOf_131 : decode cX0_effectOf 131 = .ok (.ireturn, 1) := by decide +kernel
theorem dX0_layIfAllowed_0 : decode cX0_layIfAllowed 0 = .ok (.aload_n 0, 1) := by decide +kernel
theorem dX0_layIfAllowed_1 : decode cX0_layIfAllowed 1 = .ok (.getfield 18, 3) := by decide +kernel
theorem dX0_layIfAllowed_4 : decode cX0_layIfAllowed 4 = .ok (.iload_n 1, 1) := by decide +kernel
theorem dX0_layIfAllowed_5 : decode cX0_layIfAllowed 5 = .ok (.invokevirtual 125, 3) := by decide +kernel
theorem dX0_layIfAllowed_8 : decode cX0_layIfAllowed 8 = .ok (.ifCond .eq 11, 3) := by decide +kernel
theorem dX0_layIfAllowed_11 : decode cX0_layIfAllowed 11 = .ok (.aload_n 0, 1) := by decide +kernel
theorem dX0_layIfAllowed_12 : decode cX0_layIfAllowed 12 = .ok (.iload_n 1, 1) := by decide +kernel
theorem dX0_layIfAllowed_13 : decode cX0_layIfAllowed 13 = .ok (.invokevirtual 129, 3) := by decide +kernel
theorem dX0_layIfAllowed_16 : decode cX0_layIfAllowed 16 = .ok (.ifCond .eq 5, 3) := by decide +kernel
theorem dX0_layIfAllowed_19 : decode cX0_layIfAllowed 19 = .ok (.iconst 0, 1) := by decide +kernel
theorem dX0_layIfAllowed_20 : decode cX0_layIfAllowed 20 = .ok (.ireturn, 1) := by decide +kernel
theorem dX0_layIfAllowed_21 : decode cX0_layIfAllowed 21 = .ok (.aload_n 0, 1) := by decide +kernel
theorem dX0_layIfAllowed_22 : decode cX0_layIfAllowed 22 = .ok (.iload_n 1, 1) := by decide +kernel
theorem dX0_layIfAllowed_23 : decode cX0_layIfAllowed 23 = .ok (.invokevirtual 132, 3) := by decide +kernel
theorem dX0_layIfAllowed_26 : decode cX0_layIfAllowed 26 = .ok (.pop, 1) := by decide +kernel
theorem dX0_layIfAllowed_27 : decode cX0_layIfAllowed 27 = .ok (.iconst 1, 1) := by decide +kernel
theorem dX0_layIfAllowed_28 : decode cX0_layIfAllowed 28 = .ok (.ireturn, 1) := by decide +kernel
theorem dX0_passIfAllowed_0 : decode cX0_passIfAllowed 0 = .ok (.aload_n 0, 1) := by decide +kernel
theorem dX0_passIfAllowed_1 : decode cX0_passIfAllowed 1 = .ok (.getfield 27, 3) := by decide +kernel
theorem dX0_passIfAllowed_4 : decode cX0_passIfAllowed 4 = .ok (.bipush 120, 2) := by decide +kernel
theorem dX0_passIfAllowed_6 : decode cX0_passIfAllowed 6 = .ok (.if_icmp .lt 5, 3) := by decide +kernel
theorem dX0_passIfAllowed_9 : decode cX0_passIfAllowed 9 = .ok (.iconst 0, 1) := by decide +kernel
theorem dX0_passIfAllowed_10 : decode cX0_passIfAllowed 10 = .ok (.ireturn, 1) := by decide +kernel
theorem dX0_passIfAllowed_11 : decode cX0_passIfAllowed 11 = .ok (.aload_n 0, 1) := by decide +kernel
theorem dX0_passIfAllowed_12 : decode cX0_passIfAllowed 12 = .ok (.dup, 1) := by decide +kernel
theorem dX0_passIfAllowed_13 : decode cX0_passIfAllowed 13 = .ok (.getfield 27, 3) := by decide +kernel
theorem dX0_passIfAllowed_16 : decode cX0_passIfAllowed 16 = .ok (.iconst 1, 1) := by decide +kernel
theorem dX0_passIfAllowed_17 : decode cX0_passIfAllowed 17 = .ok (.iadd, 1) := by decide +kernel
theorem dX0_passIfAllowed_18 : decode cX0_passIfAllowed 18 = .ok (.putfield 27, 3) := by decide +kernel
theorem dX0_passIfAllowed_21 : decode cX0_passIfAllowed 21 = .ok (.aload_n 0, 1) := by decide +kernel
theorem dX0_passIfAllowed_22 : decode cX0_passIfAllowed 22 = .ok (.dup, 1) := by decide +kernel
theorem dX0_passIfAllowed_23 : decode cX0_passIfAllowed 23 = .ok (.getfield 31, 3) := by decide +kernel
theorem dX0_passIfAllowed_26 : decode cX0_passIfAllowed 26 = .ok (.iconst 1, 1) := by decide +kernel
theorem dX0_passIfAllowed_27 : decode cX0_passIfAllowed 27 = .ok (.iadd, 1) := by decide +kernel
theorem dX0_passIfAllowed_28 : decode cX0_passIfAllowed 28 = .ok (.putfield 31, 3) := by decide +kernel
theorem dX0_passIfAllowed_31 : decode cX0_passIfAllowed 31 = .ok (.aload_n 0, 1) := by decide +kernel
theorem dX0_passIfAllowed_32 : decode cX0_passIfAllowed 32 = .ok (.dup, 1) := by decide +kernel
theorem dX0_passIfAllowed_33 : decode cX0_passIfAllowed 33 = .ok (.getfield 34, 3) := by decide +kernel
theorem dX0_passIfAllowed_36 : decode cX0_passIfAllowed 36 = .ok (.iconst 1, 1) := by decide +kernel
theorem dX0_passIfAllowed_37 : decode cX0_passIfAllowed 37 = .ok (.iadd, 1) := by decide +kernel
theorem dX0_passIfAllowed_38 : decode cX0_passIfAllowed 38 = .ok (.putfield 34, 3) := by decide +kernel
theorem dX0_passIfAllowed_41 : decode cX0_passIfAllowed 41 = .ok (.aload_n 0, 1) := by decide +kernel
theorem dX0_passIfAllowed_42 : decode cX0_passIfAllowed 42 = .ok (.invokevirtual 50, 3) := by decide +kernel
theorem dX0_passIfAllowed_45 : decode cX0_passIfAllowed 45 = .ok (.iconst 1, 1) := by decide +kernel
theorem dX0_passIfAllowed_46 : decode cX0_passIfAllowed 46 = .ok (.ireturn, 1) := by decide +kernel
theorem dX0_lay_0 : decode cX0_lay 0 = .ok (.lconst 1, 1) := by decide +kernel
theorem dX0_lay_1 : decode cX0_lay 1 = .ok (.iload_n 1, 1) := by decide +kernel
theorem dX0_lay_2 : decode cX0_lay 2 = .ok (.lshl, 1) := by decide +kernel
theorem dX0_lay_3 : decode cX0_lay 3 = .ok (.lstore_n 2, 1) := by decide +kernel
theorem dX0_lay_4 : decode cX0_lay 4 = .ok (.aload_n 0, 1) := by decide +kernel
theorem dX0_lay_5 : decode cX0_lay 5 = .ok (.invokevirtual 108, 3) := by decide +kernel
theorem dX0_lay_8 : decode cX0_lay 8 = .ok (.istore 4, 2) := by decide +kernel
theorem dX0_lay_10 : decode cX0_lay 10 = .ok (.aload_n 0, 1) := by decide +kernel
theorem dX0_lay_11 : decode cX0_lay 11 = .ok (.getfield 18, 3) := by decide +kernel
theorem dX0_lay_14 : decode cX0_lay 14 = .ok (.aload_n 0, 1) := by decide +kernel
theorem dX0_lay_15 : decode cX0_lay 15 = .ok (.iload 4, 2) := by decide +kernel
theorem dX0_lay_17 : decode cX0_lay 17 = .ok (.invokevirtual 56, 3) := by decide +kernel
theorem dX0_lay_20 : decode cX0_lay 20 = .ok (.aload_n 0, 1) := by decide +kernel
theorem dX0_lay_21 : decode cX0_lay 21 = .ok (.iconst 1, 1) := by decide +kernel
theorem dX0_lay_22 : decode cX0_lay 22 = .ok (.iload 4, 2) := by decide +kernel
theorem dX0_lay_24 : decode cX0_lay 24 = .ok (.isub, 1) := by decide +kernel
theorem dX0_lay_25 : decode cX0_lay 25 = .ok (.invokevirtual 56, 3) := by decide +kernel
theorem dX0_lay_28 : decode cX0_lay 28 = .ok (.lload_n 2, 1) := by decide +kernel
theorem dX0_lay_29 : decode cX0_lay 29 = .ok (.invokevirtual 112, 3) := by decide +kernel
theorem dX0_lay_32 : decode cX0_lay 32 = .ok (.lstore 5, 2) := by decide +kernel
theorem dX0_lay_34 : decode cX0_lay 34 = .ok (.lload 5, 2) := by decide +kernel
theorem dX0_lay_36 : decode cX0_lay 36 = .ok (.invokestatic 68, 3) := by decide +kernel
theorem dX0_lay_39 : decode cX0_lay 39 = .ok (.istore 7, 2) := by decide +kernel
theorem dX0_lay_41 : decode cX0_lay 41 = .ok (.iload 4, 2) := by decide +kernel
theorem dX0_lay_43 : decode cX0_lay 43 = .ok (.ifCond .ne 42, 3) := by decide +kernel
theorem dX0_lay_46 : decode cX0_lay 46 = .ok (.aload_n 0, 1) := by decide +kernel
theorem dX0_lay_47 : decode cX0_lay 47 = .ok (.dup, 1) := by decide +kernel
theorem dX0_lay_48 : decode cX0_lay 48 = .ok (.getfield 37, 3) := by decide +kernel
theorem dX0_lay_51 : decode cX0_lay 51 = .ok (.lload_n 2, 1) := by decide +kernel
theorem dX0_lay_52 : decode cX0_lay 52 = .ok (.lor, 1) := by decide +kernel
theorem dX0_lay_53 : decode cX0_lay 53 = .ok (.putfield 37, 3) := by decide +kernel
theorem dX0_lay_56 : decode cX0_lay 56 = .ok (.aload_n 0, 1) := by decide +kernel
theorem dX0_lay_57 : decode cX0_lay 57 = .ok (.dup, 1) := by decide +kernel
theorem dX0_lay_58 : decode cX0_lay 58 = .ok (.getfield 41, 3) := by decide +kernel
theorem dX0_lay_61 : decode cX0_lay 61 = .ok (.lload 5, 2) := by decide +kernel
theorem dX0_lay_63 : decode cX0_lay 63 = .ok (.ldc2_w 83, 3) := by decide +kernel
theorem dX0_lay_66 : decode cX0_lay 66 = .ok (.lxor, 1) := by decide +kernel
theorem dX0_lay_67 : decode cX0_lay 67 = .ok (.land, 1) := by decide +kernel
theorem dX0_lay_68 : decode cX0_lay 68 = .ok (.putfield 41, 3) := by decide +kernel
theorem dX0_lay_71 : decode cX0_lay 71 = .ok (.aload_n 0, 1) := by decide +kernel
theorem dX0_lay_72 : decode cX0_lay 72 = .ok (.dup, 1) := by decide +kernel
theorem dX0_lay_73 : decode cX0_lay 73 = .ok (.getfield 44, 3) := by decide +kernel
theorem dX0_lay_76 : decode cX0_lay 76 = .ok (.iload 7, 2) := by decide +kernel
theorem dX0_lay_78 : decode cX0_lay 78 = .ok (.iadd, 1) := by decide +kernel
theorem dX0_lay_79 : decode cX0_lay 79 = .ok (.putfield 44, 3) := by decide +kernel
theorem dX0_lay_82 : decode cX0_lay 82 = .ok (.goto 39, 3) := by decide +kernel
theorem dX0_lay_85 : decode cX0_lay 85 = .ok (.aload_n 0, 1) := by decide +kernel
theorem dX0_lay_86 : decode cX0_lay 86 = .ok (.dup, 1) := by decide +kernel
theorem dX0_lay_87 : decode cX0_lay 87 = .ok (.getfield 41, 3) := by decide +kernel
theorem dX0_lay_90 : decode cX0_lay 90 = .ok (.lload_n 2, 1) := by decide +kernel
theorem dX0_lay_91 : decode cX0_lay 91 = .ok (.lor, 1) := by decide +kernel
theorem dX0_lay_92 : decode cX0_lay 92 = .ok (.putfield 41, 3) := by decide +kernel
theorem dX0_lay_95 : decode cX0_lay 95 = .ok (.aload_n 0, 1) := by decide +kernel
theorem dX0_lay_96 : decode cX0_lay 96 = .ok (.dup, 1) := by decide +kernel
theorem dX0_lay_97 : decode cX0_lay 97 = .ok (.getfield 37, 3) := by decide +kernel
theorem dX0_lay_100 : decode cX0_lay 100 = .ok (.lload 5, 2) := by decide +kernel
theorem dX0_lay_102 : decode cX0_lay 102 = .ok (.ldc2_w 83, 3) := by decide +kernel
theorem dX0_lay_105 : decode cX0_lay 105 = .ok (.lxor, 1) := by decide +kernel
theorem dX0_lay_106 : decode cX0_lay 106 = .ok (.land, 1) := by decide +kernel
theorem dX0_lay_107 : decode cX0_lay 107 = .ok (.putfield 37, 3) := by decide +kernel
theorem dX0_lay_110 : decode cX0_lay 110 = .ok (.aload_n 0, 1) := by decide +kernel
theorem dX0_lay_111 : decode cX0_lay 111 = .ok (.dup, 1) := by decide +kernel
theorem dX0_lay_112 : decode cX0_lay 112 = .ok (.getfield 47, 3) := by decide +kernel
theorem dX0_lay_115 : decode cX0_lay 115 = .ok (.iload 7, 2) := by decide +kernel
theorem dX0_lay_117 : decode cX0_lay 117 = .ok (.iadd, 1) := by decide +kernel
theorem dX0_lay_118 : decode cX0_lay 118 = .ok (.putfield 47, 3) := by decide +kernel
theorem dX0_lay_121 : decode cX0_lay 121 = .ok (.aload_n 0, 1) := by decide +kernel
theorem dX0_lay_122 : decode cX0_lay 122 = .ok (.dup, 1) := by decide +kernel
theorem dX0_lay_123 : decode cX0_lay 123 = .ok (.getfield 27, 3) := by decide +kernel
theorem dX0_lay_126 : decode cX0_lay 126 = .ok (.iconst 1, 1) := by decide +kernel
theorem dX0_lay_127 : decode cX0_lay 127 = .ok (.iadd, 1) := by decide +kernel
theorem dX0_lay_128 : decode cX0_lay 128 = .ok (.putfield 27, 3) := by decide +kernel
theorem dX0_lay_131 : decode cX0_lay 131 = .ok (.aload_n 0, 1) := by decide +kernel
theorem dX0_lay_132 : decode cX0_lay 132 = .ok (.iconst 0, 1) := by decide +kernel
theorem dX0_lay_133 : decode cX0_lay 133 = .ok (.putfield 34, 3) := by decide +kernel
theorem dX0_lay_136 : decode cX0_lay 136 = .ok (.aload_n 0, 1) := by decide +kernel
theorem dX0_lay_137 : decode cX0_lay 137 = .ok (.invokevirtual 50, 3) := by decide +kernel
theorem dX0_lay_140 : decode cX0_lay 140 = .ok (.iload 7, 2) := by decide +kernel
theorem dX0_lay_142 : decode cX0_lay 142 = .ok (.ireturn, 1) := by decide +kernel
theorem dX1_init_0 : decode cX1_init 0 = .ok (.aload_n 0, 1) := by decide +kernel
theorem dX1_init_1 : decode cX1_init 1 = .ok (.invokespecial 3, 3) := by decide +kernel
theorem dX1_init_4 : decode cX1_init 4 = .ok (.aload_n 0, 1) := by decide +kernel
theorem dX1_init_5 : decode cX1_init 5 = .ok (.bipush 120, 2) := by decide +kernel
theorem dX1_init_7 : decode cX1_init 7 = .ok (.newarray .char, 2) := by decide +kernel
theorem dX1_init_9 : decode cX1_init 9 = .ok (.putfield 9, 3) := by decide +kernel
theorem dX1_init_12 : decode cX1_init 12 = .ok (.return_, 1) := by decide +kernel
theorem dX1_isFull_0 : decode cX1_isFull 0 = .ok (.aload_n 0, 1) := by decide +kernel
theorem dX1_isFull_1 : decode cX1_isFull 1 = .ok (.getfield 15, 3) := by decide +kernel
theorem dX1_isFull_4 : decode cX1_isFull 4 = .ok (.bipush 120, 2) := by decide +kernel
theorem dX1_isFull_6 : decode cX1_isFull 6 = .ok (.if_icmp .lt 7, 3) := by decide +kernel
theorem dX1_isFull_9 : decode cX1_isFull 9 = .ok (.iconst 1, 1) := by decide +kernel
theorem dX1_isFull_10 : decode cX1_isFull 10 = .ok (.goto 4, 3) := by decide +kernel
theorem dX1_isFull_13 : decode cX1_isFull 13 = .ok (.iconst 0, 1) := by decide +kernel
theorem dX1_isFull_14 : decode cX1_isFull 14 = .ok (.ireturn, 1) := by decide +kernel
theorem dX1_add_0 : decode cX1_add 0 = .ok (.aload_n 0, 1) := by decide +kernel
theorem dX1_add_1 : decode cX1_add 1 = .ok (.getfield 15, 3) := by decide +kernel
theorem dX1_add_4 : decode cX1_add 4 = .ok (.ifCond .lt 35, 3) := by decide +kernel
theorem dX1_add_7 : decode cX1_add 7 = .ok (.aload_n 0, 1) := by decide +kernel
theorem dX1_add_8 : decode cX1_add 8 = .ok (.getfield 15, 3) := by decide +kernel
theorem dX1_add_11 : decode cX1_add 11 = .ok (.aload_n 0, 1) := by decide +kernel
theorem dX1_add_12 : decode cX1_add 12 = .ok (.getfield 9, 3) := by decide +kernel
theorem dX1_add_15 : decode cX1_add 15 = .ok (.arraylength, 1) := by decide +kernel
theorem dX1_add_16 : decode cX1_add 16 = .ok (.if_icmp .ge 23, 3) := by decide +kernel
theorem dX1_add_19 : decode cX1_add 19 = .ok (.aload_n 0, 1) := by decide +kernel
theorem dX1_add_20 : decode cX1_add 20 = .ok (.getfield 9, 3) := by decide +kernel
theorem dX1_add_23 : decode cX1_add 23 = .ok (.aload_n 0, 1) := by decide +kernel
theorem dX1_add_24 : decode cX1_add 24 = .ok (.getfield 15, 3) := by decide +kernel
theorem dX1_add_27 : decode cX1_add 27 = .ok (.iload_n 1, 1) := by decide +kernel
theorem dX1_add_28 : decode cX1_add 28 = .ok (.castore, 1) := by decide +kernel
theorem dX1_add_29 : decode cX1_add 29 = .ok (.aload_n 0, 1) := by decide +kernel
theorem dX1_add_30 : decode cX1_add 30 = .ok (.dup, 1) := by decide +kernel
theorem dX1_add_31 : decode cX1_add 31 = .ok (.getfield 15, 3) := by decide +kernel
theorem dX1_add_34 : decode cX1_add 34 = .ok (.iconst 1, 1) := by decide +kernel
theorem dX1_add_35 : decode cX1_add 35 = .ok (.iadd, 1) := by decide +kernel
theorem dX1_add_36 : decode cX1_add 36 = .ok (.putfield 15, 3) := by decide +kernel
theorem dX1_add_39 : decode cX1_add 39 = .ok (.aload_n 0, 1) := by decide +kernel
theorem dX1_add_40 : decode cX1_add 40 = .ok (.getfield 15, 3) := by decide +kernel
theorem dX1_add_43 : decode cX1_add 43 = .ok (.ireturn, 1) := by decide +kernel
theorem dX1_at_0 : decode cX1_at 0 = .ok (.iload_n 1, 1) := by decide +kernel
theorem dX1_at_1 : decode cX1_at 1 = .ok (.ifCond .lt 20, 3) := by decide +kernel
theorem dX1_at_4 : decode cX1_at 4 = .ok (.iload_n 1, 1) := by decide +kernel
theorem dX1_at_5 : decode cX1_at 5 = .ok (.aload_n 0, 1) := by decide +kernel
theorem dX1_at_6 : decode cX1_at 6 = .ok (.getfield 15, 3) := by decide +kernel
theorem dX1_at_9 : decode cX1_at 9 = .ok (.if_icmp .ge 12, 3) := by decide +kernel
theorem dX1_at_12 : decode cX1_at 12 = .ok (.iload_n 1, 1) := by decide +kernel
theorem dX1_at_13 : decode cX1_at 13 = .ok (.aload_n 0, 1) := by decide +kernel
theorem dX1_at_14 : decode cX1_at 14 = .ok (.getfield 9, 3) := by decide +kernel
theorem dX1_at_17 : decode cX1_at 17 = .ok (.arraylength, 1) := by decide +kernel
theorem dX1_at_18 : decode cX1_at 18 = .ok (.if_icmp .lt 5, 3) := by decide +kernel
theorem dX1_at_21 : decode cX1_at 21 = .ok (.iconst (-1), 1) := by decide +kernel
theorem dX1_at_22 : decode cX1_at 22 = .ok (.ireturn, 1) := by decide +kernel
theorem dX1_at_23 : decode cX1_at 23 = .ok (.aload_n 0, 1) := by decide +kernel
theorem dX1_at_24 : decode cX1_at 24 = .ok (.getfield 9, 3) := by decide +kernel
theorem dX1_at_27 : decode cX1_at 27 = .ok (.iload_n 1, 1) := by decide +kernel
theorem dX1_at_28 : decode cX1_at 28 = .ok (.caload, 1) := by decide +kernel
theorem dX1_at_29 : decode cX1_at 29 = .ok (.ireturn, 1) := by decide +kernel
theorem dX1_firstError_0 : decode cX1_firstError 0 = .ok (.aload_n 0, 1) := by decide +kernel
theorem dX1_firstError_1 : decode cX1_firstError 1 = .ok (.iconst 0, 1) := by decide +kernel
theorem dX1_firstError_2 : decode cX1_firstError 2 = .ok (.invokevirtual 19, 3) := by decide +kernel
theorem dX1_firstError_5 : decode cX1_firstError 5 = .ok (.bipush 66, 2) := by decide +kernel
theorem dX1_firstError_7 : decode cX1_firstError 7 = .ok (.if_icmp .eq 5, 3) := by decide +kernel
theorem dX1_firstError_10 : decode cX1_firstError 10 = .ok (.iconst 0, 1) := by decide +kernel
theorem dX1_firstError_11 : decode cX1_firstError 11 = .ok (.ireturn, 1) := by decide +kernel
theorem dX1_firstError_12 : decode cX1_firstError 12 = .ok (.aload_n 0, 1) := by decide +kernel
theorem dX1_firstError_13 : decode cX1_firstError 13 = .ok (.iconst 1, 1) := by decide +kernel
theorem dX1_firstError_14 : decode cX1_firstError 14 = .ok (.invokevirtual 19, 3) := by decide +kernel
theorem dX1_firstError_17 : decode cX1_firstError 17 = .ok (.bipush 51, 2) := by decide +kernel
theorem dX1_firstError_19 : decode cX1_firstError 19 = .ok (.if_icmp .lt 13, 3) := by decide +kernel
theorem dX1_firstError_22 : decode cX1_firstError 22 = .ok (.aload_n 0, 1) := by decide +kernel
theorem dX1_firstError_23 : decode cX1_firstError 23 = .ok (.iconst 1, 1) := by decide +kernel
theorem dX1_firstError_24 : decode cX1_firstError 24 = .ok (.invokevirtual 19, 3) := by decide +kernel
theorem dX1_firstError_27 : decode cX1_firstError 27 = .ok (.bipush 55, 2) := by decide +kernel
theorem dX1_firstError_29 : decode cX1_firstError 29 = .ok (.if_icmp .le 5, 3) := by decide +kernel
theorem dX1_firstError_32 : decode cX1_firstError 32 = .ok (.iconst 1, 1) := by decide +kernel
theorem dX1_firstError_33 : decode cX1_firstError 33 = .ok (.ireturn, 1) := by decide +kernel
theorem dX1_firstError_34 : decode cX1_firstError 34 = .ok (.aload_n 0, 1) := by decide +kernel
theorem dX1_firstError_35 : decode cX1_firstError 35 = .ok (.invokevirtual 23, 3) := by decide +kernel
theorem dX1_firstError_38 : decode cX1_firstError 38 = .ok (.istore_n 1, 1) := by decide +kernel
theorem dX1_firstError_39 : decode cX1_firstError 39 = .ok (.iload_n 1, 1) := by decide +kernel
theorem dX1_firstError_40 : decode cX1_firstError 40 = .ok (.aload_n 0, 1) := by decide +kernel
theorem dX1_firstError_41 : decode cX1_firstError 41 = .ok (.getfield 15, 3) := by decide +kernel
theorem dX1_firstError_44 : decode cX1_firstError 44 = .ok (.if_icmp .ge 84, 3) := by decide +kernel
theorem dX1_firstError_47 : decode cX1_firstError 47 = .ok (.aload_n 0, 1) := by decide +kernel
theorem dX1_firstError_48 : decode cX1_firstError 48 = .ok (.iload_n 1, 1) := by decide +kernel
theorem dX1_firstError_49 : decode cX1_firstError 49 = .ok (.invokevirtual 27, 3) := by decide +kernel
theorem dX1_firstError_52 : decode cX1_firstError 52 = .ok (.ifCond .eq 6, 3) := by decide +kernel
theorem dX1_firstError_55 : decode cX1_firstError 55 = .ok (.goto 67, 3) := by decide +kernel
theorem dX1_firstError_58 : decode cX1_firstError 58 = .ok (.aload_n 0, 1) := by decide +kernel
theorem dX1_firstError_59 : decode cX1_firstError 59 = .ok (.iload_n 1, 1) := by decide +kernel
theorem dX1_firstError_60 : decode cX1_firstError 60 = .ok (.invokevirtual 19, 3) := by decide +kernel
theorem dX1_firstError_63 : decode cX1_firstError 63 = .ok (.bipush 48, 2) := by decide +kernel
theorem dX1_firstError_65 : decode cX1_firstError 65 = .ok (.if_icmp .lt 13, 3) := by decide +kernel
theorem dX1_firstError_68 : decode cX1_firstError 68 = .ok (.aload_n 0, 1) := by decide +kernel
theorem dX1_firstError_69 : decode cX1_firstError 69 = .ok (.iload_n 1, 1) := by decide +kernel
theorem dX1_firstError_70 : decode cX1_firstError 70 = .ok (.invokevirtual 19, 3) := by decide +kernel
theorem dX1_firstError_73 : decode cX1_firstError 73 = .ok (.bipush 52, 2) := by decide +kernel
theorem dX1_firstError_75 : decode cX1_firstError 75 = .ok (.if_icmp .le 5, 3) := by decide +kernel
theorem dX1_firstError_78 : decode cX1_firstError 78 = .ok (.iload_n 1, 1) := by decide +kernel
theorem dX1_firstError_79 : decode cX1_firstError 79 = .ok (.ireturn, 1) := by decide +kernel
theorem dX1_firstError_80 : decode cX1_firstError 80 = .ok (.aload_n 0, 1) := by decide +kernel
theorem dX1_firstError_81 : decode cX1_firstError 81 = .ok (.iload_n 1, 1) := by decide +kernel
theorem dX1_firstError_82 : decode cX1_firstError 82 = .ok (.invokevirtual 19, 3) := by decide +kernel
theorem dX1_firstError_85 : decode cX1_firstError 85 = .ok (.bipush 52, 2) := by decide +kernel
theorem dX1_firstError_87 : decode cX1_firstError 87 = .ok (.if_icmp .ne 8, 3) := by decide +kernel
theorem dX1_firstError_90 : decode cX1_firstError 90 = .ok (.bipush 56, 2) := by decide +kernel
theorem dX1_firstError_92 : decode cX1_firstError 92 = .ok (.goto 5, 3) := by decide +kernel
theorem dX1_firstError_95 : decode cX1_firstError 95 = .ok (.bipush 57, 2) := by decide +kernel
theorem dX1_firstError_97 : decode cX1_firstError 97 = .ok (.istore_n 2, 1) := by decide +kernel
theorem dX1_firstError_98 : decode cX1_firstError 98 = .ok (.iinc 1 1, 3) := by decide +kernel
theorem dX1_firstError_101 : decode cX1_firstError 101 = .ok (.aload_n 0, 1) := by decide +kernel
theorem dX1_firstError_102 : decode cX1_firstError 102 = .ok (.iload_n 1, 1) := by decide +kernel
theorem dX1_firstError_103 : decode cX1_firstError 103 = .ok (.invokevirtual 19, 3) := by decide +kernel
theorem dX1_firstError_106 : decode cX1_firstError 106 = .ok (.bipush 48, 2) := by decide +kernel
theorem dX1_firstError_108 : decode cX1_firstError 108 = .ok (.if_icmp .lt 12, 3) := by decide +kernel
theorem dX1_firstError_111 : decode cX1_firstError 111 = .ok (.aload_n 0, 1) := by decide +kernel
theorem dX1_firstError_112 : decode cX1_firstError 112 = .ok (.iload_n 1, 1) := by decide +kernel
theorem dX1_firstError_113 : decode cX1_firstError 113 = .ok (.invokevirtual 19, 3) := by decide +kernel
theorem dX1_firstError_116 : decode cX1_firstError 116 = .ok (.iload_n 2, 1) := by decide +kernel
theorem dX1_firstError_117 : decode cX1_firstError 117 = .ok (.if_icmp .le 5, 3) := by decide +kernel
theorem dX1_firstError_120 : decode cX1_firstError 120 = .ok (.iload_n 1, 1) := by decide +kernel
theorem dX1_firstError_121 : decode cX1_firstError 121 = .ok (.ireturn, 1) := by decide +kernel
theorem dX1_firstError_122 : decode cX1_firstError 122 = .ok (.iinc 1 1, 3) := by decide +kernel
theorem dX1_firstError_125 : decode cX1_firstError 125 = .ok (.goto (-86), 3) := by decide +kernel
theorem dX1_firstError_128 : decode cX1_firstError 128 = .ok (.iconst (-1), 1) := by decide +kernel
theorem dX1_firstError_129 : decode cX1_firstError 129 = .ok (.ireturn, 1) := by decide +kernel
theorem dX1_rows_0 : decode cX1_rows 0 = .ok (.aload_n 0, 1) := by decide +kernel
theorem dX1_rows_1 : decode cX1_rows 1 = .ok (.iconst 1, 1) := by decide +kernel
theorem dX1_rows_2 : decode cX1_rows 2 = .ok (.invokevirtual 19, 3) := by decide +kernel
theorem dX1_rows_5 : decode cX1_rows 5 = .ok (.bipush 48, 2) := by decide +kernel
theorem dX1_rows_7 : decode cX1_rows 7 = .ok (.isub, 1) := by decide +kernel
theorem dX1_rows_8 : decode cX1_rows 8 = .ok (.ireturn, 1) := by decide +kernel
theorem dX1_setting_0 : decode cX1_setting 0 = .ok (.aload_n 0, 1) := by decide +kernel
theorem dX1_setting_1 : decode cX1_setting 1 = .ok (.iconst 2, 1) := by decide +kernel
theorem dX1_setting_2 : decode cX1_setting 2 = .ok (.invokevirtual 19, 3) := by decide +kernel
theorem dX1_setting_5 : decode cX1_setting 5 = .ok (.bipush 115, 2) := by decide +kernel
theorem dX1_setting_7 : decode cX1_setting 7 = .ok (.if_icmp .ne 7, 3) := by decide +kernel
theorem dX1_setting_10 : decode cX1_setting 10 = .ok (.iconst 1, 1) := by decide +kernel
theorem dX1_setting_11 : decode cX1_setting 11 = .ok (.goto 4, 3) := by decide +kernel
theorem dX1_setting_14 : decode cX1_setting 14 = .ok (.iconst 0, 1) := by decide +kernel
theorem dX1_setting_15 : decode cX1_setting 15 = .ok (.ireturn, 1) := by decide +kernel
theorem dX1_firstMove_0 : decode cX1_firstMove 0 = .ok (.aload_n 0, 1) := by decide +kernel
theorem dX1_firstMove_1 : decode cX1_firstMove 1 = .ok (.iconst 2, 1) := by decide +kernel
theorem dX1_firstMove_2 : decode cX1_firstMove 2 = .ok (.invokevirtual 19, 3) := by decide +kernel
theorem dX1_firstMove_5 : decode cX1_firstMove 5 = .ok (.bipush 115, 2) := by decide +kernel
theorem dX1_firstMove_7 : decode cX1_firstMove 7 = .ok (.if_icmp .ne 7, 3) := by decide +kernel
theorem dX1_firstMove_10 : decode cX1_firstMove 10 = .ok (.iconst 3, 1) := by decide +kernel
theorem dX1_firstMove_11 : decode cX1_firstMove 11 = .ok (.goto 4, 3) := by decide +kernel
theorem dX1_firstMove_14 : decode cX1_firstMove 14 = .ok (.iconst 2, 1) := by decide +kernel
theorem dX1_firstMove_15 : decode cX1_firstMove 15 = .ok (.ireturn, 1) := by decide +kernel
theorem dX1_isPassAt_0 : decode cX1_isPassAt 0 = .ok (.aload_n 0, 1) := by decide +kernel
theorem dX1_isPassAt_1 : decode cX1_isPassAt 1 = .ok (.iload_n 1, 1) := by decide +kernel
theorem dX1_isPassAt_2 : decode cX1_isPassAt 2 = .ok (.invokevirtual 19, 3) := by decide +kernel
theorem dX1_isPassAt_5 : decode cX1_isPassAt 5 = .ok (.bipush 112, 2) := by decide +kernel
theorem dX1_isPassAt_7 : decode cX1_isPassAt 7 = .ok (.if_icmp .ne 7, 3) := by decide +kernel
theorem dX1_isPassAt_10 : decode cX1_isPassAt 10 = .ok (.iconst 1, 1) := by decide +kernel
theorem dX1_isPassAt_11 : decode cX1_isPassAt 11 = .ok (.goto 4, 3) := by decide +kernel
theorem dX1_isPassAt_14 : decode cX1_isPassAt 14 = .ok (.iconst 0, 1) := by decide +kernel
theorem dX1_isPassAt_15 : decode cX1_isPassAt 15 = .ok (.ireturn, 1) := by decide +kernel
theorem dX1_pointAt_0 : decode cX1_pointAt 0 = .ok (.bipush 10, 2) := by decide +kernel
theorem dX1_pointAt_2 : decode cX1_pointAt 2 = .ok (.aload_n 0, 1) := by decide +kernel
theorem dX1_pointAt_3 : decode cX1_pointAt 3 = .ok (.iload_n 1, 1) := by decide +kernel
theorem dX1_pointAt_4 : decode cX1_pointAt 4 = .ok (.invokevirtual 19, 3) := by decide +kernel
theorem dX1_pointAt_7 : decode cX1_pointAt 7 = .ok (.bipush 48, 2) := by decide +kernel
theorem dX1_pointAt_9 : decode cX1_pointAt 9 = .ok (.isub, 1) := by decide +kernel
theorem dX1_pointAt_10 : decode cX1_pointAt 10 = .ok (.imul, 1) := by decide +kernel
theorem dX1_pointAt_11 : decode cX1_pointAt 11 = .ok (.aload_n 0, 1) := by decide +kernel
theorem dX1_pointAt_12 : decode cX1_pointAt 12 = .ok (.iload_n 1, 1) := by decide +kernel
theorem dX1_pointAt_13 : decode cX1_pointAt 13 = .ok (.iconst 1, 1) := by decide +kernel
theorem dX1_pointAt_14 : decode cX1_pointAt 14 = .ok (.iadd, 1) := by decide +kernel
theorem dX1_pointAt_15 : decode cX1_pointAt 15 = .ok (.invokevirtual 19, 3) := by decide +kernel
theorem dX1_pointAt_18 : decode cX1_pointAt 18 = .ok (.iadd, 1) := by decide +kernel
theorem dX1_pointAt_19 : decode cX1_pointAt 19 = .ok (.bipush 48, 2) := by decide +kernel
theorem dX1_pointAt_21 : decode cX1_pointAt 21 = .ok (.isub, 1) := by decide +kernel
theorem dX1_pointAt_22 : decode cX1_pointAt 22 = .ok (.ireturn, 1) := by decide +kernel
theorem dX2_init_0 : decode cX2_init 0 = .ok (.aload_n 0, 1) := by decide +kernel
theorem dX2_init_1 : decode cX2_init 1 = .ok (.invokespecial 3, 3) := by decide +kernel
theorem dX2_init_4 : decode cX2_init 4 = .ok (.lconst 0, 1) := by decide +kernel
theorem dX2_init_5 : decode cX2_init 5 = .ok (.lstore_n 2, 1) := by decide +kernel
theorem dX2_init_6 : decode cX2_init 6 = .ok (.iconst 0, 1) := by decide +kernel
theorem dX2_init_7 : decode cX2_init 7 = .ok (.istore 4, 2) := by decide +kernel
theorem dX2_init_9 : decode cX2_init 9 = .ok (.iload 4, 2) := by decide +kernel
theorem dX2_init_11 : decode cX2_init 11 = .ok (.iload_n 1, 1) := by decide +kernel
theorem dX2_init_12 : decode cX2_init 12 = .ok (.if_icmp .ge 25, 3) := by decide +kernel
theorem dX2_init_15 : decode cX2_init 15 = .ok (.iload 4, 2) := by decide +kernel
theorem dX2_init_17 : decode cX2_init 17 = .ok (.bipush 7, 2) := by decide +kernel
theorem dX2_init_19 : decode cX2_init 19 = .ok (.if_icmp .ge 18, 3) := by decide +kernel
theorem dX2_init_22 : decode cX2_init 22 = .ok (.lload_n 2, 1) := by decide +kernel
theorem dX2_init_23 : decode cX2_init 23 = .ok (.lconst 1, 1) := by decide +kernel
theorem dX2_init_24 : decode cX2_init 24 = .ok (.iload 4, 2) := by decide +kernel
theorem dX2_init_26 : decode cX2_init 26 = .ok (.iload_n 1, 1) := by decide +kernel
theorem dX2_init_27 : decode cX2_init 27 = .ok (.imul, 1) := by decide +kernel
theorem dX2_init_28 : decode cX2_init 28 = .ok (.lshl, 1) := by decide +kernel
theorem dX2_init_29 : decode cX2_init 29 = .ok (.lor, 1) := by decide +kernel
theorem dX2_init_30 : decode cX2_init 30 = .ok (.lstore_n 2, 1) := by decide +kernel
theorem dX2_init_31 : decode cX2_init 31 = .ok (.iinc 4 1, 3) := by decide +kernel
theorem dX2_init_34 : decode cX2_init 34 = .ok (.goto (-25), 3) := by decide +kernel
theorem dX2_init_37 : decode cX2_init 37 = .ok (.aload_n 0, 1) := by decide +kernel
theorem dX2_init_38 : decode cX2_init 38 = .ok (.iload_n 1, 1) := by decide +kernel
theorem dX2_init_39 : decode cX2_init 39 = .ok (.putfield 9, 3) := by decide +kernel
theorem dX2_init_42 : decode cX2_init 42 = .ok (.aload_n 0, 1) := by decide +kernel
theorem dX2_init_43 : decode cX2_init 43 = .ok (.iload_n 1, 1) := by decide +kernel
theorem dX2_init_44 : decode cX2_init 44 = .ok (.iload_n 1, 1) := by decide +kernel
theorem dX2_init_45 : decode cX2_init 45 = .ok (.imul, 1) := by decide +kernel
theorem dX2_init_46 : decode cX2_init 46 = .ok (.putfield 15, 3) := by decide +kernel
theorem dX2_init_49 : decode cX2_init 49 = .ok (.aload_n 0, 1) := by decide +kernel
theorem dX2_init_50 : decode cX2_init 50 = .ok (.lconst 1, 1) := by decide +kernel
theorem dX2_init_51 : decode cX2_init 51 = .ok (.iload_n 1, 1) := by decide +kernel
theorem dX2_init_52 : decode cX2_init 52 = .ok (.iload_n 1, 1) := by decide +kernel
theorem dX2_init_53 : decode cX2_init 53 = .ok (.imul, 1) := by decide +kernel
theorem dX2_init_54 : decode cX2_init 54 = .ok (.lshl, 1) := by decide +kernel
theorem dX2_init_55 : decode cX2_init 55 = .ok (.lconst 1, 1) := by decide +kernel
theorem dX2_init_56 : decode cX2_init 56 = .ok (.lsub, 1) := by decide +kernel
theorem dX2_init_57 : decode cX2_init 57 = .ok (.putfield 18, 3) := by decide +kernel
theorem dX2_init_60 : decode cX2_init 60 = .ok (.aload_n 0, 1) := by decide +kernel
theorem dX2_init_61 : decode cX2_init 61 = .ok (.aload_n 0, 1) := by decide +kernel
theorem dX2_init_62 : decode cX2_init 62 = .ok (.getfield 18, 3) := by decide +kernel
theorem dX2_init_65 : decode cX2_init 65 = .ok (.lload_n 2, 1) := by decide +kernel
theorem dX2_init_66 : decode cX2_init 66 = .ok (.ldc2_w 22, 3) := by decide +kernel
theorem dX2_init_69 : decode cX2_init 69 = .ok (.lxor, 1) := by decide +kernel
theorem dX2_init_70 : decode cX2_init 70 = .ok (.land, 1) := by decide +kernel
theorem dX2_init_71 : decode cX2_init 71 = .ok (.putfield 24, 3) := by decide +kernel
theorem dX2_init_74 : decode cX2_init 74 = .ok (.aload_n 0, 1) := by decide +kernel
theorem dX2_init_75 : decode cX2_init 75 = .ok (.aload_n 0, 1) := by decide +kernel
theorem dX2_init_76 : decode cX2_init 76 = .ok (.getfield 18, 3) := by decide +kernel
theorem dX2_init_79 : decode cX2_init 79 = .ok (.lload_n 2, 1) := by decide +kernel
theorem dX2_init_80 : decode cX2_init 80 = .ok (.iload_n 1, 1) := by decide +kernel
theorem dX2_init_81 : decode cX2_init 81 = .ok (.iconst 1, 1) := by decide +kernel
theorem dX2_init_82 : decode cX2_init 82 = .ok (.isub, 1) := by decide +kernel
theorem dX2_init_83 : decode cX2_init 83 = .ok (.lshl, 1) := by decide +kernel
theorem dX2_init_84 : decode cX2_init 84 = .ok (.ldc2_w 22, 3) := by decide +kernel
theorem dX2_init_87 : decode cX2_init 87 = .ok (.lxor, 1) := by decide +kernel
theorem dX2_init_88 : decode cX2_init 88 = .ok (.land, 1) := by decide +kernel
theorem dX2_init_89 : decode cX2_init 89 = .ok (.putfield 27, 3) := by decide +kernel
theorem dX2_init_92 : decode cX2_init 92 = .ok (.return_, 1) := by decide +kernel
theorem dX2_has_0 : decode cX2_has 0 = .ok (.iload_n 1, 1) := by decide +kernel
theorem dX2_has_1 : decode cX2_has 1 = .ok (.ifCond .lt 15, 3) := by decide +kernel
theorem dX2_has_4 : decode cX2_has 4 = .ok (.iload_n 1, 1) := by decide +kernel
theorem dX2_has_5 : decode cX2_has 5 = .ok (.aload_n 0, 1) := by decide +kernel
theorem dX2_has_6 : decode cX2_has 6 = .ok (.getfield 15, 3) := by decide +kernel
theorem dX2_has_9 : decode cX2_has 9 = .ok (.if_icmp .ge 7, 3) := by decide +kernel
theorem dX2_has_12 : decode cX2_has 12 = .ok (.iconst 1, 1) := by decide +kernel
theorem dX2_has_13 : decode cX2_has 13 = .ok (.goto 4, 3) := by decide +kernel
theorem dX2_has_16 : decode cX2_has 16 = .ok (.iconst 0, 1) := by decide +kernel
theorem dX2_has_17 : decode cX2_has 17 = .ok (.ireturn, 1) := by decide +kernel
theorem dX2_around_0 : decode cX2_around 0 = .ok (.lload_n 1, 1) := by decide +kernel
theorem dX2_around_1 : decode cX2_around 1 = .ok (.iconst 1, 1) := by decide +kernel
theorem dX2_around_2 : decode cX2_around 2 = .ok (.lshl, 1) := by decide +kernel
theorem dX2_around_3 : decode cX2_around 3 = .ok (.aload_n 0, 1) := by decide +kernel
theorem dX2_around_4 : decode cX2_around 4 = .ok (.getfield 24, 3) := by decide +kernel
theorem dX2_around_7 : decode cX2_around 7 = .ok (.land, 1) := by decide +kernel
theorem dX2_around_8 : decode cX2_around 8 = .ok (.lload_n 1, 1) := by decide +kernel
theorem dX2_around_9 : decode cX2_around 9 = .ok (.iconst 1, 1) := by decide +kernel
theorem dX2_around_10 : decode cX2_around 10 = .ok (.lushr, 1) := by decide +kernel
theorem dX2_around_11 : decode cX2_around 11 = .ok (.aload_n 0, 1) := by decide +kernel
theorem dX2_around_12 : decode cX2_around 12 = .ok (.getfield 27, 3) := by decide +kernel
theorem dX2_around_15 : decode cX2_around 15 = .ok (.land, 1) := by decide +kernel
theorem dX2_around_16 : decode cX2_around 16 = .ok (.lor, 1) := by decide +kernel
theorem dX2_around_17 : decode cX2_around 17 = .ok (.lload_n 1, 1) := by decide +kernel
theorem dX2_around_18 : decode cX2_around 18 = .ok (.aload_n 0, 1) := by decide +kernel
theorem dX2_around_19 : decode cX2_around 19 = .ok (.getfield 9, 3) := by decide +kernel
theorem dX2_around_22 : decode cX2_around 22 = .ok (.lshl, 1) := by decide +kernel
theorem dX2_around_23 : decode cX2_around 23 = .ok (.lload_n 1, 1) := by decide +kernel
theorem dX2_around_24 : decode cX2_around 24 = .ok (.aload_n 0, 1) := by decide +kernel
theorem dX2_around_25 : decode cX2_around 25 = .ok (.getfield 9, 3) := by decide +kernel
theorem dX2_around_28 : decode cX2_around 28 = .ok (.lushr, 1) := by decide +kernel
theorem dX2_around_29 : decode cX2_around 29 = .ok (.lor, 1) := by decide +kernel
theorem dX2_around_30 : decode cX2_around 30 = .ok (.aload_n 0, 1) := by decide +kernel
theorem dX2_around_31 : decode cX2_around 31 = .ok (.getfield 18, 3) := by decide +kernel
theorem dX2_around_34 : decode cX2_around 34 = .ok (.land, 1) := by decide +kernel
theorem dX2_around_35 : decode cX2_around 35 = .ok (.lor, 1) := by decide +kernel
theorem dX2_around_36 : decode cX2_around 36 = .ok (.lreturn, 1) := by decide +kernel
theorem dX2_across_0 : decode cX2_across 0 = .ok (.lload_n 1, 1) := by decide +kernel
theorem dX2_across_1 : decode cX2_across 1 = .ok (.aload_n 0, 1) := by decide +kernel
theorem dX2_across_2 : decode cX2_across 2 = .ok (.getfield 9, 3) := by decide +kernel
theorem dX2_across_5 : decode cX2_across 5 = .ok (.lshl, 1) := by decide +kernel
theorem dX2_across_6 : decode cX2_across 6 = .ok (.lload_n 1, 1) := by decide +kernel
theorem dX2_across_7 : decode cX2_across 7 = .ok (.aload_n 0, 1) := by decide +kernel
theorem dX2_across_8 : decode cX2_across 8 = .ok (.getfield 9, 3) := by decide +kernel
theorem dX2_across_11 : decode cX2_across 11 = .ok (.lushr, 1) := by decide +kernel
theorem dX2_across_12 : decode cX2_across 12 = .ok (.lor, 1) := by decide +kernel
theorem dX2_across_13 : decode cX2_across 13 = .ok (.aload_n 0, 1) := by decide +kernel
theorem dX2_across_14 : decode cX2_across 14 = .ok (.getfield 18, 3) := by decide +kernel
theorem dX2_across_17 : decode cX2_across 17 = .ok (.land, 1) := by decide +kernel
theorem dX2_across_18 : decode cX2_across 18 = .ok (.lstore_n 3, 1) := by decide +kernel
theorem dX2_across_19 : decode cX2_across 19 = .ok (.lload_n 3, 1) := by decide +kernel
theorem dX2_across_20 : decode cX2_across 20 = .ok (.iconst 1, 1) := by decide +kernel
theorem dX2_across_21 : decode cX2_across 21 = .ok (.lshl, 1) := by decide +kernel
theorem dX2_across_22 : decode cX2_across 22 = .ok (.aload_n 0, 1) := by decide +kernel
theorem dX2_across_23 : decode cX2_across 23 = .ok (.getfield 24, 3) := by decide +kernel
theorem dX2_across_26 : decode cX2_across 26 = .ok (.land, 1) := by decide +kernel
theorem dX2_across_27 : decode cX2_across 27 = .ok (.lload_n 3, 1) := by decide +kernel
theorem dX2_across_28 : decode cX2_across 28 = .ok (.iconst 1, 1) := by decide +kernel
theorem dX2_across_29 : decode cX2_across 29 = .ok (.lushr, 1) := by decide +kernel
theorem dX2_across_30 : decode cX2_across 30 = .ok (.aload_n 0, 1) := by decide +kernel
theorem dX2_across_31 : decode cX2_across 31 = .ok (.getfield 27, 3) := by decide +kernel
theorem dX2_across_34 : decode cX2_across 34 = .ok (.land, 1) := by decide +kernel
theorem dX2_across_35 : decode cX2_across 35 = .ok (.lor, 1) := by decide +kernel
theorem dX2_across_36 : decode cX2_across 36 = .ok (.lreturn, 1) := by decide +kernel
theorem dX2_connected_0 : decode cX2_connected 0 = .ok (.lload_n 3, 1) := by decide +kernel
theorem dX2_connected_1 : decode cX2_connected 1 = .ok (.lload_n 1, 1) := by decide +kernel
theorem dX2_connected_2 : decode cX2_connected 2 = .ok (.land, 1) := by decide +kernel
theorem dX2_connected_3 : decode cX2_connected 3 = .ok (.lstore 5, 2) := by decide +kernel
theorem dX2_connected_5 : decode cX2_connected 5 = .ok (.iconst 0, 1) := by decide +kernel
theorem dX2_connected_6 : decode cX2_connected 6 = .ok (.istore 7, 2) := by decide +kernel
theorem dX2_connected_8 : decode cX2_connected 8 = .ok (.iload 7, 2) := by decide +kernel
theorem dX2_connected_10 : decode cX2_connected 10 = .ok (.bipush 49, 2) := by decide +kernel
theorem dX2_connected_12 : decode cX2_connected 12 = .ok (.if_icmp .ge 37, 3) := by decide +kernel
theorem dX2_connected_15 : decode cX2_connected 15 = .ok (.lload 5, 2) := by decide +kernel
theorem dX2_connected_17 : decode cX2_connected 17 = .ok (.aload_n 0, 1) := by decide +kernel
theorem dX2_connected_18 : decode cX2_connected 18 = .ok (.lload 5, 2) := by decide +kernel
theorem dX2_connected_20 : decode cX2_connected 20 = .ok (.invokevirtual 30, 3) := by decide +kernel
theorem dX2_connected_23 : decode cX2_connected 23 = .ok (.lload_n 1, 1) := by decide +kernel
theorem dX2_connected_24 : decode cX2_connected 24 = .ok (.land, 1) := by decide +kernel
theorem dX2_connected_25 : decode cX2_connected 25 = .ok (.lor, 1) := by decide +kernel
theorem dX2_connected_26 : decode cX2_connected 26 = .ok (.lstore 8, 2) := by decide +kernel
theorem dX2_connected_28 : decode cX2_connected 28 = .ok (.lload 8, 2) := by decide +kernel
theorem dX2_connected_30 : decode cX2_connected 30 = .ok (.lload 5, 2) := by decide +kernel
theorem dX2_connected_32 : decode cX2_connected 32 = .ok (.lcmp, 1) := by decide +kernel
theorem dX2_connected_33 : decode cX2_connected 33 = .ok (.ifCond .ne 6, 3) := by decide +kernel
theorem dX2_connected_36 : decode cX2_connected 36 = .ok (.lload 5, 2) := by decide +kernel
theorem dX2_connected_38 : decode cX2_connected 38 = .ok (.lreturn, 1) := by decide +kernel
theorem dX2_connected_39 : decode cX2_connected 39 = .ok (.lload 8, 2) := by decide +kernel
theorem dX2_connected_41 : decode cX2_connected 41 = .ok (.lstore 5, 2) := by decide +kernel
theorem dX2_connected_43 : decode cX2_connected 43 = .ok (.iinc 7 1, 3) := by decide +kernel
theorem dX2_connected_46 : decode cX2_connected 46 = .ok (.goto (-38), 3) := by decide +kernel
theorem dX2_connected_49 : decode cX2_connected 49 = .ok (.lload 5, 2) := by decide +kernel
theorem dX2_connected_51 : decode cX2_connected 51 = .ok (.lreturn, 1) := by decide +kernel
theorem dX2_liberties_0 : decode cX2_liberties 0 = .ok (.aload_n 0, 1) := by decide +kernel
theorem dX2_liberties_1 : decode cX2_liberties 1 = .ok (.aload_n 0, 1) := by decide +kernel
theorem dX2_liberties_2 : decode cX2_liberties 2 = .ok (.lload_n 1, 1) := by decide +kernel
theorem dX2_liberties_3 : decode cX2_liberties 3 = .ok (.lload 5, 2) := by decide +kernel
theorem dX2_liberties_5 : decode cX2_liberties 5 = .ok (.invokevirtual 34, 3) := by decide +kernel
theorem dX2_liberties_8 : decode cX2_liberties 8 = .ok (.invokevirtual 30, 3) := by decide +kernel
theorem dX2_liberties_11 : decode cX2_liberties 11 = .ok (.aload_n 0, 1) := by decide +kernel
theorem dX2_liberties_12 : decode cX2_liberties 12 = .ok (.getfield 18, 3) := by decide +kernel
theorem dX2_liberties_15 : decode cX2_liberties 15 = .ok (.land, 1) := by decide +kernel
theorem dX2_liberties_16 : decode cX2_liberties 16 = .ok (.lload_n 1, 1) := by decide +kernel
theorem dX2_liberties_17 : decode cX2_liberties 17 = .ok (.lload_n 3, 1) := by decide +kernel
theorem dX2_liberties_18 : decode cX2_liberties 18 = .ok (.lor, 1) := by decide +kernel
theorem dX2_liberties_19 : decode cX2_liberties 19 = .ok (.ldc2_w 22, 3) := by decide +kernel
theorem dX2_liberties_22 : decode cX2_liberties 22 = .ok (.lxor, 1) := by decide +kernel
theorem dX2_liberties_23 : decode cX2_liberties 23 = .ok (.land, 1) := by decide +kernel
theorem dX2_liberties_24 : decode cX2_liberties 24 = .ok (.lreturn, 1) := by decide +kernel
theorem dX2_taken_0 : decode cX2_taken 0 = .ok (.aload_n 0, 1) := by decide +kernel
theorem dX2_taken_1 : decode cX2_taken 1 = .ok (.getfield 18, 3) := by decide +kernel
theorem dX2_taken_4 : decode cX2_taken 4 = .ok (.lload_n 1, 1) := by decide +kernel
theorem dX2_taken_5 : decode cX2_taken 5 = .ok (.lload_n 3, 1) := by decide +kernel
theorem dX2_taken_6 : decode cX2_taken 6 = .ok (.lor, 1) := by decide +kernel
theorem dX2_taken_7 : decode cX2_taken 7 = .ok (.lload 5, 2) := by decide +kernel
theorem dX2_taken_9 : decode cX2_taken 9 = .ok (.lor, 1) := by decide +kernel
theorem dX2_taken_10 : decode cX2_taken 10 = .ok (.ldc2_w 22, 3) := by decide +kernel
theorem dX2_taken_13 : decode cX2_taken 13 = .ok (.lxor, 1) := by decide +kernel
theorem dX2_taken_14 : decode cX2_taken 14 = .ok (.land, 1) := by decide +kernel
theorem dX2_taken_15 : decode cX2_taken 15 = .ok (.lstore 7, 2) := by decide +kernel
theorem dX2_taken_17 : decode cX2_taken 17 = .ok (.lload_n 3, 1) := by decide +kernel
theorem dX2_taken_18 : decode cX2_taken 18 = .ok (.aload_n 0, 1) := by decide +kernel
theorem dX2_taken_19 : decode cX2_taken 19 = .ok (.lload_n 3, 1) := by decide +kernel
theorem dX2_taken_20 : decode cX2_taken 20 = .ok (.aload_n 0, 1) := by decide +kernel
theorem dX2_taken_21 : decode cX2_taken 21 = .ok (.lload 7, 2) := by decide +kernel
theorem dX2_taken_23 : decode cX2_taken 23 = .ok (.invokevirtual 30, 3) := by decide +kernel
theorem dX2_taken_26 : decode cX2_taken 26 = .ok (.invokevirtual 34, 3) := by decide +kernel
theorem dX2_taken_29 : decode cX2_taken 29 = .ok (.ldc2_w 22, 3) := by decide +kernel
theorem dX2_taken_32 : decode cX2_taken 32 = .ok (.lxor, 1) := by decide +kernel
theorem dX2_taken_33 : decode cX2_taken 33 = .ok (.land, 1) := by decide +kernel
theorem dX2_taken_34 : decode cX2_taken 34 = .ok (.lreturn, 1) := by decide +kernel
theorem dX2_groups_0 : decode cX2_groups 0 = .ok (.iconst 0, 1) := by decide +kernel
theorem dX2_groups_1 : decode cX2_groups 1 = .ok (.istore_n 3, 1) := by decide +kernel
theorem dX2_groups_2 : decode cX2_groups 2 = .ok (.lload_n 1, 1) := by decide +kernel
theorem dX2_groups_3 : decode cX2_groups 3 = .ok (.lstore 4, 2) := by decide +kernel
theorem dX2_groups_5 : decode cX2_groups 5 = .ok (.iconst 0, 1) := by decide +kernel
theorem dX2_groups_6 : decode cX2_groups 6 = .ok (.istore 6, 2) := by decide +kernel
theorem dX2_groups_8 : decode cX2_groups 8 = .ok (.iload 6, 2) := by decide +kernel
theorem dX2_groups_10 : decode cX2_groups 10 = .ok (.bipush 49, 2) := by decide +kernel
theorem dX2_groups_12 : decode cX2_groups 12 = .ok (.if_icmp .ge 39, 3) := by decide +kernel
theorem dX2_groups_15 : decode cX2_groups 15 = .ok (.lload 4, 2) := by decide +kernel
theorem dX2_groups_17 : decode cX2_groups 17 = .ok (.lconst 0, 1) := by decide +kernel
theorem dX2_groups_18 : decode cX2_groups 18 = .ok (.lcmp, 1) := by decide +kernel
theorem dX2_groups_19 : decode cX2_groups 19 = .ok (.ifCond .eq 32, 3) := by decide +kernel
theorem dX2_groups_22 : decode cX2_groups 22 = .ok (.lload 4, 2) := by decide +kernel
theorem dX2_groups_24 : decode cX2_groups 24 = .ok (.aload_n 0, 1) := by decide +kernel
theorem dX2_groups_25 : decode cX2_groups 25 = .ok (.lload_n 1, 1) := by decide +kernel
theorem dX2_groups_26 : decode cX2_groups 26 = .ok (.lload 4, 2) := by decide +kernel
theorem dX2_groups_28 : decode cX2_groups 28 = .ok (.lload 4, 2) := by decide +kernel
theorem dX2_groups_30 : decode cX2_groups 30 = .ok (.lneg, 1) := by decide +kernel
theorem dX2_groups_31 : decode cX2_groups 31 = .ok (.land, 1) := by decide +kernel
theorem dX2_groups_32 : decode cX2_groups 32 = .ok (.invokevirtual 34, 3) := by decide +kernel
theorem dX2_groups_35 : decode cX2_groups 35 = .ok (.ldc2_w 22, 3) := by decide +kernel
theorem dX2_groups_38 : decode cX2_groups 38 = .ok (.lxor, 1) := by decide +kernel
theorem dX2_groups_39 : decode cX2_groups 39 = .ok (.land, 1) := by decide +kernel
theorem dX2_groups_40 : decode cX2_groups 40 = .ok (.lstore 4, 2) := by decide +kernel
theorem dX2_groups_42 : decode cX2_groups 42 = .ok (.iinc 3 1, 3) := by decide +kernel
theorem dX2_groups_45 : decode cX2_groups 45 = .ok (.iinc 6 1, 3) := by decide +kernel
theorem dX2_groups_48 : decode cX2_groups 48 = .ok (.goto (-40), 3) := by decide +kernel
theorem dX2_groups_51 : decode cX2_groups 51 = .ok (.iload_n 3, 1) := by decide +kernel
theorem dX2_groups_52 : decode cX2_groups 52 = .ok (.ireturn, 1) := by decide +kernel
theorem dX2_groupsWithOneLiberty_0 : decode cX2_groupsWithOneLiberty 0 = .ok (.iconst 0, 1) := by decide +kernel
theorem dX2_groupsWithOneLiberty_1 : decode cX2_groupsWithOneLiberty 1 = .ok (.istore 5, 2) := by decide +kernel
theorem dX2_groupsWithOneLiberty_3 : decode cX2_groupsWithOneLiberty 3 = .ok (.lload_n 1, 1) := by decide +kernel
theorem dX2_groupsWithOneLiberty_4 : decode cX2_groupsWithOneLiberty 4 = .ok (.lstore 6, 2) := by decide +kernel
theorem dX2_groupsWithOneLiberty_6 : decode cX2_groupsWithOneLiberty 6 = .ok (.iconst 0, 1) := by decide +kernel
theorem dX2_groupsWithOneLiberty_7 : decode cX2_groupsWithOneLiberty 7 = .ok (.istore 8, 2) := by decide +kernel
theorem dX2_groupsWithOneLiberty_9 : decode cX2_groupsWithOneLiberty 9 = .ok (.iload 8, 2) := by decide +kernel
theorem dX2_groupsWithOneLiberty_11 : decode cX2_groupsWithOneLiberty 11 = .ok (.bipush 49, 2) := by decide +kernel
theorem dX2_groupsWithOneLiberty_13 : decode cX2_groupsWithOneLiberty 13 = .ok (.if_icmp .ge 58, 3) := by decide +kernel
theorem dX2_groupsWithOneLiberty_16 : decode cX2_groupsWithOneLiberty 16 = .ok (.lload 6, 2) := by decide +kernel
theorem dX2_groupsWithOneLiberty_18 : decode cX2_groupsWithOneLiberty 18 = .ok (.lconst 0, 1) := by decide +kernel
theorem dX2_groupsWithOneLiberty_19 : decode cX2_groupsWithOneLiberty 19 = .ok (.lcmp, 1) := by decide +kernel
theorem dX2_groupsWithOneLiberty_20 : decode cX2_groupsWithOneLiberty 20 = .ok (.ifCond .eq 51, 3) := by decide +kernel
theorem dX2_groupsWithOneLiberty_23 : decode cX2_groupsWithOneLiberty 23 = .ok (.lload 6, 2) := by decide +kernel
theorem dX2_groupsWithOneLiberty_25 : decode cX2_groupsWithOneLiberty 25 = .ok (.lload 6, 2) := by decide +kernel
theorem dX2_groupsWithOneLiberty_27 : decode cX2_groupsWithOneLiberty 27 = .ok (.lneg, 1) := by decide +kernel
theorem dX2_groupsWithOneLiberty_28 : decode cX2_groupsWithOneLiberty 28 = .ok (.land, 1) := by decide +kernel
theorem dX2_groupsWithOneLiberty_29 : decode cX2_groupsWithOneLiberty 29 = .ok (.lstore 9, 2) := by decide +kernel
theorem dX2_groupsWithOneLiberty_31 : decode cX2_groupsWithOneLiberty 31 = .ok (.aload_n 0, 1) := by decide +kernel
theorem dX2_groupsWithOneLiberty_32 : decode cX2_groupsWithOneLiberty 32 = .ok (.lload_n 1, 1) := by decide +kernel
theorem dX2_groupsWithOneLiberty_33 : decode cX2_groupsWithOneLiberty 33 = .ok (.lload_n 3, 1) := by decide +kernel
theorem dX2_groupsWithOneLiberty_34 : decode cX2_groupsWithOneLiberty 34 = .ok (.lload 9, 2) := by decide +kernel
theorem dX2_groupsWithOneLiberty_36 : decode cX2_groupsWithOneLiberty 36 = .ok (.invokevirtual 38, 3) := by decide +kernel
theorem dX2_groupsWithOneLiberty_39 : decode cX2_groupsWithOneLiberty 39 = .ok (.invokestatic 42, 3) := by decide +kernel
theorem dX2_groupsWithOneLiberty_42 : decode cX2_groupsWithOneLiberty 42 = .ok (.iconst 1, 1) := by decide +kernel
theorem dX2_groupsWithOneLiberty_43 : decode cX2_groupsWithOneLiberty 43 = .ok (.if_icmp .ne 6, 3) := by decide +kernel
theorem dX2_groupsWithOneLiberty_46 : decode cX2_groupsWithOneLiberty 46 = .ok (.iinc 5 1, 3) := by decide +kernel
theorem dX2_groupsWithOneLiberty_49 : decode cX2_groupsWithOneLiberty 49 = .ok (.lload 6, 2) := by decide +kernel
theorem dX2_groupsWithOneLiberty_51 : decode cX2_groupsWithOneLiberty 51 = .ok (.aload_n 0, 1) := by decide +kernel
theorem dX2_groupsWithOneLiberty_52 : decode cX2_groupsWithOneLiberty 52 = .ok (.lload_n 1, 1) := by decide +kernel
theorem dX2_groupsWithOneLiberty_53 : decode cX2_groupsWithOneLiberty 53 = .ok (.lload 9, 2) := by decide +kernel
theorem dX2_groupsWithOneLiberty_55 : decode cX2_groupsWithOneLiberty 55 = .ok (.invokevirtual 34, 3) := by decide +kernel
theorem dX2_groupsWithOneLiberty_58 : decode cX2_groupsWithOneLiberty 58 = .ok (.ldc2_w 22, 3) := by decide +kernel
theorem dX2_groupsWithOneLiberty_61 : decode cX2_groupsWithOneLiberty 61 = .ok (.lxor, 1) := by decide +kernel
theorem dX2_groupsWithOneLiberty_62 : decode cX2_groupsWithOneLiberty 62 = .ok (.land, 1) := by decide +kernel
theorem dX2_groupsWithOneLiberty_63 : decode cX2_groupsWithOneLiberty 63 = .ok (.lstore 6, 2) := by decide +kernel
theorem dX2_groupsWithOneLiberty_65 : decode cX2_groupsWithOneLiberty 65 = .ok (.iinc 8 1, 3) := by decide +kernel
theorem dX2_groupsWithOneLiberty_68 : decode cX2_groupsWithOneLiberty 68 = .ok (.goto (-59), 3) := by decide +kernel
theorem dX2_groupsWithOneLiberty_71 : decode cX2_groupsWithOneLiberty 71 = .ok (.iload 5, 2) := by decide +kernel
theorem dX2_groupsWithOneLiberty_73 : decode cX2_groupsWithOneLiberty 73 = .ok (.ireturn, 1) := by decide +kernel
theorem dX2_enclosed_0 : decode cX2_enclosed 0 = .ok (.aload_n 0, 1) := by decide +kernel
theorem dX2_enclosed_1 : decode cX2_enclosed 1 = .ok (.getfield 18, 3) := by decide +kernel
theorem dX2_enclosed_4 : decode cX2_enclosed 4 = .ok (.lload_n 1, 1) := by decide +kernel
theorem dX2_enclosed_5 : decode cX2_enclosed 5 = .ok (.lload_n 3, 1) := by decide +kernel
theorem dX2_enclosed_6 : decode cX2_enclosed 6 = .ok (.lor, 1) := by decide +kernel
theorem dX2_enclosed_7 : decode cX2_enclosed 7 = .ok (.ldc2_w 22, 3) := by decide +kernel
theorem dX2_enclosed_10 : decode cX2_enclosed 10 = .ok (.lxor, 1) := by decide +kernel
theorem dX2_enclosed_11 : decode cX2_enclosed 11 = .ok (.land, 1) := by decide +kernel
theorem dX2_enclosed_12 : decode cX2_enclosed 12 = .ok (.lstore 5, 2) := by decide +kernel
theorem dX2_enclosed_14 : decode cX2_enclosed 14 = .ok (.aload_n 0, 1) := by decide +kernel
theorem dX2_enclosed_15 : decode cX2_enclosed 15 = .ok (.lload 5, 2) := by decide +kernel
theorem dX2_enclosed_17 : decode cX2_enclosed 17 = .ok (.aload_n 0, 1) := by decide +kernel
theorem dX2_enclosed_18 : decode cX2_enclosed 18 = .ok (.lload_n 1, 1) := by decide +kernel
theorem dX2_enclosed_19 : decode cX2_enclosed 19 = .ok (.invokevirtual 30, 3) := by decide +kernel
theorem dX2_enclosed_22 : decode cX2_enclosed 22 = .ok (.invokevirtual 34, 3) := by decide +kernel
theorem dX2_enclosed_25 : decode cX2_enclosed 25 = .ok (.aload_n 0, 1) := by decide +kernel
theorem dX2_enclosed_26 : decode cX2_enclosed 26 = .ok (.lload 5, 2) := by decide +kernel
theorem dX2_enclosed_28 : decode cX2_enclosed 28 = .ok (.aload_n 0, 1) := by decide +kernel
theorem dX2_enclosed_29 : decode cX2_enclosed 29 = .ok (.lload_n 3, 1) := by decide +kernel
theorem dX2_enclosed_30 : decode cX2_enclosed 30 = .ok (.invokevirtual 30, 3) := by decide +kernel
theorem dX2_enclosed_33 : decode cX2_enclosed 33 = .ok (.invokevirtual 34, 3) := by decide +kernel
theorem dX2_enclosed_36 : decode cX2_enclosed 36 = .ok (.ldc2_w 22, 3) := by decide +kernel
theorem dX2_enclosed_39 : decode cX2_enclosed 39 = .ok (.lxor, 1) := by decide +kernel
theorem dX2_enclosed_40 : decode cX2_enclosed 40 = .ok (.land, 1) := by decide +kernel
theorem dX2_enclosed_41 : decode cX2_enclosed 41 = .ok (.lreturn, 1) := by decide +kernel
theorem dX2_eyes_0 : decode cX2_eyes 0 = .ok (.aload_n 0, 1) := by decide +kernel
theorem dX2_eyes_1 : decode cX2_eyes 1 = .ok (.getfield 18, 3) := by decide +kernel
theorem dX2_eyes_4 : decode cX2_eyes 4 = .ok (.lload_n 1, 1) := by decide +kernel
theorem dX2_eyes_5 : decode cX2_eyes 5 = .ok (.lload_n 3, 1) := by decide +kernel
theorem dX2_eyes_6 : decode cX2_eyes 6 = .ok (.lor, 1) := by decide +kernel
theorem dX2_eyes_7 : decode cX2_eyes 7 = .ok (.ldc2_w 22, 3) := by decide +kernel
theorem dX2_eyes_10 : decode cX2_eyes 10 = .ok (.lxor, 1) := by decide +kernel
theorem dX2_eyes_11 : decode cX2_eyes 11 = .ok (.land, 1) := by decide +kernel
theorem dX2_eyes_12 : decode cX2_eyes 12 = .ok (.aload_n 0, 1) := by decide +kernel
theorem dX2_eyes_13 : decode cX2_eyes 13 = .ok (.aload_n 0, 1) := by decide +kernel
theorem dX2_eyes_14 : decode cX2_eyes 14 = .ok (.getfield 18, 3) := by decide +kernel
theorem dX2_eyes_17 : decode cX2_eyes 17 = .ok (.lload_n 1, 1) := by decide +kernel
