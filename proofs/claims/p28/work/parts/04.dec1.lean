theorem dX2_eyes_18 : decode cX2_eyes 18 = .ok (.ldc2_w 22, 3) := by decide +kernel
theorem dX2_eyes_21 : decode cX2_eyes 21 = .ok (.lxor, 1) := by decide +kernel
theorem dX2_eyes_22 : decode cX2_eyes 22 = .ok (.land, 1) := by decide +kernel
theorem dX2_eyes_23 : decode cX2_eyes 23 = .ok (.invokevirtual 30, 3) := by decide +kernel
theorem dX2_eyes_26 : decode cX2_eyes 26 = .ok (.ldc2_w 22, 3) := by decide +kernel
theorem dX2_eyes_29 : decode cX2_eyes 29 = .ok (.lxor, 1) := by decide +kernel
theorem dX2_eyes_30 : decode cX2_eyes 30 = .ok (.land, 1) := by decide +kernel
theorem dX2_eyes_31 : decode cX2_eyes 31 = .ok (.lreturn, 1) := by decide +kernel
theorem dX2_falseAmong_0 : decode cX2_falseAmong 0 = .ok (.lconst 0, 1) := by decide +kernel
theorem dX2_falseAmong_1 : decode cX2_falseAmong 1 = .ok (.lstore 5, 2) := by decide +kernel
theorem dX2_falseAmong_3 : decode cX2_falseAmong 3 = .ok (.lload_n 1, 1) := by decide +kernel
theorem dX2_falseAmong_4 : decode cX2_falseAmong 4 = .ok (.lstore 7, 2) := by decide +kernel
theorem dX2_falseAmong_6 : decode cX2_falseAmong 6 = .ok (.iconst 0, 1) := by decide +kernel
theorem dX2_falseAmong_7 : decode cX2_falseAmong 7 = .ok (.istore 9, 2) := by decide +kernel
theorem dX2_falseAmong_9 : decode cX2_falseAmong 9 = .ok (.iload 9, 2) := by decide +kernel
theorem dX2_falseAmong_11 : decode cX2_falseAmong 11 = .ok (.bipush 49, 2) := by decide +kernel
theorem dX2_falseAmong_13 : decode cX2_falseAmong 13 = .ok (.if_icmp .ge 74, 3) := by decide +kernel
theorem dX2_falseAmong_16 : decode cX2_falseAmong 16 = .ok (.lload 7, 2) := by decide +kernel
theorem dX2_falseAmong_18 : decode cX2_falseAmong 18 = .ok (.lconst 0, 1) := by decide +kernel
theorem dX2_falseAmong_19 : decode cX2_falseAmong 19 = .ok (.lcmp, 1) := by decide +kernel
theorem dX2_falseAmong_20 : decode cX2_falseAmong 20 = .ok (.ifCond .eq 67, 3) := by decide +kernel
theorem dX2_falseAmong_23 : decode cX2_falseAmong 23 = .ok (.lload 7, 2) := by decide +kernel
theorem dX2_falseAmong_25 : decode cX2_falseAmong 25 = .ok (.lload 7, 2) := by decide +kernel
theorem dX2_falseAmong_27 : decode cX2_falseAmong 27 = .ok (.lneg, 1) := by decide +kernel
theorem dX2_falseAmong_28 : decode cX2_falseAmong 28 = .ok (.land, 1) := by decide +kernel
theorem dX2_falseAmong_29 : decode cX2_falseAmong 29 = .ok (.lstore 10, 2) := by decide +kernel
theorem dX2_falseAmong_31 : decode cX2_falseAmong 31 = .ok (.aload_n 0, 1) := by decide +kernel
theorem dX2_falseAmong_32 : decode cX2_falseAmong 32 = .ok (.lload 10, 2) := by decide +kernel
theorem dX2_falseAmong_34 : decode cX2_falseAmong 34 = .ok (.invokevirtual 48, 3) := by decide +kernel
theorem dX2_falseAmong_37 : decode cX2_falseAmong 37 = .ok (.lstore 12, 2) := by decide +kernel
theorem dX2_falseAmong_39 : decode cX2_falseAmong 39 = .ok (.lload 12, 2) := by decide +kernel
theorem dX2_falseAmong_41 : decode cX2_falseAmong 41 = .ok (.invokestatic 42, 3) := by decide +kernel
theorem dX2_falseAmong_44 : decode cX2_falseAmong 44 = .ok (.iconst 4, 1) := by decide +kernel
theorem dX2_falseAmong_45 : decode cX2_falseAmong 45 = .ok (.if_icmp .ge 7, 3) := by decide +kernel
theorem dX2_falseAmong_48 : decode cX2_falseAmong 48 = .ok (.iconst 1, 1) := by decide +kernel
theorem dX2_falseAmong_49 : decode cX2_falseAmong 49 = .ok (.goto 4, 3) := by decide +kernel
theorem dX2_falseAmong_52 : decode cX2_falseAmong 52 = .ok (.iconst 2, 1) := by decide +kernel
theorem dX2_falseAmong_53 : decode cX2_falseAmong 53 = .ok (.istore 14, 2) := by decide +kernel
theorem dX2_falseAmong_55 : decode cX2_falseAmong 55 = .ok (.lload 12, 2) := by decide +kernel
theorem dX2_falseAmong_57 : decode cX2_falseAmong 57 = .ok (.lload_n 3, 1) := by decide +kernel
theorem dX2_falseAmong_58 : decode cX2_falseAmong 58 = .ok (.land, 1) := by decide +kernel
theorem dX2_falseAmong_59 : decode cX2_falseAmong 59 = .ok (.invokestatic 42, 3) := by decide +kernel
theorem dX2_falseAmong_62 : decode cX2_falseAmong 62 = .ok (.iload 14, 2) := by decide +kernel
theorem dX2_falseAmong_64 : decode cX2_falseAmong 64 = .ok (.if_icmp .lt 10, 3) := by decide +kernel
theorem dX2_falseAmong_67 : decode cX2_falseAmong 67 = .ok (.lload 5, 2) := by decide +kernel
theorem dX2_falseAmong_69 : decode cX2_falseAmong 69 = .ok (.lload 10, 2) := by decide +kernel
theorem dX2_falseAmong_71 : decode cX2_falseAmong 71 = .ok (.lor, 1) := by decide +kernel
theorem dX2_falseAmong_72 : decode cX2_falseAmong 72 = .ok (.lstore 5, 2) := by decide +kernel
theorem dX2_falseAmong_74 : decode cX2_falseAmong 74 = .ok (.lload 7, 2) := by decide +kernel
theorem dX2_falseAmong_76 : decode cX2_falseAmong 76 = .ok (.lload 10, 2) := by decide +kernel
theorem dX2_falseAmong_78 : decode cX2_falseAmong 78 = .ok (.lxor, 1) := by decide +kernel
theorem dX2_falseAmong_79 : decode cX2_falseAmong 79 = .ok (.lstore 7, 2) := by decide +kernel
theorem dX2_falseAmong_81 : decode cX2_falseAmong 81 = .ok (.iinc 9 1, 3) := by decide +kernel
theorem dX2_falseAmong_84 : decode cX2_falseAmong 84 = .ok (.goto (-75), 3) := by decide +kernel
theorem dX2_falseAmong_87 : decode cX2_falseAmong 87 = .ok (.lload 5, 2) := by decide +kernel
theorem dX2_falseAmong_89 : decode cX2_falseAmong 89 = .ok (.lreturn, 1) := by decide +kernel
theorem dX3_firstStone_0 : decode cX3_firstStone 0 = .ok (.aload_n 0, 1) := by decide +kernel
theorem dX3_firstStone_1 : decode cX3_firstStone 1 = .ok (.lload_n 3, 1) := by decide +kernel
theorem dX3_firstStone_2 : decode cX3_firstStone 2 = .ok (.lload_n 1, 1) := by decide +kernel
theorem dX3_firstStone_3 : decode cX3_firstStone 3 = .ok (.lload 5, 2) := by decide +kernel
theorem dX3_firstStone_5 : decode cX3_firstStone 5 = .ok (.invokevirtual 7, 3) := by decide +kernel
theorem dX3_firstStone_8 : decode cX3_firstStone 8 = .ok (.lstore 8, 2) := by decide +kernel
theorem dX3_firstStone_10 : decode cX3_firstStone 10 = .ok (.lload 8, 2) := by decide +kernel
theorem dX3_firstStone_12 : decode cX3_firstStone 12 = .ok (.invokestatic 13, 3) := by decide +kernel
theorem dX3_firstStone_15 : decode cX3_firstStone 15 = .ok (.istore 10, 2) := by decide +kernel
theorem dX3_firstStone_17 : decode cX3_firstStone 17 = .ok (.iload 7, 2) := by decide +kernel
theorem dX3_firstStone_19 : decode cX3_firstStone 19 = .ok (.ifCond .le 9, 3) := by decide +kernel
theorem dX3_firstStone_22 : decode cX3_firstStone 22 = .ok (.iload 10, 2) := by decide +kernel
theorem dX3_firstStone_24 : decode cX3_firstStone 24 = .ok (.iconst 2, 1) := by decide +kernel
theorem dX3_firstStone_25 : decode cX3_firstStone 25 = .ok (.if_icmp .le 5, 3) := by decide +kernel
theorem dX3_firstStone_28 : decode cX3_firstStone 28 = .ok (.lconst 0, 1) := by decide +kernel
theorem dX3_firstStone_29 : decode cX3_firstStone 29 = .ok (.lreturn, 1) := by decide +kernel
theorem dX3_firstStone_30 : decode cX3_firstStone 30 = .ok (.iconst 0, 1) := by decide +kernel
theorem dX3_firstStone_31 : decode cX3_firstStone 31 = .ok (.istore 11, 2) := by decide +kernel
theorem dX3_firstStone_33 : decode cX3_firstStone 33 = .ok (.iload 11, 2) := by decide +kernel
theorem dX3_firstStone_35 : decode cX3_firstStone 35 = .ok (.iload 10, 2) := by decide +kernel
theorem dX3_firstStone_37 : decode cX3_firstStone 37 = .ok (.if_icmp .ge 97, 3) := by decide +kernel
theorem dX3_firstStone_40 : decode cX3_firstStone 40 = .ok (.lload 8, 2) := by decide +kernel
theorem dX3_firstStone_42 : decode cX3_firstStone 42 = .ok (.lload 8, 2) := by decide +kernel
theorem dX3_firstStone_44 : decode cX3_firstStone 44 = .ok (.lneg, 1) := by decide +kernel
theorem dX3_firstStone_45 : decode cX3_firstStone 45 = .ok (.land, 1) := by decide +kernel
theorem dX3_firstStone_46 : decode cX3_firstStone 46 = .ok (.lstore 12, 2) := by decide +kernel
theorem dX3_firstStone_48 : decode cX3_firstStone 48 = .ok (.lload_n 3, 1) := by decide +kernel
theorem dX3_firstStone_49 : decode cX3_firstStone 49 = .ok (.aload_n 0, 1) := by decide +kernel
theorem dX3_firstStone_50 : decode cX3_firstStone 50 = .ok (.lload_n 1, 1) := by decide +kernel
theorem dX3_firstStone_51 : decode cX3_firstStone 51 = .ok (.lload_n 3, 1) := by decide +kernel
theorem dX3_firstStone_52 : decode cX3_firstStone 52 = .ok (.lload 12, 2) := by decide +kernel
theorem dX3_firstStone_54 : decode cX3_firstStone 54 = .ok (.invokevirtual 19, 3) := by decide +kernel
theorem dX3_firstStone_57 : decode cX3_firstStone 57 = .ok (.ldc2_w 22, 3) := by decide +kernel
theorem dX3_firstStone_60 : decode cX3_firstStone 60 = .ok (.lxor, 1) := by decide +kernel
theorem dX3_firstStone_61 : decode cX3_firstStone 61 = .ok (.land, 1) := by decide +kernel
theorem dX3_firstStone_62 : decode cX3_firstStone 62 = .ok (.lstore 14, 2) := by decide +kernel
theorem dX3_firstStone_64 : decode cX3_firstStone 64 = .ok (.aload_n 0, 1) := by decide +kernel
theorem dX3_firstStone_65 : decode cX3_firstStone 65 = .ok (.lload_n 1, 1) := by decide +kernel
theorem dX3_firstStone_66 : decode cX3_firstStone 66 = .ok (.lload 12, 2) := by decide +kernel
theorem dX3_firstStone_68 : decode cX3_firstStone 68 = .ok (.lor, 1) := by decide +kernel
theorem dX3_firstStone_69 : decode cX3_firstStone 69 = .ok (.lload 14, 2) := by decide +kernel
theorem dX3_firstStone_71 : decode cX3_firstStone 71 = .ok (.lload 12, 2) := by decide +kernel
theorem dX3_firstStone_73 : decode cX3_firstStone 73 = .ok (.invokevirtual 7, 3) := by decide +kernel
theorem dX3_firstStone_76 : decode cX3_firstStone 76 = .ok (.lconst 0, 1) := by decide +kernel
theorem dX3_firstStone_77 : decode cX3_firstStone 77 = .ok (.lcmp, 1) := by decide +kernel
theorem dX3_firstStone_78 : decode cX3_firstStone 78 = .ok (.ifCond .eq 7, 3) := by decide +kernel
theorem dX3_firstStone_81 : decode cX3_firstStone 81 = .ok (.iconst 1, 1) := by decide +kernel
theorem dX3_firstStone_82 : decode cX3_firstStone 82 = .ok (.goto 4, 3) := by decide +kernel
theorem dX3_firstStone_85 : decode cX3_firstStone 85 = .ok (.iconst 0, 1) := by decide +kernel
theorem dX3_firstStone_86 : decode cX3_firstStone 86 = .ok (.istore 16, 2) := by decide +kernel
theorem dX3_firstStone_88 : decode cX3_firstStone 88 = .ok (.iload 16, 2) := by decide +kernel
theorem dX3_firstStone_90 : decode cX3_firstStone 90 = .ok (.ifCond .eq 31, 3) := by decide +kernel
theorem dX3_firstStone_93 : decode cX3_firstStone 93 = .ok (.iload 10, 2) := by decide +kernel
theorem dX3_firstStone_95 : decode cX3_firstStone 95 = .ok (.iconst 1, 1) := by decide +kernel
theorem dX3_firstStone_96 : decode cX3_firstStone 96 = .ok (.if_icmp .eq 22, 3) := by decide +kernel
theorem dX3_firstStone_99 : decode cX3_firstStone 99 = .ok (.aload_n 0, 1) := by decide +kernel
theorem dX3_firstStone_100 : decode cX3_firstStone 100 = .ok (.lload_n 1, 1) := by decide +kernel
theorem dX3_firstStone_101 : decode cX3_firstStone 101 = .ok (.lload 12, 2) := by decide +kernel
theorem dX3_firstStone_103 : decode cX3_firstStone 103 = .ok (.lor, 1) := by decide +kernel
theorem dX3_firstStone_104 : decode cX3_firstStone 104 = .ok (.lload 14, 2) := by decide +kernel
theorem dX3_firstStone_106 : decode cX3_firstStone 106 = .ok (.lload 5, 2) := by decide +kernel
theorem dX3_firstStone_108 : decode cX3_firstStone 108 = .ok (.iload 7, 2) := by decide +kernel
theorem dX3_firstStone_110 : decode cX3_firstStone 110 = .ok (.iconst 1, 1) := by decide +kernel
theorem dX3_firstStone_111 : decode cX3_firstStone 111 = .ok (.isub, 1) := by decide +kernel
theorem dX3_firstStone_112 : decode cX3_firstStone 112 = .ok (.invokestatic 24, 3) := by decide +kernel
theorem dX3_firstStone_115 : decode cX3_firstStone 115 = .ok (.ifCond .eq 6, 3) := by decide +kernel
theorem dX3_firstStone_118 : decode cX3_firstStone 118 = .ok (.lload 12, 2) := by decide +kernel
theorem dX3_firstStone_120 : decode cX3_firstStone 120 = .ok (.lreturn, 1) := by decide +kernel
theorem dX3_firstStone_121 : decode cX3_firstStone 121 = .ok (.lload 8, 2) := by decide +kernel
theorem dX3_firstStone_123 : decode cX3_firstStone 123 = .ok (.lload 12, 2) := by decide +kernel
theorem dX3_firstStone_125 : decode cX3_firstStone 125 = .ok (.lxor, 1) := by decide +kernel
theorem dX3_firstStone_126 : decode cX3_firstStone 126 = .ok (.lstore 8, 2) := by decide +kernel
theorem dX3_firstStone_128 : decode cX3_firstStone 128 = .ok (.iinc 11 1, 3) := by decide +kernel
theorem dX3_firstStone_131 : decode cX3_firstStone 131 = .ok (.goto (-98), 3) := by decide +kernel
theorem dX3_firstStone_134 : decode cX3_firstStone 134 = .ok (.lconst 0, 1) := by decide +kernel
theorem dX3_firstStone_135 : decode cX3_firstStone 135 = .ok (.lreturn, 1) := by decide +kernel
theorem dX3_holdsOwner_0 : decode cX3_holdsOwner 0 = .ok (.aload_n 0, 1) := by decide +kernel
theorem dX3_holdsOwner_1 : decode cX3_holdsOwner 1 = .ok (.lload_n 3, 1) := by decide +kernel
theorem dX3_holdsOwner_2 : decode cX3_holdsOwner 2 = .ok (.lload_n 1, 1) := by decide +kernel
theorem dX3_holdsOwner_3 : decode cX3_holdsOwner 3 = .ok (.lload 5, 2) := by decide +kernel
theorem dX3_holdsOwner_5 : decode cX3_holdsOwner 5 = .ok (.invokevirtual 7, 3) := by decide +kernel
theorem dX3_holdsOwner_8 : decode cX3_holdsOwner 8 = .ok (.lstore 8, 2) := by decide +kernel
theorem dX3_holdsOwner_10 : decode cX3_holdsOwner 10 = .ok (.lload 8, 2) := by decide +kernel
theorem dX3_holdsOwner_12 : decode cX3_holdsOwner 12 = .ok (.invokestatic 13, 3) := by decide +kernel
theorem dX3_holdsOwner_15 : decode cX3_holdsOwner 15 = .ok (.iconst 1, 1) := by decide +kernel
theorem dX3_holdsOwner_16 : decode cX3_holdsOwner 16 = .ok (.if_icmp .eq 5, 3) := by decide +kernel
theorem dX3_holdsOwner_19 : decode cX3_holdsOwner 19 = .ok (.iconst 0, 1) := by decide +kernel
theorem dX3_holdsOwner_20 : decode cX3_holdsOwner 20 = .ok (.ireturn, 1) := by decide +kernel
theorem dX3_holdsOwner_21 : decode cX3_holdsOwner 21 = .ok (.lload_n 1, 1) := by decide +kernel
theorem dX3_holdsOwner_22 : decode cX3_holdsOwner 22 = .ok (.aload_n 0, 1) := by decide +kernel
theorem dX3_holdsOwner_23 : decode cX3_holdsOwner 23 = .ok (.lload_n 3, 1) := by decide +kernel
theorem dX3_holdsOwner_24 : decode cX3_holdsOwner 24 = .ok (.lload_n 1, 1) := by decide +kernel
theorem dX3_holdsOwner_25 : decode cX3_holdsOwner 25 = .ok (.lload 8, 2) := by decide +kernel
theorem dX3_holdsOwner_27 : decode cX3_holdsOwner 27 = .ok (.invokevirtual 19, 3) := by decide +kernel
theorem dX3_holdsOwner_30 : decode cX3_holdsOwner 30 = .ok (.ldc2_w 22, 3) := by decide +kernel
theorem dX3_holdsOwner_33 : decode cX3_holdsOwner 33 = .ok (.lxor, 1) := by decide +kernel
theorem dX3_holdsOwner_34 : decode cX3_holdsOwner 34 = .ok (.land, 1) := by decide +kernel
theorem dX3_holdsOwner_35 : decode cX3_holdsOwner 35 = .ok (.lstore 10, 2) := by decide +kernel
theorem dX3_holdsOwner_37 : decode cX3_holdsOwner 37 = .ok (.aload_n 0, 1) := by decide +kernel
theorem dX3_holdsOwner_38 : decode cX3_holdsOwner 38 = .ok (.lload_n 3, 1) := by decide +kernel
theorem dX3_holdsOwner_39 : decode cX3_holdsOwner 39 = .ok (.lload 8, 2) := by decide +kernel
theorem dX3_holdsOwner_41 : decode cX3_holdsOwner 41 = .ok (.lor, 1) := by decide +kernel
theorem dX3_holdsOwner_42 : decode cX3_holdsOwner 42 = .ok (.lload 10, 2) := by decide +kernel
theorem dX3_holdsOwner_44 : decode cX3_holdsOwner 44 = .ok (.lload 8, 2) := by decide +kernel
theorem dX3_holdsOwner_46 : decode cX3_holdsOwner 46 = .ok (.invokevirtual 7, 3) := by decide +kernel
theorem dX3_holdsOwner_49 : decode cX3_holdsOwner 49 = .ok (.lstore 12, 2) := by decide +kernel
theorem dX3_holdsOwner_51 : decode cX3_holdsOwner 51 = .ok (.lload 12, 2) := by decide +kernel
theorem dX3_holdsOwner_53 : decode cX3_holdsOwner 53 = .ok (.lconst 0, 1) := by decide +kernel
theorem dX3_holdsOwner_54 : decode cX3_holdsOwner 54 = .ok (.lcmp, 1) := by decide +kernel
theorem dX3_holdsOwner_55 : decode cX3_holdsOwner 55 = .ok (.ifCond .ne 5, 3) := by decide +kernel
theorem dX3_holdsOwner_58 : decode cX3_holdsOwner 58 = .ok (.iconst 1, 1) := by decide +kernel
theorem dX3_holdsOwner_59 : decode cX3_holdsOwner 59 = .ok (.ireturn, 1) := by decide +kernel
theorem dX3_holdsOwner_60 : decode cX3_holdsOwner 60 = .ok (.aload_n 0, 1) := by decide +kernel
theorem dX3_holdsOwner_61 : decode cX3_holdsOwner 61 = .ok (.lload 10, 2) := by decide +kernel
theorem dX3_holdsOwner_63 : decode cX3_holdsOwner 63 = .ok (.lload_n 3, 1) := by decide +kernel
theorem dX3_holdsOwner_64 : decode cX3_holdsOwner 64 = .ok (.lload 8, 2) := by decide +kernel
theorem dX3_holdsOwner_66 : decode cX3_holdsOwner 66 = .ok (.lor, 1) := by decide +kernel
theorem dX3_holdsOwner_67 : decode cX3_holdsOwner 67 = .ok (.lload 8, 2) := by decide +kernel
theorem dX3_holdsOwner_69 : decode cX3_holdsOwner 69 = .ok (.iload 7, 2) := by decide +kernel
theorem dX3_holdsOwner_71 : decode cX3_holdsOwner 71 = .ok (.invokestatic 30, 3) := by decide +kernel
theorem dX3_holdsOwner_74 : decode cX3_holdsOwner 74 = .ok (.lconst 0, 1) := by decide +kernel
theorem dX3_holdsOwner_75 : decode cX3_holdsOwner 75 = .ok (.lcmp, 1) := by decide +kernel
theorem dX3_holdsOwner_76 : decode cX3_holdsOwner 76 = .ok (.ifCond .eq 7, 3) := by decide +kernel
theorem dX3_holdsOwner_79 : decode cX3_holdsOwner 79 = .ok (.iconst 1, 1) := by decide +kernel
theorem dX3_holdsOwner_80 : decode cX3_holdsOwner 80 = .ok (.goto 4, 3) := by decide +kernel
theorem dX3_holdsOwner_83 : decode cX3_holdsOwner 83 = .ok (.iconst 0, 1) := by decide +kernel
theorem dX3_holdsOwner_84 : decode cX3_holdsOwner 84 = .ok (.ireturn, 1) := by decide +kernel
theorem dX4_init_0 : decode cX4_init 0 = .ok (.aload_n 0, 1) := by decide +kernel
theorem dX4_init_1 : decode cX4_init 1 = .ok (.invokespecial 3, 3) := by decide +kernel
theorem dX4_init_4 : decode cX4_init 4 = .ok (.aload_n 0, 1) := by decide +kernel
theorem dX4_init_5 : decode cX4_init 5 = .ok (.bipush 14, 2) := by decide +kernel
theorem dX4_init_7 : decode cX4_init 7 = .ok (.anewarray 9, 3) := by decide +kernel
theorem dX4_init_10 : decode cX4_init 10 = .ok (.putfield 11, 3) := by decide +kernel
theorem dX4_init_13 : decode cX4_init 13 = .ok (.iconst 0, 1) := by decide +kernel
theorem dX4_init_14 : decode cX4_init 14 = .ok (.istore_n 2, 1) := by decide +kernel
theorem dX4_init_15 : decode cX4_init 15 = .ok (.iload_n 2, 1) := by decide +kernel
theorem dX4_init_16 : decode cX4_init 16 = .ok (.bipush 14, 2) := by decide +kernel
theorem dX4_init_18 : decode cX4_init 18 = .ok (.if_icmp .ge 23, 3) := by decide +kernel
theorem dX4_init_21 : decode cX4_init 21 = .ok (.aload_n 0, 1) := by decide +kernel
theorem dX4_init_22 : decode cX4_init 22 = .ok (.getfield 11, 3) := by decide +kernel
theorem dX4_init_25 : decode cX4_init 25 = .ok (.iload_n 2, 1) := by decide +kernel
theorem dX4_init_26 : decode cX4_init 26 = .ok (.new 9, 3) := by decide +kernel
theorem dX4_init_29 : decode cX4_init 29 = .ok (.dup, 1) := by decide +kernel
theorem dX4_init_30 : decode cX4_init 30 = .ok (.aload_n 1, 1) := by decide +kernel
theorem dX4_init_31 : decode cX4_init 31 = .ok (.invokespecial 17, 3) := by decide +kernel
theorem dX4_init_34 : decode cX4_init 34 = .ok (.aastore, 1) := by decide +kernel
theorem dX4_init_35 : decode cX4_init 35 = .ok (.iinc 2 1, 3) := by decide +kernel
theorem dX4_init_38 : decode cX4_init 38 = .ok (.goto (-23), 3) := by decide +kernel
theorem dX4_init_41 : decode cX4_init 41 = .ok (.return_, 1) := by decide +kernel
theorem dX4_at_0 : decode cX4_at 0 = .ok (.aload_n 0, 1) := by decide +kernel
theorem dX4_at_1 : decode cX4_at 1 = .ok (.getfield 20, 3) := by decide +kernel
theorem dX4_at_4 : decode cX4_at 4 = .ok (.iload_n 1, 1) := by decide +kernel
theorem dX4_at_5 : decode cX4_at 5 = .ok (.iadd, 1) := by decide +kernel
theorem dX4_at_6 : decode cX4_at 6 = .ok (.bipush 14, 2) := by decide +kernel
theorem dX4_at_8 : decode cX4_at 8 = .ok (.irem, 1) := by decide +kernel
theorem dX4_at_9 : decode cX4_at 9 = .ok (.istore_n 2, 1) := by decide +kernel
theorem dX4_at_10 : decode cX4_at 10 = .ok (.iload_n 2, 1) := by decide +kernel
theorem dX4_at_11 : decode cX4_at 11 = .ok (.ifCond .lt 21, 3) := by decide +kernel
theorem dX4_at_14 : decode cX4_at 14 = .ok (.iload_n 2, 1) := by decide +kernel
theorem dX4_at_15 : decode cX4_at 15 = .ok (.aload_n 0, 1) := by decide +kernel
theorem dX4_at_16 : decode cX4_at 16 = .ok (.getfield 11, 3) := by decide +kernel
theorem dX4_at_19 : decode cX4_at 19 = .ok (.arraylength, 1) := by decide +kernel
theorem dX4_at_20 : decode cX4_at 20 = .ok (.if_icmp .ge 12, 3) := by decide +kernel
theorem dX4_at_23 : decode cX4_at 23 = .ok (.aload_n 0, 1) := by decide +kernel
theorem dX4_at_24 : decode cX4_at 24 = .ok (.getfield 11, 3) := by decide +kernel
theorem dX4_at_27 : decode cX4_at 27 = .ok (.iload_n 2, 1) := by decide +kernel
theorem dX4_at_28 : decode cX4_at 28 = .ok (.aaload, 1) := by decide +kernel
theorem dX4_at_29 : decode cX4_at 29 = .ok (.goto 4, 3) := by decide +kernel
theorem dX4_at_32 : decode cX4_at 32 = .ok (.aconst_null, 1) := by decide +kernel
theorem dX4_at_33 : decode cX4_at 33 = .ok (.areturn, 1) := by decide +kernel
theorem dX4_remember_0 : decode cX4_remember 0 = .ok (.aload_n 0, 1) := by decide +kernel
theorem dX4_remember_1 : decode cX4_remember 1 = .ok (.getfield 24, 3) := by decide +kernel
theorem dX4_remember_4 : decode cX4_remember 4 = .ok (.bipush 14, 2) := by decide +kernel
theorem dX4_remember_6 : decode cX4_remember 6 = .ok (.if_icmp .lt 22, 3) := by decide +kernel
theorem dX4_remember_9 : decode cX4_remember 9 = .ok (.aload_n 0, 1) := by decide +kernel
theorem dX4_remember_10 : decode cX4_remember 10 = .ok (.aload_n 0, 1) := by decide +kernel
theorem dX4_remember_11 : decode cX4_remember 11 = .ok (.getfield 20, 3) := by decide +kernel
theorem dX4_remember_14 : decode cX4_remember 14 = .ok (.iconst 1, 1) := by decide +kernel
theorem dX4_remember_15 : decode cX4_remember 15 = .ok (.iadd, 1) := by decide +kernel
theorem dX4_remember_16 : decode cX4_remember 16 = .ok (.bipush 14, 2) := by decide +kernel
theorem dX4_remember_18 : decode cX4_remember 18 = .ok (.irem, 1) := by decide +kernel
theorem dX4_remember_19 : decode cX4_remember 19 = .ok (.putfield 20, 3) := by decide +kernel
theorem dX4_remember_22 : decode cX4_remember 22 = .ok (.aload_n 0, 1) := by decide +kernel
theorem dX4_remember_23 : decode cX4_remember 23 = .ok (.bipush 13, 2) := by decide +kernel
theorem dX4_remember_25 : decode cX4_remember 25 = .ok (.putfield 24, 3) := by decide +kernel
theorem dX4_remember_28 : decode cX4_remember 28 = .ok (.aload_n 0, 1) := by decide +kernel
theorem dX4_remember_29 : decode cX4_remember 29 = .ok (.aload_n 0, 1) := by decide +kernel
theorem dX4_remember_30 : decode cX4_remember 30 = .ok (.getfield 24, 3) := by decide +kernel
theorem dX4_remember_33 : decode cX4_remember 33 = .ok (.invokevirtual 27, 3) := by decide +kernel
theorem dX4_remember_36 : decode cX4_remember 36 = .ok (.astore_n 2, 1) := by decide +kernel
theorem dX4_remember_37 : decode cX4_remember 37 = .ok (.aload_n 2, 1) := by decide +kernel
theorem dX4_remember_38 : decode cX4_remember 38 = .ok (.ifnull 18, 3) := by decide +kernel
theorem dX4_remember_41 : decode cX4_remember 41 = .ok (.aload_n 2, 1) := by decide +kernel
theorem dX4_remember_42 : decode cX4_remember 42 = .ok (.aload_n 1, 1) := by decide +kernel
theorem dX4_remember_43 : decode cX4_remember 43 = .ok (.invokevirtual 31, 3) := by decide +kernel
theorem dX4_remember_46 : decode cX4_remember 46 = .ok (.aload_n 0, 1) := by decide +kernel
theorem dX4_remember_47 : decode cX4_remember 47 = .ok (.dup, 1) := by decide +kernel
theorem dX4_remember_48 : decode cX4_remember 48 = .ok (.getfield 24, 3) := by decide +kernel
theorem dX4_remember_51 : decode cX4_remember 51 = .ok (.iconst 1, 1) := by decide +kernel
theorem dX4_remember_52 : decode cX4_remember 52 = .ok (.iadd, 1) := by decide +kernel
theorem dX4_remember_53 : decode cX4_remember 53 = .ok (.putfield 24, 3) := by decide +kernel
theorem dX4_remember_56 : decode cX4_remember 56 = .ok (.return_, 1) := by decide +kernel
theorem dX4_takeBackInto_0 : decode cX4_takeBackInto 0 = .ok (.aload_n 0, 1) := by decide +kernel
theorem dX4_takeBackInto_1 : decode cX4_takeBackInto 1 = .ok (.aload_n 0, 1) := by decide +kernel
theorem dX4_takeBackInto_2 : decode cX4_takeBackInto 2 = .ok (.getfield 24, 3) := by decide +kernel
theorem dX4_takeBackInto_5 : decode cX4_takeBackInto 5 = .ok (.iconst 1, 1) := by decide +kernel
theorem dX4_takeBackInto_6 : decode cX4_takeBackInto 6 = .ok (.isub, 1) := by decide +kernel
theorem dX4_takeBackInto_7 : decode cX4_takeBackInto 7 = .ok (.invokevirtual 27, 3) := by decide +kernel
theorem dX4_takeBackInto_10 : decode cX4_takeBackInto 10 = .ok (.astore_n 2, 1) := by decide +kernel
theorem dX4_takeBackInto_11 : decode cX4_takeBackInto 11 = .ok (.aload_n 2, 1) := by decide +kernel
theorem dX4_takeBackInto_12 : decode cX4_takeBackInto 12 = .ok (.ifnull 18, 3) := by decide +kernel
theorem dX4_takeBackInto_15 : decode cX4_takeBackInto 15 = .ok (.aload_n 1, 1) := by decide +kernel
theorem dX4_takeBackInto_16 : decode cX4_takeBackInto 16 = .ok (.aload_n 2, 1) := by decide +kernel
theorem dX4_takeBackInto_17 : decode cX4_takeBackInto 17 = .ok (.invokevirtual 31, 3) := by decide +kernel
theorem dX4_takeBackInto_20 : decode cX4_takeBackInto 20 = .ok (.aload_n 0, 1) := by decide +kernel
theorem dX4_takeBackInto_21 : decode cX4_takeBackInto 21 = .ok (.dup, 1) := by decide +kernel
theorem dX4_takeBackInto_22 : decode cX4_takeBackInto 22 = .ok (.getfield 24, 3) := by decide +kernel
theorem dX4_takeBackInto_25 : decode cX4_takeBackInto 25 = .ok (.iconst 1, 1) := by decide +kernel
theorem dX4_takeBackInto_26 : decode cX4_takeBackInto 26 = .ok (.isub, 1) := by decide +kernel
theorem dX4_takeBackInto_27 : decode cX4_takeBackInto 27 = .ok (.putfield 24, 3) := by decide +kernel
theorem dX4_takeBackInto_30 : decode cX4_takeBackInto 30 = .ok (.aload_n 0, 1) := by decide +kernel
theorem dX4_takeBackInto_31 : decode cX4_takeBackInto 31 = .ok (.getfield 24, 3) := by decide +kernel
theorem dX4_takeBackInto_34 : decode cX4_takeBackInto 34 = .ok (.ireturn, 1) := by decide +kernel
theorem dX4_forgetAll_0 : decode cX4_forgetAll 0 = .ok (.aload_n 0, 1) := by decide +kernel
theorem dX4_forgetAll_1 : decode cX4_forgetAll 1 = .ok (.iconst 0, 1) := by decide +kernel
theorem dX4_forgetAll_2 : decode cX4_forgetAll 2 = .ok (.putfield 24, 3) := by decide +kernel
theorem dX4_forgetAll_5 : decode cX4_forgetAll 5 = .ok (.return_, 1) := by decide +kernel
theorem dX5_commandFromEnd_0 : decode cX5_commandFromEnd 0 = .ok (.lload_n 0, 1) := by decide +kernel
theorem dX5_commandFromEnd_1 : decode cX5_commandFromEnd 1 = .ok (.lstore_n 3, 1) := by decide +kernel
theorem dX5_commandFromEnd_2 : decode cX5_commandFromEnd 2 = .ok (.iconst 0, 1) := by decide +kernel
theorem dX5_commandFromEnd_3 : decode cX5_commandFromEnd 3 = .ok (.istore 5, 2) := by decide +kernel
theorem dX5_commandFromEnd_5 : decode cX5_commandFromEnd 5 = .ok (.iload 5, 2) := by decide +kernel
theorem dX5_commandFromEnd_7 : decode cX5_commandFromEnd 7 = .ok (.iload_n 2, 1) := by decide +kernel
theorem dX5_commandFromEnd_8 : decode cX5_commandFromEnd 8 = .ok (.if_icmp .ge 21, 3) := by decide +kernel
theorem dX5_commandFromEnd_11 : decode cX5_commandFromEnd 11 = .ok (.iload 5, 2) := by decide +kernel
theorem dX5_commandFromEnd_13 : decode cX5_commandFromEnd 13 = .ok (.iconst 4, 1) := by decide +kernel
theorem dX5_commandFromEnd_14 : decode cX5_commandFromEnd 14 = .ok (.if_icmp .ge 15, 3) := by decide +kernel
theorem dX5_commandFromEnd_17 : decode cX5_commandFromEnd 17 = .ok (.lload_n 3, 1) := by decide +kernel
theorem dX5_commandFromEnd_18 : decode cX5_commandFromEnd 18 = .ok (.ldc2_w 9, 3) := by decide +kernel
theorem dX5_commandFromEnd_21 : decode cX5_commandFromEnd 21 = .ok (.ldiv, 1) := by decide +kernel
theorem dX5_commandFromEnd_22 : decode cX5_commandFromEnd 22 = .ok (.lstore_n 3, 1) := by decide +kernel
theorem dX5_commandFromEnd_23 : decode cX5_commandFromEnd 23 = .ok (.iinc 5 1, 3) := by decide +kernel
theorem dX5_commandFromEnd_26 : decode cX5_commandFromEnd 26 = .ok (.goto (-21), 3) := by decide +kernel
theorem dX5_commandFromEnd_29 : decode cX5_commandFromEnd 29 = .ok (.lload_n 3, 1) := by decide +kernel
theorem dX5_commandFromEnd_30 : decode cX5_commandFromEnd 30 = .ok (.ldc2_w 9, 3) := by decide +kernel
theorem dX5_commandFromEnd_33 : decode cX5_commandFromEnd 33 = .ok (.lrem, 1) := by decide +kernel
theorem dX5_commandFromEnd_34 : decode cX5_commandFromEnd 34 = .ok (.l2i, 1) := by decide +kernel
theorem dX5_commandFromEnd_35 : decode cX5_commandFromEnd 35 = .ok (.ireturn, 1) := by decide +kernel
theorem dX5_succeeds_0 : decode cX5_succeeds 0 = .ok (.iload_n 1, 1) := by decide +kernel
theorem dX5_succeeds_1 : decode cX5_succeeds 1 = .ok (.sipush 1000, 3) := by decide +kernel
theorem dX5_succeeds_4 : decode cX5_succeeds 4 = .ok (.idiv, 1) := by decide +kernel
theorem dX5_succeeds_5 : decode cX5_succeeds 5 = .ok (.istore_n 2, 1) := by decide +kernel
theorem dX5_succeeds_6 : decode cX5_succeeds 6 = .ok (.iload_n 1, 1) := by decide +kernel
theorem dX5_succeeds_7 : decode cX5_succeeds 7 = .ok (.bipush 10, 2) := by decide +kernel
theorem dX5_succeeds_9 : decode cX5_succeeds 9 = .ok (.irem, 1) := by decide +kernel
theorem dX5_succeeds_10 : decode cX5_succeeds 10 = .ok (.istore_n 3, 1) := by decide +kernel
theorem dX5_succeeds_11 : decode cX5_succeeds 11 = .ok (.iload_n 2, 1) := by decide +kernel
theorem dX5_succeeds_12 : decode cX5_succeeds 12 = .ok (.tableswitch 109 1 8 #[48, 72, 109, 109, 109, 92, 109, 92], 48) := by decide +kernel
theorem dX5_succeeds_60 : decode cX5_succeeds 60 = .ok (.iload_n 3, 1) := by decide +kernel
theorem dX5_succeeds_61 : decode cX5_succeeds 61 = .ok (.ifCond .ne 21, 3) := by decide +kernel
theorem dX5_succeeds_64 : decode cX5_succeeds 64 = .ok (.aload_n 0, 1) := by decide +kernel
theorem dX5_succeeds_65 : decode cX5_succeeds 65 = .ok (.iload_n 1, 1) := by decide +kernel
theorem dX5_succeeds_66 : decode cX5_succeeds 66 = .ok (.bipush 10, 2) := by decide +kernel
theorem dX5_succeeds_68 : decode cX5_succeeds 68 = .ok (.idiv, 1) := by decide +kernel
theorem dX5_succeeds_69 : decode cX5_succeeds 69 = .ok (.bipush 100, 2) := by decide +kernel
theorem dX5_succeeds_71 : decode cX5_succeeds 71 = .ok (.irem, 1) := by decide +kernel
theorem dX5_succeeds_72 : decode cX5_succeeds 72 = .ok (.invokevirtual 11, 3) := by decide +kernel
theorem dX5_succeeds_75 : decode cX5_succeeds 75 = .ok (.ifCond .eq 7, 3) := by decide +kernel
theorem dX5_succeeds_78 : decode cX5_succeeds 78 = .ok (.iconst 1, 1) := by decide +kernel
theorem dX5_succeeds_79 : decode cX5_succeeds 79 = .ok (.goto 4, 3) := by decide +kernel
theorem dX5_succeeds_82 : decode cX5_succeeds 82 = .ok (.iconst 0, 1) := by decide +kernel
theorem dX5_succeeds_83 : decode cX5_succeeds 83 = .ok (.ireturn, 1) := by decide +kernel
theorem dX5_succeeds_84 : decode cX5_succeeds 84 = .ok (.iload_n 1, 1) := by decide +kernel
theorem dX5_succeeds_85 : decode cX5_succeeds 85 = .ok (.sipush 2000, 3) := by decide +kernel
theorem dX5_succeeds_88 : decode cX5_succeeds 88 = .ok (.if_icmp .ne 14, 3) := by decide +kernel
theorem dX5_succeeds_91 : decode cX5_succeeds 91 = .ok (.aload_n 0, 1) := by decide +kernel
theorem dX5_succeeds_92 : decode cX5_succeeds 92 = .ok (.invokevirtual 17, 3) := by decide +kernel
theorem dX5_succeeds_95 : decode cX5_succeeds 95 = .ok (.ifCond .eq 7, 3) := by decide +kernel
theorem dX5_succeeds_98 : decode cX5_succeeds 98 = .ok (.iconst 1, 1) := by decide +kernel
theorem dX5_succeeds_99 : decode cX5_succeeds 99 = .ok (.goto 4, 3) := by decide +kernel
theorem dX5_succeeds_102 : decode cX5_succeeds 102 = .ok (.iconst 0, 1) := by decide +kernel
theorem dX5_succeeds_103 : decode cX5_succeeds 103 = .ok (.ireturn, 1) := by decide +kernel
theorem dX5_succeeds_104 : decode cX5_succeeds 104 = .ok (.aload_n 0, 1) := by decide +kernel
theorem dX5_succeeds_105 : decode cX5_succeeds 105 = .ok (.iload_n 2, 1) := by decide +kernel
theorem dX5_succeeds_106 : decode cX5_succeeds 106 = .ok (.iload_n 1, 1) := by decide +kernel
theorem dX5_succeeds_107 : decode cX5_succeeds 107 = .ok (.bipush 100, 2) := by decide +kernel
theorem dX5_succeeds_109 : decode cX5_succeeds 109 = .ok (.idiv, 1) := by decide +kernel
theorem dX5_succeeds_110 : decode cX5_succeeds 110 = .ok (.bipush 10, 2) := by decide +kernel
theorem dX5_succeeds_112 : decode cX5_succeeds 112 = .ok (.irem, 1) := by decide +kernel
theorem dX5_succeeds_113 : decode cX5_succeeds 113 = .ok (.iload_n 1, 1) := by decide +kernel
theorem dX5_succeeds_114 : decode cX5_succeeds 114 = .ok (.bipush 100, 2) := by decide +kernel
theorem dX5_succeeds_116 : decode cX5_succeeds 116 = .ok (.irem, 1) := by decide +kernel
theorem dX5_succeeds_117 : decode cX5_succeeds 117 = .ok (.invokestatic 21, 3) := by decide +kernel
theorem dX5_succeeds_120 : decode cX5_succeeds 120 = .ok (.ireturn, 1) := by decide +kernel
theorem dX5_succeeds_121 : decode cX5_succeeds 121 = .ok (.aload_n 0, 1) := by decide +kernel
theorem dX5_succeeds_122 : decode cX5_succeeds 122 = .ok (.iload_n 2, 1) := by decide +kernel
theorem dX5_succeeds_123 : decode cX5_succeeds 123 = .ok (.iload_n 1, 1) := by decide +kernel
theorem dX5_succeeds_124 : decode cX5_succeeds 124 = .ok (.bipush 10, 2) := by decide +kernel
theorem dX5_succeeds_126 : decode cX5_succeeds 126 = .ok (.idiv, 1) := by decide +kernel
theorem dX5_succeeds_127 : decode cX5_succeeds 127 = .ok (.bipush 100, 2) := by decide +kernel
theorem dX5_succeeds_129 : decode cX5_succeeds 129 = .ok (.irem, 1) := by decide +kernel
theorem dX5_succeeds_130 : decode cX5_succeeds 130 = .ok (.iload_n 3, 1) := by decide +kernel
theorem dX5_succeeds_131 : decode cX5_succeeds 131 = .ok (.invokestatic 27, 3) := by decide +kernel
theorem dX5_succeeds_134 : decode cX5_succeeds 134 = .ok (.ireturn, 1) := by decide +kernel
theorem dX5_holdsForColour_0 : decode cX5_holdsForColour 0 = .ok (.iload_n 2, 1) := by decide +kernel
theorem dX5_holdsForColour_1 : decode cX5_holdsForColour 1 = .ok (.invokestatic 30, 3) := by decide +kernel
theorem dX5_holdsForColour_4 : decode cX5_holdsForColour 4 = .ok (.ifCond .ne 5, 3) := by decide +kernel
theorem dX5_holdsForColour_7 : decode cX5_holdsForColour 7 = .ok (.iconst 0, 1) := by decide +kernel
theorem dX5_holdsForColour_8 : decode cX5_holdsForColour 8 = .ok (.ireturn, 1) := by decide +kernel
theorem dX5_holdsForColour_9 : decode cX5_holdsForColour 9 = .ok (.iload_n 1, 1) := by decide +kernel
theorem dX5_holdsForColour_10 : decode cX5_holdsForColour 10 = .ok (.bipush 6, 2) := by decide +kernel
theorem dX5_holdsForColour_12 : decode cX5_holdsForColour 12 = .ok (.if_icmp .ne 11, 3) := by decide +kernel
theorem dX5_holdsForColour_15 : decode cX5_holdsForColour 15 = .ok (.aload_n 0, 1) := by decide +kernel
theorem dX5_holdsForColour_16 : decode cX5_holdsForColour 16 = .ok (.iload_n 2, 1) := by decide +kernel
theorem dX5_holdsForColour_17 : decode cX5_holdsForColour 17 = .ok (.invokevirtual 33, 3) := by decide +kernel
theorem dX5_holdsForColour_20 : decode cX5_holdsForColour 20 = .ok (.goto 8, 3) := by decide +kernel
theorem dX5_holdsForColour_23 : decode cX5_holdsForColour 23 = .ok (.aload_n 0, 1) := by decide +kernel
theorem dX5_holdsForColour_24 : decode cX5_holdsForColour 24 = .ok (.iload_n 2, 1) := by decide +kernel
theorem dX5_holdsForColour_25 : decode cX5_holdsForColour 25 = .ok (.invokevirtual 37, 3) := by decide +kernel
theorem dX5_holdsForColour_28 : decode cX5_holdsForColour 28 = .ok (.iload_n 3, 1) := by decide +kernel
theorem dX5_holdsForColour_29 : decode cX5_holdsForColour 29 = .ok (.if_icmp .lt 7, 3) := by decide +kernel
theorem dX5_holdsForColour_32 : decode cX5_holdsForColour 32 = .ok (.iconst 1, 1) := by decide +kernel
theorem dX5_holdsForColour_33 : decode cX5_holdsForColour 33 = .ok (.goto 4, 3) := by decide +kernel
theorem dX5_holdsForColour_36 : decode cX5_holdsForColour 36 = .ok (.iconst 0, 1) := by decide +kernel
theorem dX5_holdsForColour_37 : decode cX5_holdsForColour 37 = .ok (.ireturn, 1) := by decide +kernel
theorem dX5_holdsForPoint_0 : decode cX5_holdsForPoint 0 = .ok (.aload_n 0, 1) := by decide +kernel
theorem dX5_holdsForPoint_1 : decode cX5_holdsForPoint 1 = .ok (.getfield 40, 3) := by decide +kernel
theorem dX5_holdsForPoint_4 : decode cX5_holdsForPoint 4 = .ok (.iload_n 2, 1) := by decide +kernel
theorem dX5_holdsForPoint_5 : decode cX5_holdsForPoint 5 = .ok (.invokevirtual 44, 3) := by decide +kernel
theorem dX5_holdsForPoint_8 : decode cX5_holdsForPoint 8 = .ok (.ifCond .ne 5, 3) := by decide +kernel
theorem dX5_holdsForPoint_11 : decode cX5_holdsForPoint 11 = .ok (.iconst 0, 1) := by decide +kernel
theorem dX5_holdsForPoint_12 : decode cX5_holdsForPoint 12 = .ok (.ireturn, 1) := by decide +kernel
theorem dX5_holdsForPoint_13 : decode cX5_holdsForPoint 13 = .ok (.aload_n 0, 1) := by decide +kernel
theorem dX5_holdsForPoint_14 : decode cX5_holdsForPoint 14 = .ok (.iload_n 2, 1) := by decide +kernel
theorem dX5_holdsForPoint_15 : decode cX5_holdsForPoint 15 = .ok (.invokevirtual 49, 3) := by decide +kernel
theorem dX5_holdsForPoint_18 : decode cX5_holdsForPoint 18 = .ok (.istore 4, 2) := by decide +kernel
theorem dX5_holdsForPoint_20 : decode cX5_holdsForPoint 20 = .ok (.iload_n 1, 1) := by decide +kernel
theorem dX5_holdsForPoint_21 : decode cX5_holdsForPoint 21 = .ok (.tableswitch 167 3 9 #[43, 61, 85, 167, 100, 167, 152], 43) := by decide +kernel
theorem dX5_holdsForPoint_64 : decode cX5_holdsForPoint 64 = .ok (.iload 4, 2) := by decide +kernel
theorem dX5_holdsForPoint_66 : decode cX5_holdsForPoint 66 = .ok (.iconst (-1), 1) := by decide +kernel
theorem dX5_holdsForPoint_67 : decode cX5_holdsForPoint 67 = .ok (.if_icmp .eq 13, 3) := by decide +kernel
theorem dX5_holdsForPoint_70 : decode cX5_holdsForPoint 70 = .ok (.iload 4, 2) := by decide +kernel
theorem dX5_holdsForPoint_72 : decode cX5_holdsForPoint 72 = .ok (.iload_n 3, 1) := by decide +kernel
theorem dX5_holdsForPoint_73 : decode cX5_holdsForPoint 73 = .ok (.if_icmp .ne 7, 3) := by decide +kernel
theorem dX5_holdsForPoint_76 : decode cX5_holdsForPoint 76 = .ok (.iconst 1, 1) := by decide +kernel
theorem dX5_holdsForPoint_77 : decode cX5_holdsForPoint 77 = .ok (.goto 4, 3) := by decide +kernel
theorem dX5_holdsForPoint_80 : decode cX5_holdsForPoint 80 = .ok (.iconst 0, 1) := by decide +kernel
theorem dX5_holdsForPoint_81 : decode cX5_holdsForPoint 81 = .ok (.ireturn, 1) := by decide +kernel
theorem dX5_holdsForPoint_82 : decode cX5_holdsForPoint 82 = .ok (.iload 4, 2) := by decide +kernel
theorem dX5_holdsForPoint_84 : decode cX5_holdsForPoint 84 = .ok (.iconst (-1), 1) := by decide +kernel
theorem dX5_holdsForPoint_85 : decode cX5_holdsForPoint 85 = .ok (.if_icmp .eq 19, 3) := by decide +kernel
theorem dX5_holdsForPoint_88 : decode cX5_holdsForPoint 88 = .ok (.aload_n 0, 1) := by decide +kernel
theorem dX5_holdsForPoint_89 : decode cX5_holdsForPoint 89 = .ok (.iload_n 2, 1) := by decide +kernel
theorem dX5_holdsForPoint_90 : decode cX5_holdsForPoint 90 = .ok (.invokevirtual 52, 3) := by decide +kernel
theorem dX5_holdsForPoint_93 : decode cX5_holdsForPoint 93 = .ok (.invokestatic 56, 3) := by decide +kernel
theorem dX5_holdsForPoint_96 : decode cX5_holdsForPoint 96 = .ok (.iload_n 3, 1) := by decide +kernel
theorem dX5_holdsForPoint_97 : decode cX5_holdsForPoint 97 = .ok (.if_icmp .lt 7, 3) := by decide +kernel
theorem dX5_holdsForPoint_100 : decode cX5_holdsForPoint 100 = .ok (.iconst 1, 1) := by decide +kernel
theorem dX5_holdsForPoint_101 : decode cX5_holdsForPoint 101 = .ok (.goto 4, 3) := by decide +kernel
theorem dX5_holdsForPoint_104 : decode cX5_holdsForPoint 104 = .ok (.iconst 0, 1) := by decide +kernel
theorem dX5_holdsForPoint_105 : decode cX5_holdsForPoint 105 = .ok (.ireturn, 1) := by decide +kernel
theorem dX5_holdsForPoint_106 : decode cX5_holdsForPoint 106 = .ok (.aload_n 0, 1) := by decide +kernel
theorem dX5_holdsForPoint_107 : decode cX5_holdsForPoint 107 = .ok (.iload_n 2, 1) := by decide +kernel
theorem dX5_holdsForPoint_108 : decode cX5_holdsForPoint 108 = .ok (.invokevirtual 62, 3) := by decide +kernel
theorem dX5_holdsForPoint_111 : decode cX5_holdsForPoint 111 = .ok (.iload_n 3, 1) := by decide +kernel
theorem dX5_holdsForPoint_112 : decode cX5_holdsForPoint 112 = .ok (.if_icmp .ne 7, 3) := by decide +kernel
theorem dX5_holdsForPoint_115 : decode cX5_holdsForPoint 115 = .ok (.iconst 1, 1) := by decide +kernel
theorem dX5_holdsForPoint_116 : decode cX5_holdsForPoint 116 = .ok (.goto 4, 3) := by decide +kernel
theorem dX5_holdsForPoint_119 : decode cX5_holdsForPoint 119 = .ok (.iconst 0, 1) := by decide +kernel
theorem dX5_holdsForPoint_120 : decode cX5_holdsForPoint 120 = .ok (.ireturn, 1) := by decide +kernel
theorem dX5_holdsForPoint_121 : decode cX5_holdsForPoint 121 = .ok (.iload 4, 2) := by decide +kernel
theorem dX5_holdsForPoint_123 : decode cX5_holdsForPoint 123 = .ok (.iconst (-1), 1) := by decide +kernel
theorem dX5_holdsForPoint_124 : decode cX5_holdsForPoint 124 = .ok (.if_icmp .eq 47, 3) := by decide +kernel
theorem dX5_holdsForPoint_127 : decode cX5_holdsForPoint 127 = .ok (.iload_n 3, 1) := by decide +kernel
theorem dX5_holdsForPoint_128 : decode cX5_holdsForPoint 128 = .ok (.aload_n 0, 1) := by decide +kernel
theorem dX5_holdsForPoint_129 : decode cX5_holdsForPoint 129 = .ok (.getfield 40, 3) := by decide +kernel
theorem dX5_holdsForPoint_132 : decode cX5_holdsForPoint 132 = .ok (.aload_n 0, 1) := by decide +kernel
theorem dX5_holdsForPoint_133 : decode cX5_holdsForPoint 133 = .ok (.iconst 1, 1) := by decide +kernel
theorem dX5_holdsForPoint_134 : decode cX5_holdsForPoint 134 = .ok (.iload 4, 2) := by decide +kernel
theorem dX5_holdsForPoint_136 : decode cX5_holdsForPoint 136 = .ok (.isub, 1) := by decide +kernel
theorem dX5_holdsForPoint_137 : decode cX5_holdsForPoint 137 = .ok (.invokevirtual 65, 3) := by decide +kernel
theorem dX5_holdsForPoint_140 : decode cX5_holdsForPoint 140 = .ok (.aload_n 0, 1) := by decide +kernel
theorem dX5_holdsForPoint_141 : decode cX5_holdsForPoint 141 = .ok (.iload 4, 2) := by decide +kernel
theorem dX5_holdsForPoint_143 : decode cX5_holdsForPoint 143 = .ok (.invokevirtual 65, 3) := by decide +kernel
theorem dX5_holdsForPoint_146 : decode cX5_holdsForPoint 146 = .ok (.lconst 1, 1) := by decide +kernel
theorem dX5_holdsForPoint_147 : decode cX5_holdsForPoint 147 = .ok (.iload_n 2, 1) := by decide +kernel
theorem dX5_holdsForPoint_148 : decode cX5_holdsForPoint 148 = .ok (.lshl, 1) := by decide +kernel
theorem dX5_holdsForPoint_149 : decode cX5_holdsForPoint 149 = .ok (.bipush 12, 2) := by decide +kernel
theorem dX5_holdsForPoint_151 : decode cX5_holdsForPoint 151 = .ok (.invokestatic 68, 3) := by decide +kernel
theorem dX5_holdsForPoint_154 : decode cX5_holdsForPoint 154 = .ok (.lconst 0, 1) := by decide +kernel
theorem dX5_holdsForPoint_155 : decode cX5_holdsForPoint 155 = .ok (.lcmp, 1) := by decide +kernel
theorem dX5_holdsForPoint_156 : decode cX5_holdsForPoint 156 = .ok (.ifCond .eq 7, 3) := by decide +kernel
theorem dX5_holdsForPoint_159 : decode cX5_holdsForPoint 159 = .ok (.iconst 1, 1) := by decide +kernel
theorem dX5_holdsForPoint_160 : decode cX5_holdsForPoint 160 = .ok (.goto 4, 3) := by decide +kernel
theorem dX5_holdsForPoint_163 : decode cX5_holdsForPoint 163 = .ok (.iconst 0, 1) := by decide +kernel
theorem dX5_holdsForPoint_164 : decode cX5_holdsForPoint 164 = .ok (.if_icmp .ne 7, 3) := by decide +kernel
theorem dX5_holdsForPoint_167 : decode cX5_holdsForPoint 167 = .ok (.iconst 1, 1) := by decide +kernel
theorem dX5_holdsForPoint_168 : decode cX5_holdsForPoint 168 = .ok (.goto 4, 3) := by decide +kernel
theorem dX5_holdsForPoint_171 : decode cX5_holdsForPoint 171 = .ok (.iconst 0, 1) := by decide +kernel
theorem dX5_holdsForPoint_172 : decode cX5_holdsForPoint 172 = .ok (.ireturn, 1) := by decide +kernel
theorem dX5_holdsForPoint_173 : decode cX5_holdsForPoint 173 = .ok (.aload_n 0, 1) := by decide +kernel
theorem dX5_holdsForPoint_174 : decode cX5_holdsForPoint 174 = .ok (.iload_n 2, 1) := by decide +kernel
theorem dX5_holdsForPoint_175 : decode cX5_holdsForPoint 175 = .ok (.invokevirtual 74, 3) := by decide +kernel
theorem dX5_holdsForPoint_178 : decode cX5_holdsForPoint 178 = .ok (.iload_n 3, 1) := by decide +kernel
theorem dX5_holdsForPoint_179 : decode cX5_holdsForPoint 179 = .ok (.if_icmp .ne 7, 3) := by decide +kernel
theorem dX5_holdsForPoint_182 : decode cX5_holdsForPoint 182 = .ok (.iconst 1, 1) := by decide +kernel
theorem dX5_holdsForPoint_183 : decode cX5_holdsForPoint 183 = .ok (.goto 4, 3) := by decide +kernel
theorem dX5_holdsForPoint_186 : decode cX5_holdsForPoint 186 = .ok (.iconst 0, 1) := by decide +kernel
theorem dX5_holdsForPoint_187 : decode cX5_holdsForPoint 187 = .ok (.ireturn, 1) := by decide +kernel
theorem dX5_holdsForPoint_188 : decode cX5_holdsForPoint 188 = .ok (.iconst 0, 1) := by decide +kernel
theorem dX5_holdsForPoint_189 : decode cX5_holdsForPoint 189 = .ok (.ireturn, 1) := by decide +kernel
theorem dX6_init_0 : decode cX6_init 0 = .ok (.aload_n 0, 1) := by decide +kernel
theorem dX6_init_1 : decode cX6_init 1 = .ok (.invokespecial 1, 3) := by decide +kernel
theorem dX6_init_4 : decode cX6_init 4 = .ok (.aload_n 0, 1) := by decide +kernel
theorem dX6_init_5 : decode cX6_init 5 = .ok (.new 7, 3) := by decide +kernel
theorem dX6_init_8 : decode cX6_init 8 = .ok (.dup, 1) := by decide +kernel
theorem dX6_init_9 : decode cX6_init 9 = .ok (.aload_n 1, 1) := by decide +kernel
theorem dX6_init_10 : decode cX6_init 10 = .ok (.invokespecial 9, 3) := by decide +kernel
theorem dX6_init_13 : decode cX6_init 13 = .ok (.putfield 12, 3) := by decide +kernel
theorem dX6_init_16 : decode cX6_init 16 = .ok (.return_, 1) := by decide +kernel
theorem dX7_init_0 : decode cX7_init 0 = .ok (.aload_n 0, 1) := by decide +kernel
theorem dX7_init_1 : decode cX7_init 1 = .ok (.invokespecial 1, 3) := by decide +kernel
theorem dX7_init_4 : decode cX7_init 4 = .ok (.new 7, 3) := by decide +kernel
theorem dX7_init_7 : decode cX7_init 7 = .ok (.dup, 1) := by decide +kernel
theorem dX7_init_8 : decode cX7_init 8 = .ok (.iconst 5, 1) := by decide +kernel
theorem dX7_init_9 : decode cX7_init 9 = .ok (.invokespecial 11, 3) := by decide +kernel
theorem dX7_init_12 : decode cX7_init 12 = .ok (.astore_n 1, 1) := by decide +kernel
theorem dX7_init_13 : decode cX7_init 13 = .ok (.aload_n 0, 1) := by decide +kernel
theorem dX7_init_14 : decode cX7_init 14 = .ok (.new 14, 3) := by decide +kernel
theorem dX7_init_17 : decode cX7_init 17 = .ok (.dup, 1) := by decide +kernel
theorem dX7_init_18 : decode cX7_init 18 = .ok (.invokespecial 16, 3) := by decide +kernel
theorem dX7_init_21 : decode cX7_init 21 = .ok (.putfield 17, 3) := by decide +kernel
theorem dX7_init_24 : decode cX7_init 24 = .ok (.aload_n 0, 1) := by decide +kernel
theorem dX7_init_25 : decode cX7_init 25 = .ok (.new 21, 3) := by decide +kernel
theorem dX7_init_28 : decode cX7_init 28 = .ok (.dup, 1) := by decide +kernel
theorem dX7_init_29 : decode cX7_init 29 = .ok (.aload_n 1, 1) := by decide +kernel
theorem dX7_init_30 : decode cX7_init 30 = .ok (.invokespecial 23, 3) := by decide +kernel
theorem dX7_init_33 : decode cX7_init 33 = .ok (.putfield 26, 3) := by decide +kernel
theorem dX7_init_36 : decode cX7_init 36 = .ok (.aload_n 0, 1) := by decide +kernel
theorem dX7_init_37 : decode cX7_init 37 = .ok (.new 21, 3) := by decide +kernel
theorem dX7_init_40 : decode cX7_init 40 = .ok (.dup, 1) := by decide +kernel
theorem dX7_init_41 : decode cX7_init 41 = .ok (.aload_n 1, 1) := by decide +kernel
theorem dX7_init_42 : decode cX7_init 42 = .ok (.invokespecial 23, 3) := by decide +kernel
theorem dX7_init_45 : decode cX7_init 45 = .ok (.putfield 30, 3) := by decide +kernel
theorem dX7_init_48 : decode cX7_init 48 = .ok (.aload_n 0, 1) := by decide +kernel
theorem dX7_init_49 : decode cX7_init 49 = .ok (.new 33, 3) := by decide +kernel
theorem dX7_init_52 : decode cX7_init 52 = .ok (.dup, 1) := by decide +kernel
theorem dX7_init_53 : decode cX7_init 53 = .ok (.aload_n 1, 1) := by decide +kernel
theorem dX7_init_54 : decode cX7_init 54 = .ok (.invokespecial 35, 3) := by decide +kernel
theorem dX7_init_57 : decode cX7_init 57 = .ok (.putfield 36, 3) := by decide +kernel
theorem dX7_init_60 : decode cX7_init 60 = .ok (.aload_n 0, 1) := by decide +kernel
theorem dX7_init_61 : decode cX7_init 61 = .ok (.new 40, 3) := by decide +kernel
theorem dX7_init_64 : decode cX7_init 64 = .ok (.dup, 1) := by decide +kernel
theorem dX7_init_65 : decode cX7_init 65 = .ok (.aload_n 1, 1) := by decide +kernel
theorem dX7_init_66 : decode cX7_init 66 = .ok (.invokespecial 42, 3) := by decide +kernel
theorem dX7_init_69 : decode cX7_init 69 = .ok (.putfield 43, 3) := by decide +kernel
theorem dX7_init_72 : decode cX7_init 72 = .ok (.aload_n 0, 1) := by decide +kernel
theorem dX7_init_73 : decode cX7_init 73 = .ok (.new 40, 3) := by decide +kernel
theorem dX7_init_76 : decode cX7_init 76 = .ok (.dup, 1) := by decide +kernel
theorem dX7_init_77 : decode cX7_init 77 = .ok (.aload_n 1, 1) := by decide +kernel
theorem dX7_init_78 : decode cX7_init 78 = .ok (.invokespecial 42, 3) := by decide +kernel
theorem dX7_init_81 : decode cX7_init 81 = .ok (.putfield 47, 3) := by decide +kernel
theorem dX7_init_84 : decode cX7_init 84 = .ok (.return_, 1) := by decide +kernel
theorem dX7_append_0 : decode cX7_append 0 = .ok (.iload_n 1, 1) := by decide +kernel
theorem dX7_append_1 : decode cX7_append 1 = .ok (.ifCond .lt 10, 3) := by decide +kernel
theorem dX7_append_4 : decode cX7_append 4 = .ok (.iload_n 1, 1) := by decide +kernel
theorem dX7_append_5 : decode cX7_append 5 = .ok (.sipush 255, 3) := by decide +kernel
theorem dX7_append_8 : decode cX7_append 8 = .ok (.if_icmp .le 13, 3) := by decide +kernel
theorem dX7_append_11 : decode cX7_append 11 = .ok (.new 50, 3) := by decide +kernel
theorem dX7_append_14 : decode cX7_append 14 = .ok (.dup, 1) := by decide +kernel
theorem dX7_append_15 : decode cX7_append 15 = .ok (.ldc 52, 2) := by decide +kernel
theorem dX7_append_17 : decode cX7_append 17 = .ok (.invokespecial 54, 3) := by decide +kernel
theorem dX7_append_20 : decode cX7_append 20 = .ok (.athrow, 1) := by decide +kernel
theorem dX7_append_21 : decode cX7_append 21 = .ok (.aload_n 0, 1) := by decide +kernel
theorem dX7_append_22 : decode cX7_append 22 = .ok (.getfield 17, 3) := by decide +kernel
theorem dX7_append_25 : decode cX7_append 25 = .ok (.invokevirtual 57, 3) := by decide +kernel
theorem dX7_append_28 : decode cX7_append 28 = .ok (.ifCond .eq 13, 3) := by decide +kernel
theorem dX7_append_31 : decode cX7_append 31 = .ok (.new 61, 3) := by decide +kernel
theorem dX7_append_34 : decode cX7_append 34 = .ok (.dup, 1) := by decide +kernel
theorem dX7_append_35 : decode cX7_append 35 = .ok (.ldc 63, 2) := by decide +kernel
theorem dX7_append_37 : decode cX7_append 37 = .ok (.invokespecial 65, 3) := by decide +kernel
theorem dX7_append_40 : decode cX7_append 40 = .ok (.athrow, 1) := by decide +kernel
theorem dX7_append_41 : decode cX7_append 41 = .ok (.aload_n 0, 1) := by decide +kernel
theorem dX7_append_42 : decode cX7_append 42 = .ok (.getfield 17, 3) := by decide +kernel
theorem dX7_append_45 : decode cX7_append 45 = .ok (.iload_n 1, 1) := by decide +kernel
theorem dX7_append_46 : decode cX7_append 46 = .ok (.i2c, 1) := by decide +kernel
theorem dX7_append_47 : decode cX7_append 47 = .ok (.invokevirtual 66, 3) := by decide +kernel
theorem dX7_append_50 : decode cX7_append 50 = .ok (.ireturn, 1) := by decide +kernel
theorem dX7_load_0 : decode cX7_load 0 = .ok (.aload_n 0, 1) := by decide +kernel
theorem dX7_load_1 : decode cX7_load 1 = .ok (.getfield 17, 3) := by decide +kernel
theorem dX7_load_4 : decode cX7_load 4 = .ok (.invokevirtual 74, 3) := by decide +kernel
theorem dX7_load_7 : decode cX7_load 7 = .ok (.iconst (-1), 1) := by decide +kernel
theorem dX7_load_8 : decode cX7_load 8 = .ok (.if_icmp .eq 13, 3) := by decide +kernel
theorem dX7_load_11 : decode cX7_load 11 = .ok (.new 61, 3) := by decide +kernel
theorem dX7_load_14 : decode cX7_load 14 = .ok (.dup, 1) := by decide +kernel
theorem dX7_load_15 : decode cX7_load 15 = .ok (.ldc 77, 2) := by decide +kernel
theorem dX7_load_17 : decode cX7_load 17 = .ok (.invokespecial 65, 3) := by decide +kernel
theorem dX7_load_20 : decode cX7_load 20 = .ok (.athrow, 1) := by decide +kernel
theorem dX7_load_21 : decode cX7_load 21 = .ok (.aload_n 0, 1) := by decide +kernel
theorem dX7_load_22 : decode cX7_load 22 = .ok (.getfield 26, 3) := by decide +kernel
theorem dX7_load_25 : decode cX7_load 25 = .ok (.aload_n 0, 1) := by decide +kernel
theorem dX7_load_26 : decode cX7_load 26 = .ok (.getfield 17, 3) := by decide +kernel
theorem dX7_load_29 : decode cX7_load 29 = .ok (.invokevirtual 79, 3) := by decide +kernel
theorem dX7_load_32 : decode cX7_load 32 = .ok (.invokevirtual 82, 3) := by decide +kernel
theorem dX7_load_35 : decode cX7_load 35 = .ok (.aload_n 0, 1) := by decide +kernel
theorem dX7_load_36 : decode cX7_load 36 = .ok (.getfield 26, 3) := by decide +kernel
theorem dX7_load_39 : decode cX7_load 39 = .ok (.aload_n 0, 1) := by decide +kernel
theorem dX7_load_40 : decode cX7_load 40 = .ok (.getfield 17, 3) := by decide +kernel
theorem dX7_load_43 : decode cX7_load 43 = .ok (.invokevirtual 85, 3) := by decide +kernel
theorem dX7_load_46 : decode cX7_load 46 = .ok (.putfield 88, 3) := by decide +kernel
theorem dX7_load_49 : decode cX7_load 49 = .ok (.iconst 0, 1) := by decide +kernel
theorem dX7_load_50 : decode cX7_load 50 = .ok (.istore_n 1, 1) := by decide +kernel
theorem dX7_load_51 : decode cX7_load 51 = .ok (.aload_n 0, 1) := by decide +kernel
theorem dX7_load_52 : decode cX7_load 52 = .ok (.getfield 17, 3) := by decide +kernel
theorem dX7_load_55 : decode cX7_load 55 = .ok (.invokevirtual 91, 3) := by decide +kernel
theorem dX7_load_58 : decode cX7_load 58 = .ok (.istore_n 2, 1) := by decide +kernel
theorem dX7_load_59 : decode cX7_load 59 = .ok (.iload_n 2, 1) := by decide +kernel
theorem dX7_load_60 : decode cX7_load 60 = .ok (.aload_n 0, 1) := by decide +kernel
theorem dX7_load_61 : decode cX7_load 61 = .ok (.getfield 17, 3) := by decide +kernel
theorem dX7_load_64 : decode cX7_load 64 = .ok (.getfield 94, 3) := by decide +kernel
theorem dX7_load_67 : decode cX7_load 67 = .ok (.if_icmp .ge 63, 3) := by decide +kernel
theorem dX7_load_70 : decode cX7_load 70 = .ok (.aload_n 0, 1) := by decide +kernel
theorem dX7_load_71 : decode cX7_load 71 = .ok (.getfield 17, 3) := by decide +kernel
theorem dX7_load_74 : decode cX7_load 74 = .ok (.iload_n 2, 1) := by decide +kernel
theorem dX7_load_75 : decode cX7_load 75 = .ok (.invokevirtual 97, 3) := by decide +kernel
theorem dX7_load_78 : decode cX7_load 78 = .ok (.istore_n 3, 1) := by decide +kernel
theorem dX7_load_79 : decode cX7_load 79 = .ok (.iload_n 3, 1) := by decide +kernel
theorem dX7_load_80 : decode cX7_load 80 = .ok (.ifCond .eq 16, 3) := by decide +kernel
theorem dX7_load_83 : decode cX7_load 83 = .ok (.aload_n 0, 1) := by decide +kernel
theorem dX7_load_84 : decode cX7_load 84 = .ok (.getfield 26, 3) := by decide +kernel
theorem dX7_load_87 : decode cX7_load 87 = .ok (.invokevirtual 101, 3) := by decide +kernel
theorem dX7_load_90 : decode cX7_load 90 = .ok (.ifCond .eq 24, 3) := by decide +kernel
theorem dX7_load_93 : decode cX7_load 93 = .ok (.goto 24, 3) := by decide +kernel
theorem dX7_load_96 : decode cX7_load 96 = .ok (.aload_n 0, 1) := by decide +kernel
theorem dX7_load_97 : decode cX7_load 97 = .ok (.getfield 26, 3) := by decide +kernel
theorem dX7_load_100 : decode cX7_load 100 = .ok (.aload_n 0, 1) := by decide +kernel
theorem dX7_load_101 : decode cX7_load 101 = .ok (.getfield 17, 3) := by decide +kernel
theorem dX7_load_104 : decode cX7_load 104 = .ok (.iload_n 2, 1) := by decide +kernel
theorem dX7_load_105 : decode cX7_load 105 = .ok (.invokevirtual 104, 3) := by decide +kernel
theorem dX7_load_108 : decode cX7_load 108 = .ok (.invokevirtual 108, 3) := by decide +kernel
theorem dX7_load_111 : decode cX7_load 111 = .ok (.ifCond .ne 6, 3) := by decide +kernel
theorem dX7_load_114 : decode cX7_load 114 = .ok (.iinc 1 1, 3) := by decide +kernel
theorem dX7_load_117 : decode cX7_load 117 = .ok (.iload_n 3, 1) := by decide +kernel
theorem dX7_load_118 : decode cX7_load 118 = .ok (.ifCond .ne 6, 3) := by decide +kernel
theorem dX7_load_121 : decode cX7_load 121 = .ok (.iinc 2 1, 3) := by decide +kernel
theorem dX7_load_124 : decode cX7_load 124 = .ok (.iinc 2 1, 3) := by decide +kernel
theorem dX7_load_127 : decode cX7_load 127 = .ok (.goto (-68), 3) := by decide +kernel
theorem dX7_load_130 : decode cX7_load 130 = .ok (.aload_n 0, 1) := by decide +kernel
theorem dX7_load_131 : decode cX7_load 131 = .ok (.getfield 36, 3) := by decide +kernel
theorem dX7_load_134 : decode cX7_load 134 = .ok (.invokevirtual 111, 3) := by decide +kernel
theorem dX7_load_137 : decode cX7_load 137 = .ok (.aload_n 0, 1) := by decide +kernel
theorem dX7_load_138 : decode cX7_load 138 = .ok (.getfield 43, 3) := by decide +kernel
theorem dX7_load_141 : decode cX7_load 141 = .ok (.iconst 0, 1) := by decide +kernel
theorem dX7_load_142 : decode cX7_load 142 = .ok (.putfield 114, 3) := by decide +kernel
theorem dX7_load_145 : decode cX7_load 145 = .ok (.aload_n 0, 1) := by decide +kernel
theorem dX7_load_146 : decode cX7_load 146 = .ok (.getfield 47, 3) := by decide +kernel
theorem dX7_load_149 : decode cX7_load 149 = .ok (.iconst 0, 1) := by decide +kernel
theorem dX7_load_150 : decode cX7_load 150 = .ok (.putfield 114, 3) := by decide +kernel
theorem dX7_load_153 : decode cX7_load 153 = .ok (.iload_n 1, 1) := by decide +kernel
theorem dX7_load_154 : decode cX7_load 154 = .ok (.ireturn, 1) := by decide +kernel
theorem dX7_about_0 : decode cX7_about 0 = .ok (.iload_n 1, 1) := by decide +kernel
theorem dX7_about_1 : decode cX7_about 1 = .ok (.tableswitch 133 0 7 #[47, 58, 66, 74, 82, 99, 117, 125], 47) := by decide +kernel
theorem dX7_about_48 : decode cX7_about 48 = .ok (.aload_n 0, 1) := by decide +kernel
theorem dX7_about_49 : decode cX7_about 49 = .ok (.getfield 26, 3) := by decide +kernel
theorem dX7_about_52 : decode cX7_about 52 = .ok (.getfield 118, 3) := by decide +kernel
theorem dX7_about_55 : decode cX7_about 55 = .ok (.getfield 122, 3) := by decide +kernel
theorem dX7_about_58 : decode cX7_about 58 = .ok (.ireturn, 1) := by decide +kernel
theorem dX7_about_59 : decode cX7_about 59 = .ok (.aload_n 0, 1) := by decide +kernel
theorem dX7_about_60 : decode cX7_about 60 = .ok (.getfield 26, 3) := by decide +kernel
theorem dX7_about_63 : decode cX7_about 63 = .ok (.getfield 124, 3) := by decide +kernel
theorem dX7_about_66 : decode cX7_about 66 = .ok (.ireturn, 1) := by decide +kernel
theorem dX7_about_67 : decode cX7_about 67 = .ok (.aload_n 0, 1) := by decide +kernel
theorem dX7_about_68 : decode cX7_about 68 = .ok (.getfield 26, 3) := by decide +kernel
theorem dX7_about_71 : decode cX7_about 71 = .ok (.invokevirtual 127, 3) := by decide +kernel
theorem dX7_about_74 : decode cX7_about 74 = .ok (.ireturn, 1) := by decide +kernel
theorem dX7_about_75 : decode cX7_about 75 = .ok (.aload_n 0, 1) := by decide +kernel
theorem dX7_about_76 : decode cX7_about 76 = .ok (.getfield 26, 3) := by decide +kernel
theorem dX7_about_79 : decode cX7_about 79 = .ok (.getfield 130, 3) := by decide +kernel
theorem dX7_about_82 : decode cX7_about 82 = .ok (.ireturn, 1) := by decide +kernel
theorem dX7_about_83 : decode cX7_about 83 = .ok (.aload_n 0, 1) := by decide +kernel
theorem dX7_about_84 : decode cX7_about 84 = .ok (.getfield 26, 3) := by decide +kernel
theorem dX7_about_87 : decode cX7_about 87 = .ok (.getfield 133, 3) := by decide +kernel
theorem dX7_about_90 : decode cX7_about 90 = .ok (.iconst 2, 1) := by decide +kernel
theorem dX7_about_91 : decode cX7_about 91 = .ok (.if_icmp .lt 7, 3) := by decide +kernel
theorem dX7_about_94 : decode cX7_about 94 = .ok (.iconst 1, 1) := by decide +kernel
theorem dX7_about_95 : decode cX7_about 95 = .ok (.goto 4, 3) := by decide +kernel
theorem dX7_about_98 : decode cX7_about 98 = .ok (.iconst 0, 1) := by decide +kernel
theorem dX7_about_99 : decode cX7_about 99 = .ok (.ireturn, 1) := by decide +kernel
theorem dX7_about_100 : decode cX7_about 100 = .ok (.aload_n 0, 1) := by decide +kernel
theorem dX7_about_101 : decode cX7_about 101 = .ok (.getfield 26, 3) := by decide +kernel
theorem dX7_about_104 : decode cX7_about 104 = .ok (.iconst 0, 1) := by decide +kernel
theorem dX7_about_105 : decode cX7_about 105 = .ok (.invokevirtual 136, 3) := by decide +kernel
theorem dX7_about_108 : decode cX7_about 108 = .ok (.aload_n 0, 1) := by decide +kernel
theorem dX7_about_109 : decode cX7_about 109 = .ok (.getfield 26, 3) := by decide +kernel
theorem dX7_about_112 : decode cX7_about 112 = .ok (.iconst 1, 1) := by decide +kernel
theorem dX7_about_113 : decode cX7_about 113 = .ok (.invokevirtual 136, 3) := by decide +kernel
theorem dX7_about_116 : decode cX7_about 116 = .ok (.iadd, 1) := by decide +kernel
theorem dX7_about_117 : decode cX7_about 117 = .ok (.ireturn, 1) := by decide +kernel
theorem dX7_about_118 : decode cX7_about 118 = .ok (.aload_n 0, 1) := by decide +kernel
theorem dX7_about_119 : decode cX7_about 119 = .ok (.getfield 26, 3) := by decide +kernel
theorem dX7_about_122 : decode cX7_about 122 = .ok (.invokevirtual 139, 3) := by decide +kernel
theorem dX7_about_125 : decode cX7_about 125 = .ok (.ireturn, 1) := by decide +kernel
theorem dX7_about_126 : decode cX7_about 126 = .ok (.aload_n 0, 1) := by decide +kernel
theorem dX7_about_127 : decode cX7_about 127 = .ok (.getfield 26, 3) := by decide +kernel
theorem dX7_about_130 : decode cX7_about 130 = .ok (.getfield 88, 3) := by decide +kernel
theorem dX7_about_133 : decode cX7_about 133 = .ok (.ireturn, 1) := by decide +kernel
theorem dX7_about_134 : decode cX7_about 134 = .ok (.new 50, 3) := by decide +kernel
theorem dX7_about_137 : decode cX7_about 137 = .ok (.dup, 1) := by decide +kernel
theorem dX7_about_138 : decode cX7_about 138 = .ok (.ldc 142, 2) := by decide +kernel
theorem dX7_about_140 : decode cX7_about 140 = .ok (.invokespecial 54, 3) := by decide +kernel
theorem dX7_about_143 : decode cX7_about 143 = .ok (.athrow, 1) := by decide +kernel
theorem dX7_stones_0 : decode cX7_stones 0 = .ok (.iload_n 1, 1) := by decide +kernel
theorem dX7_stones_1 : decode cX7_stones 1 = .ok (.invokestatic 144, 3) := by decide +kernel
theorem dX7_stones_4 : decode cX7_stones 4 = .ok (.ifCond .ne 13, 3) := by decide +kernel
theorem dX7_stones_7 : decode cX7_stones 7 = .ok (.new 147, 3) := by decide +kernel
theorem dX7_stones_10 : decode cX7_stones 10 = .ok (.dup, 1) := by decide +kernel
theorem dX7_stones_11 : decode cX7_stones 11 = .ok (.ldc 149, 2) := by decide +kernel
theorem dX7_stones_13 : decode cX7_stones 13 = .ok (.invokespecial 151, 3) := by decide +kernel
theorem dX7_stones_16 : decode cX7_stones 16 = .ok (.athrow, 1) := by decide +kernel
theorem dX7_stones_17 : decode cX7_stones 17 = .ok (.aload_n 0, 1) := by decide +kernel
theorem dX7_stones_18 : decode cX7_stones 18 = .ok (.getfield 26, 3) := by decide +kernel
theorem dX7_stones_21 : decode cX7_stones 21 = .ok (.iload_n 1, 1) := by decide +kernel
theorem dX7_stones_22 : decode cX7_stones 22 = .ok (.invokevirtual 152, 3) := by decide +kernel
theorem dX7_stones_25 : decode cX7_stones 25 = .ok (.lreturn, 1) := by decide +kernel
theorem dX7_colour_0 : decode cX7_colour 0 = .ok (.iload_n 1, 1) := by decide +kernel
theorem dX7_colour_1 : decode cX7_colour 1 = .ok (.invokestatic 144, 3) := by decide +kernel
theorem dX7_colour_4 : decode cX7_colour 4 = .ok (.ifCond .ne 13, 3) := by decide +kernel
theorem dX7_colour_7 : decode cX7_colour 7 = .ok (.new 147, 3) := by decide +kernel
theorem dX7_colour_10 : decode cX7_colour 10 = .ok (.dup, 1) := by decide +kernel
theorem dX7_colour_11 : decode cX7_colour 11 = .ok (.ldc 149, 2) := by decide +kernel
theorem dX7_colour_13 : decode cX7_colour 13 = .ok (.invokespecial 151, 3) := by decide +kernel
theorem dX7_colour_16 : decode cX7_colour 16 = .ok (.athrow, 1) := by decide +kernel
theorem dX7_colour_17 : decode cX7_colour 17 = .ok (.iload_n 2, 1) := by decide +kernel
theorem dX7_colour_18 : decode cX7_colour 18 = .ok (.tableswitch 101 0 5 #[38, 50, 59, 68, 80, 92], 38) := by decide +kernel
theorem dX7_colour_56 : decode cX7_colour 56 = .ok (.aload_n 0, 1) := by decide +kernel
theorem dX7_colour_57 : decode cX7_colour 57 = .ok (.getfield 26, 3) := by decide +kernel
theorem dX7_colour_60 : decode cX7_colour 60 = .ok (.iload_n 1, 1) := by decide +kernel
theorem dX7_colour_61 : decode cX7_colour 61 = .ok (.invokevirtual 152, 3) := by decide +kernel
theorem dX7_colour_64 : decode cX7_colour 64 = .ok (.invokestatic 156, 3) := by decide +kernel
theorem dX7_colour_67 : decode cX7_colour 67 = .ok (.ireturn, 1) := by decide +kernel
theorem dX7_colour_68 : decode cX7_colour 68 = .ok (.aload_n 0, 1) := by decide +kernel
theorem dX7_colour_69 : decode cX7_colour 69 = .ok (.getfield 26, 3) := by decide +kernel
theorem dX7_colour_72 : decode cX7_colour 72 = .ok (.iload_n 1, 1) := by decide +kernel
theorem dX7_colour_73 : decode cX7_colour 73 = .ok (.invokevirtual 162, 3) := by decide +kernel
theorem dX7_colour_76 : decode cX7_colour 76 = .ok (.ireturn, 1) := by decide +kernel
theorem dX7_colour_77 : decode cX7_colour 77 = .ok (.aload_n 0, 1) := by decide +kernel
theorem dX7_colour_78 : decode cX7_colour 78 = .ok (.getfield 26, 3) := by decide +kernel
theorem dX7_colour_81 : decode cX7_colour 81 = .ok (.iload_n 1, 1) := by decide +kernel
theorem dX7_colour_82 : decode cX7_colour 82 = .ok (.invokevirtual 165, 3) := by decide +kernel
theorem dX7_colour_85 : decode cX7_colour 85 = .ok (.ireturn, 1) := by decide +kernel
theorem dX7_colour_86 : decode cX7_colour 86 = .ok (.aload_n 0, 1) := by decide +kernel
theorem dX7_colour_87 : decode cX7_colour 87 = .ok (.getfield 26, 3) := by decide +kernel
theorem dX7_colour_90 : decode cX7_colour 90 = .ok (.iload_n 1, 1) := by decide +kernel
theorem dX7_colour_91 : decode cX7_colour 91 = .ok (.invokevirtual 168, 3) := by decide +kernel
theorem dX7_colour_94 : decode cX7_colour 94 = .ok (.invokestatic 156, 3) := by decide +kernel
theorem dX7_colour_97 : decode cX7_colour 97 = .ok (.ireturn, 1) := by decide +kernel
theorem dX7_colour_98 : decode cX7_colour 98 = .ok (.aload_n 0, 1) := by decide +kernel
theorem dX7_colour_99 : decode cX7_colour 99 = .ok (.getfield 26, 3) := by decide +kernel
theorem dX7_colour_102 : decode cX7_colour 102 = .ok (.iload_n 1, 1) := by decide +kernel
theorem dX7_colour_103 : decode cX7_colour 103 = .ok (.invokevirtual 171, 3) := by decide +kernel
theorem dX7_colour_106 : decode cX7_colour 106 = .ok (.invokestatic 156, 3) := by decide +kernel
theorem dX7_colour_109 : decode cX7_colour 109 = .ok (.ireturn, 1) := by decide +kernel
theorem dX7_colour_110 : decode cX7_colour 110 = .ok (.aload_n 0, 1) := by decide +kernel
theorem dX7_colour_111 : decode cX7_colour 111 = .ok (.getfield 26, 3) := by decide +kernel
theorem dX7_colour_114 : decode cX7_colour 114 = .ok (.iload_n 1, 1) := by decide +kernel
theorem dX7_colour_115 : decode cX7_colour 115 = .ok (.invokevirtual 136, 3) := by decide +kernel
theorem dX7_colour_118 : decode cX7_colour 118 = .ok (.ireturn, 1) := by decide +kernel
theorem dX7_colour_119 : decode cX7_colour 119 = .ok (.new 50, 3) := by decide +kernel
theorem dX7_colour_122 : decode cX7_colour 122 = .ok (.dup, 1) := by decide +kernel
theorem dX7_colour_123 : decode cX7_colour 123 = .ok (.ldc 174, 2) := by decide +kernel
theorem dX7_colour_125 : decode cX7_colour 125 = .ok (.invokespecial 54, 3) := by decide +kernel
theorem dX7_colour_128 : decode cX7_colour 128 = .ok (.athrow, 1) := by decide +kernel
theorem dX7_point_0 : decode cX7_point 0 = .ok (.aload_n 0, 1) := by decide +kernel
theorem dX7_point_1 : decode cX7_point 1 = .ok (.getfield 26, 3) := by decide +kernel
theorem dX7_point_4 : decode cX7_point 4 = .ok (.getfield 118, 3) := by decide +kernel
theorem dX7_point_7 : decode cX7_point 7 = .ok (.iload_n 1, 1) := by decide +kernel
theorem dX7_point_8 : decode cX7_point 8 = .ok (.invokevirtual 176, 3) := by decide +kernel
theorem dX7_point_11 : decode cX7_point 11 = .ok (.ifCond .ne 13, 3) := by decide +kernel
theorem dX7_point_14 : decode cX7_point 14 = .ok (.new 147, 3) := by decide +kernel
theorem dX7_point_17 : decode cX7_point 17 = .ok (.dup, 1) := by decide +kernel
theorem dX7_point_18 : decode cX7_point 18 = .ok (.ldc 179, 2) := by decide +kernel
theorem dX7_point_20 : decode cX7_point 20 = .ok (.invokespecial 151, 3) := by decide +kernel
theorem dX7_point_23 : decode cX7_point 23 = .ok (.athrow, 1) := by decide +kernel
theorem dX7_point_24 : decode cX7_point 24 = .ok (.iload_n 2, 1) := by decide +kernel
theorem dX7_point_25 : decode cX7_point 25 = .ok (.tableswitch 102 0 5 #[39, 48, 60, 72, 81, 93], 39) := by decide +kernel
theorem dX7_point_64 : decode cX7_point 64 = .ok (.aload_n 0, 1) := by decide +kernel
theorem dX7_point_65 : decode cX7_point 65 = .ok (.getfield 26, 3) := by decide +kernel
theorem dX7_point_68 : decode cX7_point 68 = .ok (.iload_n 1, 1) := by decide +kernel
theorem dX7_point_69 : decode cX7_point 69 = .ok (.invokevirtual 181, 3) := by decide +kernel
theorem dX7_point_72 : decode cX7_point 72 = .ok (.ireturn, 1) := by decide +kernel
theorem dX7_point_73 : decode cX7_point 73 = .ok (.aload_n 0, 1) := by decide +kernel
theorem dX7_point_74 : decode cX7_point 74 = .ok (.getfield 26, 3) := by decide +kernel
theorem dX7_point_77 : decode cX7_point 77 = .ok (.iload_n 1, 1) := by decide +kernel
theorem dX7_point_78 : decode cX7_point 78 = .ok (.invokevirtual 184, 3) := by decide +kernel
theorem dX7_point_81 : decode cX7_point 81 = .ok (.invokestatic 156, 3) := by decide +kernel
theorem dX7_point_84 : decode cX7_point 84 = .ok (.ireturn, 1) := by decide +kernel
theorem dX7_point_85 : decode cX7_point 85 = .ok (.aload_n 0, 1) := by decide +kernel
theorem dX7_point_86 : decode cX7_point 86 = .ok (.getfield 26, 3) := by decide +kernel
theorem dX7_point_89 : decode cX7_point 89 = .ok (.iload_n 1, 1) := by decide +kernel
theorem dX7_point_90 : decode cX7_point 90 = .ok (.invokevirtual 187, 3) := by decide +kernel
theorem dX7_point_93 : decode cX7_point 93 = .ok (.invokestatic 156, 3) := by decide +kernel
theorem dX7_point_96 : decode cX7_point 96 = .ok (.ireturn, 1) := by decide +kernel
theorem dX7_point_97 : decode cX7_point 97 = .ok (.aload_n 0, 1) := by decide +kernel
theorem dX7_point_98 : decode cX7_point 98 = .ok (.getfield 26, 3) := by decide +kernel
theorem dX7_point_101 : decode cX7_point 101 = .ok (.iload_n 1, 1) := by decide +kernel
theorem dX7_point_102 : decode cX7_point 102 = .ok (.invokevirtual 190, 3) := by decide +kernel
theorem dX7_point_105 : decode cX7_point 105 = .ok (.ireturn, 1) := by decide +kernel
theorem dX7_point_106 : decode cX7_point 106 = .ok (.aload_n 0, 1) := by decide +kernel
theorem dX7_point_107 : decode cX7_point 107 = .ok (.getfield 26, 3) := by decide +kernel
theorem dX7_point_110 : decode cX7_point 110 = .ok (.iload_n 1, 1) := by decide +kernel
theorem dX7_point_111 : decode cX7_point 111 = .ok (.invokevirtual 193, 3) := by decide +kernel
theorem dX7_point_114 : decode cX7_point 114 = .ok (.invokestatic 156, 3) := by decide +kernel
theorem dX7_point_117 : decode cX7_point 117 = .ok (.ireturn, 1) := by decide +kernel
theorem dX7_point_118 : decode cX7_point 118 = .ok (.aload_n 0, 1) := by decide +kernel
theorem dX7_point_119 : decode cX7_point 119 = .ok (.getfield 26, 3) := by decide +kernel
theorem dX7_point_122 : decode cX7_point 122 = .ok (.iload_n 1, 1) := by decide +kernel
theorem dX7_point_123 : decode cX7_point 123 = .ok (.invokevirtual 196, 3) := by decide +kernel
theorem dX7_point_126 : decode cX7_point 126 = .ok (.ireturn, 1) := by decide +kernel
theorem dX7_point_127 : decode cX7_point 127 = .ok (.new 50, 3) := by decide +kernel
theorem dX7_point_130 : decode cX7_point 130 = .ok (.dup, 1) := by decide +kernel
theorem dX7_point_131 : decode cX7_point 131 = .ok (.ldc 174, 2) := by decide +kernel
theorem dX7_point_133 : decode cX7_point 133 = .ok (.invokespecial 54, 3) := by decide +kernel
theorem dX7_point_136 : decode cX7_point 136 = .ok (.athrow, 1) := by decide +kernel
theorem dX7_group_0 : decode cX7_group 0 = .ok (.aload_n 0, 1) := by decide +kernel
theorem dX7_group_1 : decode cX7_group 1 = .ok (.getfield 26, 3) := by decide +kernel
theorem dX7_group_4 : decode cX7_group 4 = .ok (.getfield 118, 3) := by decide +kernel
theorem dX7_group_7 : decode cX7_group 7 = .ok (.iload_n 1, 1) := by decide +kernel
theorem dX7_group_8 : decode cX7_group 8 = .ok (.invokevirtual 176, 3) := by decide +kernel
theorem dX7_group_11 : decode cX7_group 11 = .ok (.ifCond .ne 13, 3) := by decide +kernel
theorem dX7_group_14 : decode cX7_group 14 = .ok (.new 147, 3) := by decide +kernel
theorem dX7_group_17 : decode cX7_group 17 = .ok (.dup, 1) := by decide +kernel
theorem dX7_group_18 : decode cX7_group 18 = .ok (.ldc 179, 2) := by decide +kernel
theorem dX7_group_20 : decode cX7_group 20 = .ok (.invokespecial 151, 3) := by decide +kernel
theorem dX7_group_23 : decode cX7_group 23 = .ok (.athrow, 1) := by decide +kernel
theorem dX7_group_24 : decode cX7_group 24 = .ok (.iload_n 2, 1) := by decide +kernel
theorem dX7_group_25 : decode cX7_group 25 = .ok (.ifCond .eq 18, 3) := by decide +kernel
theorem dX7_group_28 : decode cX7_group 28 = .ok (.iload_n 2, 1) := by decide +kernel
theorem dX7_group_29 : decode cX7_group 29 = .ok (.iconst 1, 1) := by decide +kernel
theorem dX7_group_30 : decode cX7_group 30 = .ok (.if_icmp .eq 13, 3) := by decide +kernel
theorem dX7_group_33 : decode cX7_group 33 = .ok (.new 50, 3) := by decide +kernel
theorem dX7_group_36 : decode cX7_group 36 = .ok (.dup, 1) := by decide +kernel
theorem dX7_group_37 : decode cX7_group 37 = .ok (.ldc 199, 2) := by decide +kernel
theorem dX7_group_39 : decode cX7_group 39 = .ok (.invokespecial 54, 3) := by decide +kernel
theorem dX7_group_42 : decode cX7_group 42 = .ok (.athrow, 1) := by decide +kernel
theorem dX7_group_43 : decode cX7_group 43 = .ok (.iload_n 2, 1) := by decide +kernel
theorem dX7_group_44 : decode cX7_group 44 = .ok (.ifCond .ne 14, 3) := by decide +kernel
theorem dX7_group_47 : decode cX7_group 47 = .ok (.aload_n 0, 1) := by decide +kernel
theorem dX7_group_48 : decode cX7_group 48 = .ok (.getfield 26, 3) := by decide +kernel
theorem dX7_group_51 : decode cX7_group 51 = .ok (.iload_n 1, 1) := by decide +kernel
theorem dX7_group_52 : decode cX7_group 52 = .ok (.invokevirtual 184, 3) := by decide +kernel
theorem dX7_group_55 : decode cX7_group 55 = .ok (.goto 11, 3) := by decide +kernel
theorem dX7_group_58 : decode cX7_group 58 = .ok (.aload_n 0, 1) := by decide +kernel
theorem dX7_group_59 : decode cX7_group 59 = .ok (.getfield 26, 3) := by decide +kernel
theorem dX7_group_62 : decode cX7_group 62 = .ok (.iload_n 1, 1) := by decide +kernel
theorem dX7_group_63 : decode cX7_group 63 = .ok (.invokevirtual 187, 3) := by decide +kernel
theorem dX7_group_66 : decode cX7_group 66 = .ok (.lreturn, 1) := by decide +kernel
theorem dX7_why_0 : decode cX7_why 0 = .ok (.aload_n 0, 1) := by decide +kernel
theorem dX7_why_1 : decode cX7_why 1 = .ok (.getfield 26, 3) := by decide +kernel
theorem dX7_why_4 : decode cX7_why 4 = .ok (.getfield 118, 3) := by decide +kernel
theorem dX7_why_7 : decode cX7_why 7 = .ok (.iload_n 1, 1) := by decide +kernel
theorem dX7_why_8 : decode cX7_why 8 = .ok (.invokevirtual 176, 3) := by decide +kernel
theorem dX7_why_11 : decode cX7_why 11 = .ok (.ifCond .ne 13, 3) := by decide +kernel
theorem dX7_why_14 : decode cX7_why 14 = .ok (.new 147, 3) := by decide +kernel
theorem dX7_why_17 : decode cX7_why 17 = .ok (.dup, 1) := by decide +kernel
theorem dX7_why_18 : decode cX7_why 18 = .ok (.ldc 179, 2) := by decide +kernel
theorem dX7_why_20 : decode cX7_why 20 = .ok (.invokespecial 151, 3) := by decide +kernel
theorem dX7_why_23 : decode cX7_why 23 = .ok (.athrow, 1) := by decide +kernel
theorem dX7_why_24 : decode cX7_why 24 = .ok (.aload_n 0, 1) := by decide +kernel
theorem dX7_why_25 : decode cX7_why 25 = .ok (.getfield 26, 3) := by decide +kernel
theorem dX7_why_28 : decode cX7_why 28 = .ok (.iload_n 1, 1) := by decide +kernel
theorem dX7_why_29 : decode cX7_why 29 = .ok (.invokevirtual 201, 3) := by decide +kernel
theorem dX7_why_32 : decode cX7_why 32 = .ok (.ireturn, 1) := by decide +kernel
theorem dX7_board_0 : decode cX7_board 0 = .ok (.iload_n 1, 1) := by decide +kernel
theorem dX7_board_1 : decode cX7_board 1 = .ok (.iconst 3, 1) := by decide +kernel
theorem dX7_board_2 : decode cX7_board 2 = .ok (.if_icmp .lt 9, 3) := by decide +kernel
theorem dX7_board_5 : decode cX7_board 5 = .ok (.iload_n 1, 1) := by decide +kernel
theorem dX7_board_6 : decode cX7_board 6 = .ok (.bipush 7, 2) := by decide +kernel
theorem dX7_board_8 : decode cX7_board 8 = .ok (.if_icmp .le 13, 3) := by decide +kernel
theorem dX7_board_11 : decode cX7_board 11 = .ok (.new 50, 3) := by decide +kernel
theorem dX7_board_14 : decode cX7_board 14 = .ok (.dup, 1) := by decide +kernel
theorem dX7_board_15 : decode cX7_board 15 = .ok (.ldc 204, 2) := by decide +kernel
theorem dX7_board_17 : decode cX7_board 17 = .ok (.invokespecial 54, 3) := by decide +kernel
theorem dX7_board_20 : decode cX7_board 20 = .ok (.athrow, 1) := by decide +kernel
theorem dX7_board_21 : decode cX7_board 21 = .ok (.aload_n 0, 1) := by decide +kernel
theorem dX7_board_22 : decode cX7_board 22 = .ok (.getfield 36, 3) := by decide +kernel
theorem dX7_board_25 : decode cX7_board 25 = .ok (.aload_n 0, 1) := by decide +kernel
theorem dX7_board_26 : decode cX7_board 26 = .ok (.getfield 26, 3) := by decide +kernel
theorem dX7_board_29 : decode cX7_board 29 = .ok (.invokevirtual 206, 3) := by decide +kernel
theorem dX7_board_32 : decode cX7_board 32 = .ok (.aload_n 0, 1) := by decide +kernel
theorem dX7_board_33 : decode cX7_board 33 = .ok (.getfield 26, 3) := by decide +kernel
theorem dX7_board_36 : decode cX7_board 36 = .ok (.iload_n 1, 1) := by decide +kernel
theorem dX7_board_37 : decode cX7_board 37 = .ok (.invokevirtual 82, 3) := by decide +kernel
theorem dX7_board_40 : decode cX7_board 40 = .ok (.aload_n 0, 1) := by decide +kernel
theorem dX7_board_41 : decode cX7_board 41 = .ok (.getfield 26, 3) := by decide +kernel
theorem dX7_board_44 : decode cX7_board 44 = .ok (.getfield 118, 3) := by decide +kernel
theorem dX7_board_47 : decode cX7_board 47 = .ok (.getfield 210, 3) := by decide +kernel
theorem dX7_board_50 : decode cX7_board 50 = .ok (.ireturn, 1) := by decide +kernel
theorem dX7_play_0 : decode cX7_play 0 = .ok (.aload_n 0, 1) := by decide +kernel
theorem dX7_play_1 : decode cX7_play 1 = .ok (.getfield 26, 3) := by decide +kernel
theorem dX7_play_4 : decode cX7_play 4 = .ok (.getfield 118, 3) := by decide +kernel
theorem dX7_play_7 : decode cX7_play 7 = .ok (.iload_n 1, 1) := by decide +kernel
theorem dX7_play_8 : decode cX7_play 8 = .ok (.invokevirtual 176, 3) := by decide +kernel
theorem dX7_play_11 : decode cX7_play 11 = .ok (.ifCond .ne 13, 3) := by decide +kernel
theorem dX7_play_14 : decode cX7_play 14 = .ok (.new 147, 3) := by decide +kernel
theorem dX7_play_17 : decode cX7_play 17 = .ok (.dup, 1) := by decide +kernel
theorem dX7_play_18 : decode cX7_play 18 = .ok (.ldc 179, 2) := by decide +kernel
theorem dX7_play_20 : decode cX7_play 20 = .ok (.invokespecial 151, 3) := by decide +kernel
theorem dX7_play_23 : decode cX7_play 23 = .ok (.athrow, 1) := by decide +kernel
theorem dX7_play_24 : decode cX7_play 24 = .ok (.aload_n 0, 1) := by decide +kernel
theorem dX7_play_25 : decode cX7_play 25 = .ok (.getfield 26, 3) := by decide +kernel
theorem dX7_play_28 : decode cX7_play 28 = .ok (.iload_n 1, 1) := by decide +kernel
theorem dX7_play_29 : decode cX7_play 29 = .ok (.invokevirtual 201, 3) := by decide +kernel
theorem dX7_play_32 : decode cX7_play 32 = .ok (.ifCond .eq 13, 3) := by decide +kernel
theorem dX7_play_35 : decode cX7_play 35 = .ok (.new 61, 3) := by decide +kernel
theorem dX7_play_38 : decode cX7_play 38 = .ok (.dup, 1) := by decide +kernel
theorem dX7_play_39 : decode cX7_play 39 = .ok (.ldc 213, 2) := by decide +kernel
theorem dX7_play_41 : decode cX7_play 41 = .ok (.invokespecial 65, 3) := by decide +kernel
theorem dX7_play_44 : decode cX7_play 44 = .ok (.athrow, 1) := by decide +kernel
theorem dX7_play_45 : decode cX7_play 45 = .ok (.aload_n 0, 1) := by decide +kernel
theorem dX7_play_46 : decode cX7_play 46 = .ok (.getfield 36, 3) := by decide +kernel
theorem dX7_play_49 : decode cX7_play 49 = .ok (.aload_n 0, 1) := by decide +kernel
theorem dX7_play_50 : decode cX7_play 50 = .ok (.getfield 26, 3) := by decide +kernel
theorem dX7_play_53 : decode cX7_play 53 = .ok (.invokevirtual 206, 3) := by decide +kernel
theorem dX7_play_56 : decode cX7_play 56 = .ok (.aload_n 0, 1) := by decide +kernel
theorem dX7_play_57 : decode cX7_play 57 = .ok (.getfield 26, 3) := by decide +kernel
theorem dX7_play_60 : decode cX7_play 60 = .ok (.iload_n 1, 1) := by decide +kernel
theorem dX7_play_61 : decode cX7_play 61 = .ok (.invokevirtual 215, 3) := by decide +kernel
theorem dX7_play_64 : decode cX7_play 64 = .ok (.ireturn, 1) := by decide +kernel
theorem dX7_pass_0 : decode cX7_pass 0 = .ok (.aload_n 0, 1) := by decide +kernel
theorem dX7_pass_1 : decode cX7_pass 1 = .ok (.getfield 26, 3) := by decide +kernel
theorem dX7_pass_4 : decode cX7_pass 4 = .ok (.getfield 124, 3) := by decide +kernel
theorem dX7_pass_7 : decode cX7_pass 7 = .ok (.bipush 120, 2) := by decide +kernel
theorem dX7_pass_9 : decode cX7_pass 9 = .ok (.if_icmp .lt 13, 3) := by decide +kernel
theorem dX7_pass_12 : decode cX7_pass 12 = .ok (.new 61, 3) := by decide +kernel
theorem dX7_pass_15 : decode cX7_pass 15 = .ok (.dup, 1) := by decide +kernel
theorem dX7_pass_16 : decode cX7_pass 16 = .ok (.ldc 218, 2) := by decide +kernel
theorem dX7_pass_18 : decode cX7_pass 18 = .ok (.invokespecial 65, 3) := by decide +kernel
theorem dX7_pass_21 : decode cX7_pass 21 = .ok (.athrow, 1) := by decide +kernel
theorem dX7_pass_22 : decode cX7_pass 22 = .ok (.aload_n 0, 1) := by decide +kernel
theorem dX7_pass_23 : decode cX7_pass 23 = .ok (.getfield 36, 3) := by decide +kernel
theorem dX7_pass_26 : decode cX7_pass 26 = .ok (.aload_n 0, 1) := by decide +kernel
theorem dX7_pass_27 : decode cX7_pass 27 = .ok (.getfield 26, 3) := by decide +kernel
theorem dX7_pass_30 : decode cX7_pass 30 = .ok (.invokevirtual 206, 3) := by decide +kernel
theorem dX7_pass_33 : decode cX7_pass 33 = .ok (.aload_n 0, 1) := by decide +kernel
theorem dX7_pass_34 : decode cX7_pass 34 = .ok (.getfield 26, 3) := by decide +kernel
theorem dX7_pass_37 : decode cX7_pass 37 = .ok (.invokevirtual 101, 3) := by decide +kernel
theorem dX7_pass_40 : decode cX7_pass 40 = .ok (.pop, 1) := by decide +kernel
theorem dX7_pass_41 : decode cX7_pass 41 = .ok (.aload_n 0, 1) := by decide +kernel
theorem dX7_pass_42 : decode cX7_pass 42 = .ok (.getfield 26, 3) := by decide +kernel
theorem dX7_pass_45 : decode cX7_pass 45 = .ok (.getfield 130, 3) := by decide +kernel
theorem dX7_pass_48 : decode cX7_pass 48 = .ok (.ireturn, 1) := by decide +kernel
theorem dX7_set_0 : decode cX7_set 0 = .ok (.iload_n 1, 1) := by decide +kernel
theorem dX7_set_1 : decode cX7_set 1 = .ok (.ifCond .eq 18, 3) := by decide +kernel
theorem dX7_set_4 : decode cX7_set 4 = .ok (.iload_n 1, 1) := by decide +kernel
theorem dX7_set_5 : decode cX7_set 5 = .ok (.iconst 1, 1) := by decide +kernel
theorem dX7_set_6 : decode cX7_set 6 = .ok (.if_icmp .eq 13, 3) := by decide +kernel
theorem dX7_set_9 : decode cX7_set 9 = .ok (.new 50, 3) := by decide +kernel
theorem dX7_set_12 : decode cX7_set 12 = .ok (.dup, 1) := by decide +kernel
theorem dX7_set_13 : decode cX7_set 13 = .ok (.ldc 220, 2) := by decide +kernel
theorem dX7_set_15 : decode cX7_set 15 = .ok (.invokespecial 54, 3) := by decide +kernel
theorem dX7_set_18 : decode cX7_set 18 = .ok (.athrow, 1) := by decide +kernel
theorem dX7_set_19 : decode cX7_set 19 = .ok (.aload_n 0, 1) := by decide +kernel
theorem dX7_set_20 : decode cX7_set 20 = .ok (.getfield 36, 3) := by decide +kernel
theorem dX7_set_23 : decode cX7_set 23 = .ok (.aload_n 0, 1) := by decide +kernel
theorem dX7_set_24 : decode cX7_set 24 = .ok (.getfield 26, 3) := by decide +kernel
theorem dX7_set_27 : decode cX7_set 27 = .ok (.invokevirtual 206, 3) := by decide +kernel
theorem dX7_set_30 : decode cX7_set 30 = .ok (.aload_n 0, 1) := by decide +kernel
theorem dX7_set_31 : decode cX7_set 31 = .ok (.getfield 26, 3) := by decide +kernel
theorem dX7_set_34 : decode cX7_set 34 = .ok (.getfield 88, 3) := by decide +kernel
theorem dX7_set_37 : decode cX7_set 37 = .ok (.istore_n 2, 1) := by decide +kernel
theorem dX7_set_38 : decode cX7_set 38 = .ok (.aload_n 0, 1) := by decide +kernel
theorem dX7_set_39 : decode cX7_set 39 = .ok (.getfield 26, 3) := by decide +kernel
theorem dX7_set_42 : decode cX7_set 42 = .ok (.iload_n 1, 1) := by decide +kernel
theorem dX7_set_43 : decode cX7_set 43 = .ok (.putfield 88, 3) := by decide +kernel
theorem dX7_set_46 : decode cX7_set 46 = .ok (.iload_n 2, 1) := by decide +kernel
theorem dX7_set_47 : decode cX7_set 47 = .ok (.ireturn, 1) := by decide +kernel
theorem dX7_undo_0 : decode cX7_undo 0 = .ok (.aload_n 0, 1) := by decide +kernel
theorem dX7_undo_1 : decode cX7_undo 1 = .ok (.getfield 36, 3) := by decide +kernel
theorem dX7_undo_4 : decode cX7_undo 4 = .ok (.getfield 222, 3) := by decide +kernel
theorem dX7_undo_7 : decode cX7_undo 7 = .ok (.ifCond .gt 13, 3) := by decide +kernel
theorem dX7_undo_10 : decode cX7_undo 10 = .ok (.new 61, 3) := by decide +kernel
theorem dX7_undo_13 : decode cX7_undo 13 = .ok (.dup, 1) := by decide +kernel
theorem dX7_undo_14 : decode cX7_undo 14 = .ok (.ldc 225, 2) := by decide +kernel
theorem dX7_undo_16 : decode cX7_undo 16 = .ok (.invokespecial 65, 3) := by decide +kernel
theorem dX7_undo_19 : decode cX7_undo 19 = .ok (.athrow, 1) := by decide +kernel
theorem dX7_undo_20 : decode cX7_undo 20 = .ok (.aload_n 0, 1) := by decide +kernel
theorem dX7_undo_21 : decode cX7_undo 21 = .ok (.getfield 36, 3) := by decide +kernel
theorem dX7_undo_24 : decode cX7_undo 24 = .ok (.aload_n 0, 1) := by decide +kernel
theorem dX7_undo_25 : decode cX7_undo 25 = .ok (.getfield 26, 3) := by decide +kernel
theorem dX7_undo_28 : decode cX7_undo 28 = .ok (.invokevirtual 227, 3) := by decide +kernel
theorem dX7_undo_31 : decode cX7_undo 31 = .ok (.ireturn, 1) := by decide +kernel
theorem dX7_ifPlayed_0 : decode cX7_ifPlayed 0 = .ok (.aload_n 0, 1) := by decide +kernel
theorem dX7_ifPlayed_1 : decode cX7_ifPlayed 1 = .ok (.getfield 26, 3) := by decide +kernel
theorem dX7_ifPlayed_4 : decode cX7_ifPlayed 4 = .ok (.getfield 118, 3) := by decide +kernel
theorem dX7_ifPlayed_7 : decode cX7_ifPlayed 7 = .ok (.iload_n 1, 1) := by decide +kernel
theorem dX7_ifPlayed_8 : decode cX7_ifPlayed 8 = .ok (.invokevirtual 176, 3) := by decide +kernel
theorem dX7_ifPlayed_11 : decode cX7_ifPlayed 11 = .ok (.ifCond .ne 13, 3) := by decide +kernel
theorem dX7_ifPlayed_14 : decode cX7_ifPlayed 14 = .ok (.new 147, 3) := by decide +kernel
theorem dX7_ifPlayed_17 : decode cX7_ifPlayed 17 = .ok (.dup, 1) := by decide +kernel
theorem dX7_ifPlayed_18 : decode cX7_ifPlayed 18 = .ok (.ldc 179, 2) := by decide +kernel
theorem dX7_ifPlayed_20 : decode cX7_ifPlayed 20 = .ok (.invokespecial 151, 3) := by decide +kernel
theorem dX7_ifPlayed_23 : decode cX7_ifPlayed 23 = .ok (.athrow, 1) := by decide +kernel
theorem dX7_ifPlayed_24 : decode cX7_ifPlayed 24 = .ok (.iload_n 2, 1) := by decide +kernel
theorem dX7_ifPlayed_25 : decode cX7_ifPlayed 25 = .ok (.ifCond .lt 8, 3) := by decide +kernel
theorem dX7_ifPlayed_28 : decode cX7_ifPlayed 28 = .ok (.iload_n 2, 1) := by decide +kernel
theorem dX7_ifPlayed_29 : decode cX7_ifPlayed 29 = .ok (.iconst 3, 1) := by decide +kernel
theorem dX7_ifPlayed_30 : decode cX7_ifPlayed 30 = .ok (.if_icmp .le 13, 3) := by decide +kernel
theorem dX7_ifPlayed_33 : decode cX7_ifPlayed 33 = .ok (.new 50, 3) := by decide +kernel
theorem dX7_ifPlayed_36 : decode cX7_ifPlayed 36 = .ok (.dup, 1) := by decide +kernel
theorem dX7_ifPlayed_37 : decode cX7_ifPlayed 37 = .ok (.ldc 231, 2) := by decide +kernel
theorem dX7_ifPlayed_39 : decode cX7_ifPlayed 39 = .ok (.invokespecial 54, 3) := by decide +kernel
theorem dX7_ifPlayed_42 : decode cX7_ifPlayed 42 = .ok (.athrow, 1) := by decide +kernel
theorem dX7_ifPlayed_43 : decode cX7_ifPlayed 43 = .ok (.aload_n 0, 1) := by decide +kernel
theorem dX7_ifPlayed_44 : decode cX7_ifPlayed 44 = .ok (.getfield 26, 3) := by decide +kernel
theorem dX7_ifPlayed_47 : decode cX7_ifPlayed 47 = .ok (.iload_n 1, 1) := by decide +kernel
theorem dX7_ifPlayed_48 : decode cX7_ifPlayed 48 = .ok (.invokevirtual 201, 3) := by decide +kernel
theorem dX7_ifPlayed_51 : decode cX7_ifPlayed 51 = .ok (.ifCond .ne 15, 3) := by decide +kernel
theorem dX7_ifPlayed_54 : decode cX7_ifPlayed 54 = .ok (.aload_n 0, 1) := by decide +kernel
theorem dX7_ifPlayed_55 : decode cX7_ifPlayed 55 = .ok (.getfield 26, 3) := by decide +kernel
theorem dX7_ifPlayed_58 : decode cX7_ifPlayed 58 = .ok (.iload_n 1, 1) := by decide +kernel
theorem dX7_ifPlayed_59 : decode cX7_ifPlayed 59 = .ok (.iload_n 2, 1) := by decide +kernel
theorem dX7_ifPlayed_60 : decode cX7_ifPlayed 60 = .ok (.invokevirtual 233, 3) := by decide +kernel
theorem dX7_ifPlayed_63 : decode cX7_ifPlayed 63 = .ok (.goto 4, 3) := by decide +kernel
theorem dX7_ifPlayed_66 : decode cX7_ifPlayed 66 = .ok (.iconst (-1), 1) := by decide +kernel
theorem dX7_ifPlayed_67 : decode cX7_ifPlayed 67 = .ok (.ireturn, 1) := by decide +kernel
theorem dX7_bestTake_0 : decode cX7_bestTake 0 = .ok (.iconst (-1), 1) := by decide +kernel
theorem dX7_bestTake_1 : decode cX7_bestTake 1 = .ok (.istore_n 1, 1) := by decide +kernel
theorem dX7_bestTake_2 : decode cX7_bestTake 2 = .ok (.iconst 0, 1) := by decide +kernel
theorem dX7_bestTake_3 : decode cX7_bestTake 3 = .ok (.istore_n 2, 1) := by decide +kernel
theorem dX7_bestTake_4 : decode cX7_bestTake 4 = .ok (.iconst 0, 1) := by decide +kernel
theorem dX7_bestTake_5 : decode cX7_bestTake 5 = .ok (.istore_n 3, 1) := by decide +kernel
theorem dX7_bestTake_6 : decode cX7_bestTake 6 = .ok (.iload_n 3, 1) := by decide +kernel
theorem dX7_bestTake_7 : decode cX7_bestTake 7 = .ok (.aload_n 0, 1) := by decide +kernel
theorem dX7_bestTake_8 : decode cX7_bestTake 8 = .ok (.getfield 26, 3) := by decide +kernel
theorem dX7_bestTake_11 : decode cX7_bestTake 11 = .ok (.getfield 118, 3) := by decide +kernel
theorem dX7_bestTake_14 : decode cX7_bestTake 14 = .ok (.getfield 210, 3) := by decide +kernel
theorem dX7_bestTake_17 : decode cX7_bestTake 17 = .ok (.if_icmp .ge 46, 3) := by decide +kernel
theorem dX7_bestTake_20 : decode cX7_bestTake 20 = .ok (.aload_n 0, 1) := by decide +kernel
theorem dX7_bestTake_21 : decode cX7_bestTake 21 = .ok (.getfield 26, 3) := by decide +kernel
theorem dX7_bestTake_24 : decode cX7_bestTake 24 = .ok (.iload_n 3, 1) := by decide +kernel
theorem dX7_bestTake_25 : decode cX7_bestTake 25 = .ok (.invokevirtual 201, 3) := by decide +kernel
theorem dX7_bestTake_28 : decode cX7_bestTake 28 = .ok (.ifCond .ne 15, 3) := by decide +kernel
theorem dX7_bestTake_31 : decode cX7_bestTake 31 = .ok (.aload_n 0, 1) := by decide +kernel
theorem dX7_bestTake_32 : decode cX7_bestTake 32 = .ok (.getfield 26, 3) := by decide +kernel
theorem dX7_bestTake_35 : decode cX7_bestTake 35 = .ok (.iload_n 3, 1) := by decide +kernel
theorem dX7_bestTake_36 : decode cX7_bestTake 36 = .ok (.iconst 0, 1) := by decide +kernel
theorem dX7_bestTake_37 : decode cX7_bestTake 37 = .ok (.invokevirtual 233, 3) := by decide +kernel
theorem dX7_bestTake_40 : decode cX7_bestTake 40 = .ok (.goto 4, 3) := by decide +kernel
theorem dX7_bestTake_43 : decode cX7_bestTake 43 = .ok (.iconst 0, 1) := by decide +kernel
theorem dX7_bestTake_44 : decode cX7_bestTake 44 = .ok (.istore 4, 2) := by decide +kernel
theorem dX7_bestTake_46 : decode cX7_bestTake 46 = .ok (.iload 4, 2) := by decide +kernel
theorem dX7_bestTake_48 : decode cX7_bestTake 48 = .ok (.iload_n 2, 1) := by decide +kernel
theorem dX7_bestTake_49 : decode cX7_bestTake 49 = .ok (.if_icmp .le 8, 3) := by decide +kernel
theorem dX7_bestTake_52 : decode cX7_bestTake 52 = .ok (.iload_n 3, 1) := by decide +kernel
theorem dX7_bestTake_53 : decode cX7_bestTake 53 = .ok (.istore_n 1, 1) := by decide +kernel
theorem dX7_bestTake_54 : decode cX7_bestTake 54 = .ok (.iload 4, 2) := by decide +kernel
theorem dX7_bestTake_56 : decode cX7_bestTake 56 = .ok (.istore_n 2, 1) := by decide +kernel
theorem dX7_bestTake_57 : decode cX7_bestTake 57 = .ok (.iinc 3 1, 3) := by decide +kernel
theorem dX7_bestTake_60 : decode cX7_bestTake 60 = .ok (.goto (-54), 3) := by decide +kernel
theorem dX7_bestTake_63 : decode cX7_bestTake 63 = .ok (.iload_n 1, 1) := by decide +kernel
theorem dX7_bestTake_64 : decode cX7_bestTake 64 = .ok (.ireturn, 1) := by decide +kernel
theorem dX7_choices_0 : decode cX7_choices 0 = .ok (.iconst 0, 1) := by decide +kernel
theorem dX7_choices_1 : decode cX7_choices 1 = .ok (.istore_n 1, 1) := by decide +kernel
theorem dX7_choices_2 : decode cX7_choices 2 = .ok (.iconst 0, 1) := by decide +kernel
theorem dX7_choices_3 : decode cX7_choices 3 = .ok (.istore_n 2, 1) := by decide +kernel
theorem dX7_choices_4 : decode cX7_choices 4 = .ok (.iload_n 2, 1) := by decide +kernel
theorem dX7_choices_5 : decode cX7_choices 5 = .ok (.aload_n 0, 1) := by decide +kernel
theorem dX7_choices_6 : decode cX7_choices 6 = .ok (.getfield 26, 3) := by decide +kernel
theorem dX7_choices_9 : decode cX7_choices 9 = .ok (.getfield 118, 3) := by decide +kernel
theorem dX7_choices_12 : decode cX7_choices 12 = .ok (.getfield 210, 3) := by decide +kernel
theorem dX7_choices_15 : decode cX7_choices 15 = .ok (.if_icmp .ge 23, 3) := by decide +kernel
theorem dX7_choices_18 : decode cX7_choices 18 = .ok (.aload_n 0, 1) := by decide +kernel
theorem dX7_choices_19 : decode cX7_choices 19 = .ok (.getfield 26, 3) := by decide +kernel
theorem dX7_choices_22 : decode cX7_choices 22 = .ok (.iload_n 2, 1) := by decide +kernel
theorem dX7_choices_23 : decode cX7_choices 23 = .ok (.invokevirtual 201, 3) := by decide +kernel
theorem dX7_choices_26 : decode cX7_choices 26 = .ok (.ifCond .ne 6, 3) := by decide +kernel
theorem dX7_choices_29 : decode cX7_choices 29 = .ok (.iinc 1 1, 3) := by decide +kernel
theorem dX7_choices_32 : decode cX7_choices 32 = .ok (.iinc 2 1, 3) := by decide +kernel
theorem dX7_choices_35 : decode cX7_choices 35 = .ok (.goto (-31), 3) := by decide +kernel
theorem dX7_choices_38 : decode cX7_choices 38 = .ok (.iload_n 1, 1) := by decide +kernel
theorem dX7_choices_39 : decode cX7_choices 39 = .ok (.ireturn, 1) := by decide +kernel
theorem dX7_ladder_0 : decode cX7_ladder 0 = .ok (.aload_n 0, 1) := by decide +kernel
theorem dX7_ladder_1 : decode cX7_ladder 1 = .ok (.getfield 26, 3) := by decide +kernel
theorem dX7_ladder_4 : decode cX7_ladder 4 = .ok (.getfield 118, 3) := by decide +kernel
theorem dX7_ladder_7 : decode cX7_ladder 7 = .ok (.iload_n 1, 1) := by decide +kernel
theorem dX7_ladder_8 : decode cX7_ladder 8 = .ok (.invokevirtual 176, 3) := by decide +kernel
theorem dX7_ladder_11 : decode cX7_ladder 11 = .ok (.ifCond .ne 13, 3) := by decide +kernel
theorem dX7_ladder_14 : decode cX7_ladder 14 = .ok (.new 147, 3) := by decide +kernel
theorem dX7_ladder_17 : decode cX7_ladder 17 = .ok (.dup, 1) := by decide +kernel
theorem dX7_ladder_18 : decode cX7_ladder 18 = .ok (.ldc 179, 2) := by decide +kernel
theorem dX7_ladder_20 : decode cX7_ladder 20 = .ok (.invokespecial 151, 3) := by decide +kernel
theorem dX7_ladder_23 : decode cX7_ladder 23 = .ok (.athrow, 1) := by decide +kernel
theorem dX7_ladder_24 : decode cX7_ladder 24 = .ok (.iload_n 2, 1) := by decide +kernel
theorem dX7_ladder_25 : decode cX7_ladder 25 = .ok (.ifCond .eq 18, 3) := by decide +kernel
theorem dX7_ladder_28 : decode cX7_ladder 28 = .ok (.iload_n 2, 1) := by decide +kernel
theorem dX7_ladder_29 : decode cX7_ladder 29 = .ok (.iconst 1, 1) := by decide +kernel
theorem dX7_ladder_30 : decode cX7_ladder 30 = .ok (.if_icmp .eq 13, 3) := by decide +kernel
theorem dX7_ladder_33 : decode cX7_ladder 33 = .ok (.new 50, 3) := by decide +kernel
theorem dX7_ladder_36 : decode cX7_ladder 36 = .ok (.dup, 1) := by decide +kernel
theorem dX7_ladder_37 : decode cX7_ladder 37 = .ok (.ldc 199, 2) := by decide +kernel
theorem dX7_ladder_39 : decode cX7_ladder 39 = .ok (.invokespecial 54, 3) := by decide +kernel
theorem dX7_ladder_42 : decode cX7_ladder 42 = .ok (.athrow, 1) := by decide +kernel
theorem dX7_ladder_43 : decode cX7_ladder 43 = .ok (.aload_n 0, 1) := by decide +kernel
theorem dX7_ladder_44 : decode cX7_ladder 44 = .ok (.getfield 26, 3) := by decide +kernel
theorem dX7_ladder_47 : decode cX7_ladder 47 = .ok (.iload_n 1, 1) := by decide +kernel
theorem dX7_ladder_48 : decode cX7_ladder 48 = .ok (.invokevirtual 181, 3) := by decide +kernel
theorem dX7_ladder_51 : decode cX7_ladder 51 = .ok (.istore_n 3, 1) := by decide +kernel
theorem dX7_ladder_52 : decode cX7_ladder 52 = .ok (.iload_n 3, 1) := by decide +kernel
theorem dX7_ladder_53 : decode cX7_ladder 53 = .ok (.iconst (-1), 1) := by decide +kernel
theorem dX7_ladder_54 : decode cX7_ladder 54 = .ok (.if_icmp .ne 5, 3) := by decide +kernel
theorem dX7_ladder_57 : decode cX7_ladder 57 = .ok (.iconst (-1), 1) := by decide +kernel
theorem dX7_ladder_58 : decode cX7_ladder 58 = .ok (.ireturn, 1) := by decide +kernel
theorem dX7_ladder_59 : decode cX7_ladder 59 = .ok (.iload_n 2, 1) := by decide +kernel
theorem dX7_ladder_60 : decode cX7_ladder 60 = .ok (.ifCond .ne 49, 3) := by decide +kernel
theorem dX7_ladder_63 : decode cX7_ladder 63 = .ok (.aload_n 0, 1) := by decide +kernel
theorem dX7_ladder_64 : decode cX7_ladder 64 = .ok (.getfield 26, 3) := by decide +kernel
theorem dX7_ladder_67 : decode cX7_ladder 67 = .ok (.getfield 118, 3) := by decide +kernel
theorem dX7_ladder_70 : decode cX7_ladder 70 = .ok (.aload_n 0, 1) := by decide +kernel
theorem dX7_ladder_71 : decode cX7_ladder 71 = .ok (.getfield 26, 3) := by decide +kernel
theorem dX7_ladder_74 : decode cX7_ladder 74 = .ok (.iconst 1, 1) := by decide +kernel
theorem dX7_ladder_75 : decode cX7_ladder 75 = .ok (.iload_n 3, 1) := by decide +kernel
theorem dX7_ladder_76 : decode cX7_ladder 76 = .ok (.isub, 1) := by decide +kernel
theorem dX7_ladder_77 : decode cX7_ladder 77 = .ok (.invokevirtual 152, 3) := by decide +kernel
theorem dX7_ladder_80 : decode cX7_ladder 80 = .ok (.aload_n 0, 1) := by decide +kernel
theorem dX7_ladder_81 : decode cX7_ladder 81 = .ok (.getfield 26, 3) := by decide +kernel
theorem dX7_ladder_84 : decode cX7_ladder 84 = .ok (.iload_n 3, 1) := by decide +kernel
theorem dX7_ladder_85 : decode cX7_ladder 85 = .ok (.invokevirtual 152, 3) := by decide +kernel
theorem dX7_ladder_88 : decode cX7_ladder 88 = .ok (.lconst 1, 1) := by decide +kernel
theorem dX7_ladder_89 : decode cX7_ladder 89 = .ok (.iload_n 1, 1) := by decide +kernel
theorem dX7_ladder_90 : decode cX7_ladder 90 = .ok (.lshl, 1) := by decide +kernel
theorem dX7_ladder_91 : decode cX7_ladder 91 = .ok (.bipush 12, 2) := by decide +kernel
theorem dX7_ladder_93 : decode cX7_ladder 93 = .ok (.invokestatic 237, 3) := by decide +kernel
theorem dX7_ladder_96 : decode cX7_ladder 96 = .ok (.lconst 0, 1) := by decide +kernel
theorem dX7_ladder_97 : decode cX7_ladder 97 = .ok (.lcmp, 1) := by decide +kernel
theorem dX7_ladder_98 : decode cX7_ladder 98 = .ok (.ifCond .eq 7, 3) := by decide +kernel
theorem dX7_ladder_101 : decode cX7_ladder 101 = .ok (.iconst 1, 1) := by decide +kernel
theorem dX7_ladder_102 : decode cX7_ladder 102 = .ok (.goto 40, 3) := by decide +kernel
theorem dX7_ladder_105 : decode cX7_ladder 105 = .ok (.iconst 0, 1) := by decide +kernel
theorem dX7_ladder_106 : decode cX7_ladder 106 = .ok (.goto 36, 3) := by decide +kernel
theorem dX7_ladder_109 : decode cX7_ladder 109 = .ok (.aload_n 0, 1) := by decide +kernel
theorem dX7_ladder_110 : decode cX7_ladder 110 = .ok (.getfield 26, 3) := by decide +kernel
theorem dX7_ladder_113 : decode cX7_ladder 113 = .ok (.getfield 118, 3) := by decide +kernel
theorem dX7_ladder_116 : decode cX7_ladder 116 = .ok (.aload_n 0, 1) := by decide +kernel
theorem dX7_ladder_117 : decode cX7_ladder 117 = .ok (.getfield 26, 3) := by decide +kernel
theorem dX7_ladder_120 : decode cX7_ladder 120 = .ok (.iconst 1, 1) := by decide +kernel
theorem dX7_ladder_121 : decode cX7_ladder 121 = .ok (.iload_n 3, 1) := by decide +kernel
theorem dX7_ladder_122 : decode cX7_ladder 122 = .ok (.isub, 1) := by decide +kernel
theorem dX7_ladder_123 : decode cX7_ladder 123 = .ok (.invokevirtual 152, 3) := by decide +kernel
theorem dX7_ladder_126 : decode cX7_ladder 126 = .ok (.aload_n 0, 1) := by decide +kernel
theorem dX7_ladder_127 : decode cX7_ladder 127 = .ok (.getfield 26, 3) := by decide +kernel
theorem dX7_ladder_130 : decode cX7_ladder 130 = .ok (.iload_n 3, 1) := by decide +kernel
theorem dX7_ladder_131 : decode cX7_ladder 131 = .ok (.invokevirtual 152, 3) := by decide +kernel
theorem dX7_ladder_134 : decode cX7_ladder 134 = .ok (.lconst 1, 1) := by decide +kernel
theorem dX7_ladder_135 : decode cX7_ladder 135 = .ok (.iload_n 1, 1) := by decide +kernel
theorem dX7_ladder_136 : decode cX7_ladder 136 = .ok (.lshl, 1) := by decide +kernel
theorem dX7_ladder_137 : decode cX7_ladder 137 = .ok (.bipush 12, 2) := by decide +kernel
theorem dX7_ladder_139 : decode cX7_ladder 139 = .ok (.invokestatic 243, 3) := by decide +kernel
theorem dX7_ladder_142 : decode cX7_ladder 142 = .ok (.istore 4, 2) := by decide +kernel
theorem dX7_ladder_144 : decode cX7_ladder 144 = .ok (.iload 4, 2) := by decide +kernel
theorem dX7_ladder_146 : decode cX7_ladder 146 = .ok (.ifCond .eq 7, 3) := by decide +kernel
theorem dX7_ladder_149 : decode cX7_ladder 149 = .ok (.iconst 1, 1) := by decide +kernel
theorem dX7_ladder_150 : decode cX7_ladder 150 = .ok (.goto 4, 3) := by decide +kernel
theorem dX7_ladder_153 : decode cX7_ladder 153 = .ok (.iconst 0, 1) := by decide +kernel
theorem dX7_ladder_154 : decode cX7_ladder 154 = .ok (.ireturn, 1) := by decide +kernel
theorem dX7_chase_0 : decode cX7_chase 0 = .ok (.aload_n 0, 1) := by decide +kernel
theorem dX7_chase_1 : decode cX7_chase 1 = .ok (.getfield 26, 3) := by decide +kernel
theorem dX7_chase_4 : decode cX7_chase 4 = .ok (.getfield 118, 3) := by decide +kernel
theorem dX7_chase_7 : decode cX7_chase 7 = .ok (.iload_n 1, 1) := by decide +kernel
theorem dX7_chase_8 : decode cX7_chase 8 = .ok (.invokevirtual 176, 3) := by decide +kernel
theorem dX7_chase_11 : decode cX7_chase 11 = .ok (.ifCond .ne 13, 3) := by decide +kernel
theorem dX7_chase_14 : decode cX7_chase 14 = .ok (.new 147, 3) := by decide +kernel
theorem dX7_chase_17 : decode cX7_chase 17 = .ok (.dup, 1) := by decide +kernel
theorem dX7_chase_18 : decode cX7_chase 18 = .ok (.ldc 179, 2) := by decide +kernel
theorem dX7_chase_20 : decode cX7_chase 20 = .ok (.invokespecial 151, 3) := by decide +kernel
theorem dX7_chase_23 : decode cX7_chase 23 = .ok (.athrow, 1) := by decide +kernel
theorem dX7_chase_24 : decode cX7_chase 24 = .ok (.aload_n 0, 1) := by decide +kernel
theorem dX7_chase_25 : decode cX7_chase 25 = .ok (.getfield 26, 3) := by decide +kernel
theorem dX7_chase_28 : decode cX7_chase 28 = .ok (.iload_n 1, 1) := by decide +kernel
theorem dX7_chase_29 : decode cX7_chase 29 = .ok (.invokevirtual 181, 3) := by decide +kernel
theorem dX7_chase_32 : decode cX7_chase 32 = .ok (.istore_n 2, 1) := by decide +kernel
theorem dX7_chase_33 : decode cX7_chase 33 = .ok (.iload_n 2, 1) := by decide +kernel
theorem dX7_chase_34 : decode cX7_chase 34 = .ok (.iconst (-1), 1) := by decide +kernel
theorem dX7_chase_35 : decode cX7_chase 35 = .ok (.if_icmp .ne 5, 3) := by decide +kernel
theorem dX7_chase_38 : decode cX7_chase 38 = .ok (.iconst (-1), 1) := by decide +kernel
theorem dX7_chase_39 : decode cX7_chase 39 = .ok (.ireturn, 1) := by decide +kernel
theorem dX7_chase_40 : decode cX7_chase 40 = .ok (.aload_n 0, 1) := by decide +kernel
theorem dX7_chase_41 : decode cX7_chase 41 = .ok (.getfield 26, 3) := by decide +kernel
theorem dX7_chase_44 : decode cX7_chase 44 = .ok (.getfield 118, 3) := by decide +kernel
theorem dX7_chase_47 : decode cX7_chase 47 = .ok (.aload_n 0, 1) := by decide +kernel
theorem dX7_chase_48 : decode cX7_chase 48 = .ok (.getfield 26, 3) := by decide +kernel
theorem dX7_chase_51 : decode cX7_chase 51 = .ok (.iconst 1, 1) := by decide +kernel
theorem dX7_chase_52 : decode cX7_chase 52 = .ok (.iload_n 2, 1) := by decide +kernel
theorem dX7_chase_53 : decode cX7_chase 53 = .ok (.isub, 1) := by decide +kernel
theorem dX7_chase_54 : decode cX7_chase 54 = .ok (.invokevirtual 152, 3) := by decide +kernel
theorem dX7_chase_57 : decode cX7_chase 57 = .ok (.aload_n 0, 1) := by decide +kernel
theorem dX7_chase_58 : decode cX7_chase 58 = .ok (.getfield 26, 3) := by decide +kernel
theorem dX7_chase_61 : decode cX7_chase 61 = .ok (.iload_n 2, 1) := by decide +kernel
theorem dX7_chase_62 : decode cX7_chase 62 = .ok (.invokevirtual 152, 3) := by decide +kernel
theorem dX7_chase_65 : decode cX7_chase 65 = .ok (.lconst 1, 1) := by decide +kernel
theorem dX7_chase_66 : decode cX7_chase 66 = .ok (.iload_n 1, 1) := by decide +kernel
theorem dX7_chase_67 : decode cX7_chase 67 = .ok (.lshl, 1) := by decide +kernel
theorem dX7_chase_68 : decode cX7_chase 68 = .ok (.bipush 12, 2) := by decide +kernel
theorem dX7_chase_70 : decode cX7_chase 70 = .ok (.invokestatic 237, 3) := by decide +kernel
theorem dX7_chase_73 : decode cX7_chase 73 = .ok (.lstore_n 3, 1) := by decide +kernel
theorem dX7_chase_74 : decode cX7_chase 74 = .ok (.lload_n 3, 1) := by decide +kernel
theorem dX7_chase_75 : decode cX7_chase 75 = .ok (.lconst 0, 1) := by decide +kernel
theorem dX7_chase_76 : decode cX7_chase 76 = .ok (.lcmp, 1) := by decide +kernel
theorem dX7_chase_77 : decode cX7_chase 77 = .ok (.ifCond .ne 7, 3) := by decide +kernel
theorem dX7_chase_80 : decode cX7_chase 80 = .ok (.iconst (-1), 1) := by decide +kernel
theorem dX7_chase_81 : decode cX7_chase 81 = .ok (.goto 9, 3) := by decide +kernel
theorem dX7_chase_84 : decode cX7_chase 84 = .ok (.lload_n 3, 1) := by decide +kernel
theorem dX7_chase_85 : decode cX7_chase 85 = .ok (.lconst 1, 1) := by decide +kernel
theorem dX7_chase_86 : decode cX7_chase 86 = .ok (.lsub, 1) := by decide +kernel
theorem dX7_chase_87 : decode cX7_chase 87 = .ok (.invokestatic 156, 3) := by decide +kernel
theorem dX7_chase_90 : decode cX7_chase 90 = .ok (.ireturn, 1) := by decide +kernel
theorem dX7_lead_0 : decode cX7_lead 0 = .ok (.aload_n 0, 1) := by decide +kernel
theorem dX7_lead_1 : decode cX7_lead 1 = .ok (.getfield 26, 3) := by decide +kernel
theorem dX7_lead_4 : decode cX7_lead 4 = .ok (.iconst 0, 1) := by decide +kernel
theorem dX7_lead_5 : decode cX7_lead 5 = .ok (.invokevirtual 165, 3) := by decide +kernel
theorem dX7_lead_8 : decode cX7_lead 8 = .ok (.aload_n 0, 1) := by decide +kernel
theorem dX7_lead_9 : decode cX7_lead 9 = .ok (.getfield 26, 3) := by decide +kernel
theorem dX7_lead_12 : decode cX7_lead 12 = .ok (.iconst 1, 1) := by decide +kernel
theorem dX7_lead_13 : decode cX7_lead 13 = .ok (.invokevirtual 165, 3) := by decide +kernel
theorem dX7_lead_16 : decode cX7_lead 16 = .ok (.isub, 1) := by decide +kernel
theorem dX7_lead_17 : decode cX7_lead 17 = .ok (.ireturn, 1) := by decide +kernel
theorem dX7_runScript_0 : decode cX7_runScript 0 = .ok (.iload_n 1, 1) := by decide +kernel
theorem dX7_runScript_1 : decode cX7_runScript 1 = .ok (.iconst 1, 1) := by decide +kernel
theorem dX7_runScript_2 : decode cX7_runScript 2 = .ok (.if_icmp .lt 8, 3) := by decide +kernel
theorem dX7_runScript_5 : decode cX7_runScript 5 = .ok (.iload_n 1, 1) := by decide +kernel
theorem dX7_runScript_6 : decode cX7_runScript 6 = .ok (.iconst 4, 1) := by decide +kernel
theorem dX7_runScript_7 : decode cX7_runScript 7 = .ok (.if_icmp .le 13, 3) := by decide +kernel
theorem dX7_runScript_10 : decode cX7_runScript 10 = .ok (.new 50, 3) := by decide +kernel
theorem dX7_runScript_13 : decode cX7_runScript 13 = .ok (.dup, 1) := by decide +kernel
theorem dX7_runScript_14 : decode cX7_runScript 14 = .ok (.ldc 247, 2) := by decide +kernel
theorem dX7_runScript_16 : decode cX7_runScript 16 = .ok (.invokespecial 54, 3) := by decide +kernel
theorem dX7_runScript_19 : decode cX7_runScript 19 = .ok (.athrow, 1) := by decide +kernel
theorem dX7_runScript_20 : decode cX7_runScript 20 = .ok (.lload_n 2, 1) := by decide +kernel
theorem dX7_runScript_21 : decode cX7_runScript 21 = .ok (.lconst 0, 1) := by decide +kernel
theorem dX7_runScript_22 : decode cX7_runScript 22 = .ok (.lcmp, 1) := by decide +kernel
theorem dX7_runScript_23 : decode cX7_runScript 23 = .ok (.ifCond .lt 11, 3) := by decide +kernel
theorem dX7_runScript_26 : decode cX7_runScript 26 = .ok (.lload_n 2, 1) := by decide +kernel
theorem dX7_runScript_27 : decode cX7_runScript 27 = .ok (.invokestatic 249, 3) := by decide +kernel
theorem dX7_runScript_30 : decode cX7_runScript 30 = .ok (.iload_n 1, 1) := by decide +kernel
theorem dX7_runScript_31 : decode cX7_runScript 31 = .ok (.if_icmp .le 13, 3) := by decide +kernel
