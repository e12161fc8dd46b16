theorem dL_alike_48 : decode cL_alike 48 = .ok (.invokestatic 148, 3) := by decide +kernel
theorem dL_alike_51 : decode cL_alike 51 = .ok (.lcmp, 1) := by decide +kernel
theorem dL_alike_52 : decode cL_alike 52 = .ok (.ifCond .ne 7, 3) := by decide +kernel
theorem dL_alike_55 : decode cL_alike 55 = .ok (.iconst 1, 1) := by decide +kernel
theorem dL_alike_56 : decode cL_alike 56 = .ok (.goto 4, 3) := by decide +kernel
theorem dL_alike_59 : decode cL_alike 59 = .ok (.iconst 0, 1) := by decide +kernel
theorem dL_alike_60 : decode cL_alike 60 = .ok (.istore_n 3, 1) := by decide +kernel
theorem dL_alike_61 : decode cL_alike 61 = .ok (.iconst 0, 1) := by decide +kernel
theorem dL_alike_62 : decode cL_alike 62 = .ok (.istore 4, 2) := by decide +kernel
theorem dL_alike_64 : decode cL_alike 64 = .ok (.iload 4, 2) := by decide +kernel
theorem dL_alike_66 : decode cL_alike 66 = .ok (.bipush 8, 2) := by decide +kernel
theorem dL_alike_68 : decode cL_alike 68 = .ok (.if_icmp .ge 106, 3) := by decide +kernel
theorem dL_alike_71 : decode cL_alike 71 = .ok (.iload_n 3, 1) := by decide +kernel
theorem dL_alike_72 : decode cL_alike 72 = .ok (.ifCond .eq 102, 3) := by decide +kernel
theorem dL_alike_75 : decode cL_alike 75 = .ok (.aload_n 0, 1) := by decide +kernel
theorem dL_alike_76 : decode cL_alike 76 = .ok (.iconst 2, 1) := by decide +kernel
theorem dL_alike_77 : decode cL_alike 77 = .ok (.iload 4, 2) := by decide +kernel
theorem dL_alike_79 : decode cL_alike 79 = .ok (.iconst 0, 1) := by decide +kernel
theorem dL_alike_80 : decode cL_alike 80 = .ok (.iconst 0, 1) := by decide +kernel
theorem dL_alike_81 : decode cL_alike 81 = .ok (.invokestatic 144, 3) := by decide +kernel
theorem dL_alike_84 : decode cL_alike 84 = .ok (.aload_n 1, 1) := by decide +kernel
theorem dL_alike_85 : decode cL_alike 85 = .ok (.iconst 2, 1) := by decide +kernel
theorem dL_alike_86 : decode cL_alike 86 = .ok (.iload 4, 2) := by decide +kernel
theorem dL_alike_88 : decode cL_alike 88 = .ok (.iconst 0, 1) := by decide +kernel
theorem dL_alike_89 : decode cL_alike 89 = .ok (.iconst 0, 1) := by decide +kernel
theorem dL_alike_90 : decode cL_alike 90 = .ok (.invokestatic 144, 3) := by decide +kernel
theorem dL_alike_93 : decode cL_alike 93 = .ok (.if_icmp .ne 73, 3) := by decide +kernel
theorem dL_alike_96 : decode cL_alike 96 = .ok (.aload_n 0, 1) := by decide +kernel
theorem dL_alike_97 : decode cL_alike 97 = .ok (.iconst 3, 1) := by decide +kernel
theorem dL_alike_98 : decode cL_alike 98 = .ok (.iload 4, 2) := by decide +kernel
theorem dL_alike_100 : decode cL_alike 100 = .ok (.iconst 2, 1) := by decide +kernel
theorem dL_alike_101 : decode cL_alike 101 = .ok (.irem, 1) := by decide +kernel
theorem dL_alike_102 : decode cL_alike 102 = .ok (.iload 4, 2) := by decide +kernel
theorem dL_alike_104 : decode cL_alike 104 = .ok (.iconst 2, 1) := by decide +kernel
theorem dL_alike_105 : decode cL_alike 105 = .ok (.idiv, 1) := by decide +kernel
theorem dL_alike_106 : decode cL_alike 106 = .ok (.iconst 0, 1) := by decide +kernel
theorem dL_alike_107 : decode cL_alike 107 = .ok (.invokestatic 144, 3) := by decide +kernel
theorem dL_alike_110 : decode cL_alike 110 = .ok (.aload_n 1, 1) := by decide +kernel
theorem dL_alike_111 : decode cL_alike 111 = .ok (.iconst 3, 1) := by decide +kernel
theorem dL_alike_112 : decode cL_alike 112 = .ok (.iload 4, 2) := by decide +kernel
theorem dL_alike_114 : decode cL_alike 114 = .ok (.iconst 2, 1) := by decide +kernel
theorem dL_alike_115 : decode cL_alike 115 = .ok (.irem, 1) := by decide +kernel
theorem dL_alike_116 : decode cL_alike 116 = .ok (.iload 4, 2) := by decide +kernel
theorem dL_alike_118 : decode cL_alike 118 = .ok (.iconst 2, 1) := by decide +kernel
theorem dL_alike_119 : decode cL_alike 119 = .ok (.idiv, 1) := by decide +kernel
theorem dL_alike_120 : decode cL_alike 120 = .ok (.iconst 0, 1) := by decide +kernel
theorem dL_alike_121 : decode cL_alike 121 = .ok (.invokestatic 144, 3) := by decide +kernel
theorem dL_alike_124 : decode cL_alike 124 = .ok (.if_icmp .ne 42, 3) := by decide +kernel
theorem dL_alike_127 : decode cL_alike 127 = .ok (.aload_n 0, 1) := by decide +kernel
theorem dL_alike_128 : decode cL_alike 128 = .ok (.iconst 5, 1) := by decide +kernel
theorem dL_alike_129 : decode cL_alike 129 = .ok (.iconst 2, 1) := by decide +kernel
theorem dL_alike_130 : decode cL_alike 130 = .ok (.iload 4, 2) := by decide +kernel
theorem dL_alike_132 : decode cL_alike 132 = .ok (.imul, 1) := by decide +kernel
theorem dL_alike_133 : decode cL_alike 133 = .ok (.iload_n 2, 1) := by decide +kernel
theorem dL_alike_134 : decode cL_alike 134 = .ok (.bipush 9, 2) := by decide +kernel
theorem dL_alike_136 : decode cL_alike 136 = .ok (.irem, 1) := by decide +kernel
theorem dL_alike_137 : decode cL_alike 137 = .ok (.iadd, 1) := by decide +kernel
theorem dL_alike_138 : decode cL_alike 138 = .ok (.iconst 0, 1) := by decide +kernel
theorem dL_alike_139 : decode cL_alike 139 = .ok (.iconst 0, 1) := by decide +kernel
theorem dL_alike_140 : decode cL_alike 140 = .ok (.invokestatic 144, 3) := by decide +kernel
theorem dL_alike_143 : decode cL_alike 143 = .ok (.aload_n 1, 1) := by decide +kernel
theorem dL_alike_144 : decode cL_alike 144 = .ok (.iconst 5, 1) := by decide +kernel
theorem dL_alike_145 : decode cL_alike 145 = .ok (.iconst 2, 1) := by decide +kernel
theorem dL_alike_146 : decode cL_alike 146 = .ok (.iload 4, 2) := by decide +kernel
theorem dL_alike_148 : decode cL_alike 148 = .ok (.imul, 1) := by decide +kernel
theorem dL_alike_149 : decode cL_alike 149 = .ok (.iload_n 2, 1) := by decide +kernel
theorem dL_alike_150 : decode cL_alike 150 = .ok (.bipush 9, 2) := by decide +kernel
theorem dL_alike_152 : decode cL_alike 152 = .ok (.irem, 1) := by decide +kernel
theorem dL_alike_153 : decode cL_alike 153 = .ok (.iadd, 1) := by decide +kernel
theorem dL_alike_154 : decode cL_alike 154 = .ok (.iconst 0, 1) := by decide +kernel
theorem dL_alike_155 : decode cL_alike 155 = .ok (.iconst 0, 1) := by decide +kernel
theorem dL_alike_156 : decode cL_alike 156 = .ok (.invokestatic 144, 3) := by decide +kernel
theorem dL_alike_159 : decode cL_alike 159 = .ok (.if_icmp .ne 7, 3) := by decide +kernel
theorem dL_alike_162 : decode cL_alike 162 = .ok (.iconst 1, 1) := by decide +kernel
theorem dL_alike_163 : decode cL_alike 163 = .ok (.goto 4, 3) := by decide +kernel
theorem dL_alike_166 : decode cL_alike 166 = .ok (.iconst 0, 1) := by decide +kernel
theorem dL_alike_167 : decode cL_alike 167 = .ok (.istore_n 3, 1) := by decide +kernel
theorem dL_alike_168 : decode cL_alike 168 = .ok (.iinc 4 1, 3) := by decide +kernel
theorem dL_alike_171 : decode cL_alike 171 = .ok (.goto (-107), 3) := by decide +kernel
theorem dL_alike_174 : decode cL_alike 174 = .ok (.iload_n 3, 1) := by decide +kernel
theorem dL_alike_175 : decode cL_alike 175 = .ok (.ireturn, 1) := by decide +kernel
theorem dL_law_0 : decode cL_law 0 = .ok (.new 8, 3) := by decide +kernel
theorem dL_law_3 : decode cL_law 3 = .ok (.dup, 1) := by decide +kernel
theorem dL_law_4 : decode cL_law 4 = .ok (.invokespecial 184, 3) := by decide +kernel
theorem dL_law_7 : decode cL_law 7 = .ok (.astore_n 1, 1) := by decide +kernel
theorem dL_law_8 : decode cL_law 8 = .ok (.new 8, 3) := by decide +kernel
theorem dL_law_11 : decode cL_law 11 = .ok (.dup, 1) := by decide +kernel
theorem dL_law_12 : decode cL_law 12 = .ok (.invokespecial 184, 3) := by decide +kernel
theorem dL_law_15 : decode cL_law 15 = .ok (.astore_n 2, 1) := by decide +kernel
theorem dL_law_16 : decode cL_law 16 = .ok (.bipush 12, 2) := by decide +kernel
theorem dL_law_18 : decode cL_law 18 = .ok (.aload_n 0, 1) := by decide +kernel
theorem dL_law_19 : decode cL_law 19 = .ok (.iconst 0, 1) := by decide +kernel
theorem dL_law_20 : decode cL_law 20 = .ok (.invokestatic 185, 3) := by decide +kernel
theorem dL_law_23 : decode cL_law 23 = .ok (.bipush 25, 2) := by decide +kernel
theorem dL_law_25 : decode cL_law 25 = .ok (.irem, 1) := by decide +kernel
theorem dL_law_26 : decode cL_law 26 = .ok (.iadd, 1) := by decide +kernel
theorem dL_law_27 : decode cL_law 27 = .ok (.istore_n 3, 1) := by decide +kernel
theorem dL_law_28 : decode cL_law 28 = .ok (.iconst 1, 1) := by decide +kernel
theorem dL_law_29 : decode cL_law 29 = .ok (.istore 4, 2) := by decide +kernel
theorem dL_law_31 : decode cL_law 31 = .ok (.iconst 0, 1) := by decide +kernel
theorem dL_law_32 : decode cL_law 32 = .ok (.istore 5, 2) := by decide +kernel
theorem dL_law_34 : decode cL_law 34 = .ok (.iload 5, 2) := by decide +kernel
theorem dL_law_36 : decode cL_law 36 = .ok (.iload_n 3, 1) := by decide +kernel
theorem dL_law_37 : decode cL_law 37 = .ok (.if_icmp .ge 147, 3) := by decide +kernel
theorem dL_law_40 : decode cL_law 40 = .ok (.iload 4, 2) := by decide +kernel
theorem dL_law_42 : decode cL_law 42 = .ok (.ifCond .eq 142, 3) := by decide +kernel
theorem dL_law_45 : decode cL_law 45 = .ok (.aload_n 0, 1) := by decide +kernel
theorem dL_law_46 : decode cL_law 46 = .ok (.iconst 1, 1) := by decide +kernel
theorem dL_law_47 : decode cL_law 47 = .ok (.iload 5, 2) := by decide +kernel
theorem dL_law_49 : decode cL_law 49 = .ok (.iadd, 1) := by decide +kernel
theorem dL_law_50 : decode cL_law 50 = .ok (.invokestatic 185, 3) := by decide +kernel
theorem dL_law_53 : decode cL_law 53 = .ok (.istore 6, 2) := by decide +kernel
theorem dL_law_55 : decode cL_law 55 = .ok (.aload_n 1, 1) := by decide +kernel
theorem dL_law_56 : decode cL_law 56 = .ok (.iload 6, 2) := by decide +kernel
theorem dL_law_58 : decode cL_law 58 = .ok (.invokestatic 189, 3) := by decide +kernel
theorem dL_law_61 : decode cL_law 61 = .ok (.istore 7, 2) := by decide +kernel
theorem dL_law_63 : decode cL_law 63 = .ok (.aload_n 2, 1) := by decide +kernel
theorem dL_law_64 : decode cL_law 64 = .ok (.iload 6, 2) := by decide +kernel
theorem dL_law_66 : decode cL_law 66 = .ok (.ldc 192, 2) := by decide +kernel
theorem dL_law_68 : decode cL_law 68 = .ok (.irem, 1) := by decide +kernel
theorem dL_law_69 : decode cL_law 69 = .ok (.invokestatic 193, 3) := by decide +kernel
theorem dL_law_72 : decode cL_law 72 = .ok (.ifCond .eq 103, 3) := by decide +kernel
theorem dL_law_75 : decode cL_law 75 = .ok (.aload_n 2, 1) := by decide +kernel
theorem dL_law_76 : decode cL_law 76 = .ok (.iload 6, 2) := by decide +kernel
theorem dL_law_78 : decode cL_law 78 = .ok (.invokestatic 189, 3) := by decide +kernel
theorem dL_law_81 : decode cL_law 81 = .ok (.iload 7, 2) := by decide +kernel
theorem dL_law_83 : decode cL_law 83 = .ok (.if_icmp .ne 92, 3) := by decide +kernel
theorem dL_law_86 : decode cL_law 86 = .ok (.aload_n 2, 1) := by decide +kernel
theorem dL_law_87 : decode cL_law 87 = .ok (.iload 6, 2) := by decide +kernel
theorem dL_law_89 : decode cL_law 89 = .ok (.sipush 1000, 3) := by decide +kernel
theorem dL_law_92 : decode cL_law 92 = .ok (.irem, 1) := by decide +kernel
theorem dL_law_93 : decode cL_law 93 = .ok (.invokestatic 193, 3) := by decide +kernel
theorem dL_law_96 : decode cL_law 96 = .ok (.ifCond .eq 79, 3) := by decide +kernel
theorem dL_law_99 : decode cL_law 99 = .ok (.aload_n 1, 1) := by decide +kernel
theorem dL_law_100 : decode cL_law 100 = .ok (.aload_n 2, 1) := by decide +kernel
theorem dL_law_101 : decode cL_law 101 = .ok (.iload 6, 2) := by decide +kernel
theorem dL_law_103 : decode cL_law 103 = .ok (.sipush 5000, 3) := by decide +kernel
theorem dL_law_106 : decode cL_law 106 = .ok (.irem, 1) := by decide +kernel
theorem dL_law_107 : decode cL_law 107 = .ok (.invokestatic 197, 3) := by decide +kernel
theorem dL_law_110 : decode cL_law 110 = .ok (.ifCond .eq 65, 3) := by decide +kernel
theorem dL_law_113 : decode cL_law 113 = .ok (.iload 5, 2) := by decide +kernel
theorem dL_law_115 : decode cL_law 115 = .ok (.iconst 4, 1) := by decide +kernel
theorem dL_law_116 : decode cL_law 116 = .ok (.irem, 1) := by decide +kernel
theorem dL_law_117 : decode cL_law 117 = .ok (.ifCond .gt 28, 3) := by decide +kernel
theorem dL_law_120 : decode cL_law 120 = .ok (.iload 5, 2) := by decide +kernel
theorem dL_law_122 : decode cL_law 122 = .ok (.bipush 8, 2) := by decide +kernel
theorem dL_law_124 : decode cL_law 124 = .ok (.irem, 1) := by decide +kernel
theorem dL_law_125 : decode cL_law 125 = .ok (.ifCond .ne 13, 3) := by decide +kernel
theorem dL_law_128 : decode cL_law 128 = .ok (.aload_n 1, 1) := by decide +kernel
theorem dL_law_129 : decode cL_law 129 = .ok (.invokestatic 201, 3) := by decide +kernel
theorem dL_law_132 : decode cL_law 132 = .ok (.ifCond .eq 43, 3) := by decide +kernel
theorem dL_law_135 : decode cL_law 135 = .ok (.goto 10, 3) := by decide +kernel
theorem dL_law_138 : decode cL_law 138 = .ok (.aload_n 2, 1) := by decide +kernel
theorem dL_law_139 : decode cL_law 139 = .ok (.invokestatic 201, 3) := by decide +kernel
theorem dL_law_142 : decode cL_law 142 = .ok (.ifCond .eq 33, 3) := by decide +kernel
theorem dL_law_145 : decode cL_law 145 = .ok (.aload_n 1, 1) := by decide +kernel
theorem dL_law_146 : decode cL_law 146 = .ok (.aload_n 2, 1) := by decide +kernel
theorem dL_law_147 : decode cL_law 147 = .ok (.iload 6, 2) := by decide +kernel
theorem dL_law_149 : decode cL_law 149 = .ok (.bipush 7, 2) := by decide +kernel
theorem dL_law_151 : decode cL_law 151 = .ok (.idiv, 1) := by decide +kernel
theorem dL_law_152 : decode cL_law 152 = .ok (.invokestatic 205, 3) := by decide +kernel
theorem dL_law_155 : decode cL_law 155 = .ok (.ifCond .eq 20, 3) := by decide +kernel
theorem dL_law_158 : decode cL_law 158 = .ok (.aload_n 1, 1) := by decide +kernel
theorem dL_law_159 : decode cL_law 159 = .ok (.aload_n 2, 1) := by decide +kernel
theorem dL_law_160 : decode cL_law 160 = .ok (.iload 6, 2) := by decide +kernel
theorem dL_law_162 : decode cL_law 162 = .ok (.bipush 11, 2) := by decide +kernel
theorem dL_law_164 : decode cL_law 164 = .ok (.idiv, 1) := by decide +kernel
theorem dL_law_165 : decode cL_law 165 = .ok (.invokestatic 208, 3) := by decide +kernel
theorem dL_law_168 : decode cL_law 168 = .ok (.ifCond .eq 7, 3) := by decide +kernel
theorem dL_law_171 : decode cL_law 171 = .ok (.iconst 1, 1) := by decide +kernel
theorem dL_law_172 : decode cL_law 172 = .ok (.goto 4, 3) := by decide +kernel
theorem dL_law_175 : decode cL_law 175 = .ok (.iconst 0, 1) := by decide +kernel
theorem dL_law_176 : decode cL_law 176 = .ok (.istore 4, 2) := by decide +kernel
theorem dL_law_178 : decode cL_law 178 = .ok (.iinc 5 1, 3) := by decide +kernel
theorem dL_law_181 : decode cL_law 181 = .ok (.goto (-147), 3) := by decide +kernel
theorem dL_law_184 : decode cL_law 184 = .ok (.iload 4, 2) := by decide +kernel
theorem dL_law_186 : decode cL_law 186 = .ok (.ireturn, 1) := by decide +kernel
theorem dL_lays_0 : decode cL_lays 0 = .ok (.aload_n 0, 1) := by decide +kernel
theorem dL_lays_1 : decode cL_lays 1 = .ok (.iconst 2, 1) := by decide +kernel
theorem dL_lays_2 : decode cL_lays 2 = .ok (.iconst 0, 1) := by decide +kernel
theorem dL_lays_3 : decode cL_lays 3 = .ok (.iconst 0, 1) := by decide +kernel
theorem dL_lays_4 : decode cL_lays 4 = .ok (.iconst 0, 1) := by decide +kernel
theorem dL_lays_5 : decode cL_lays 5 = .ok (.invokestatic 144, 3) := by decide +kernel
theorem dL_lays_8 : decode cL_lays 8 = .ok (.aload_n 0, 1) := by decide +kernel
theorem dL_lays_9 : decode cL_lays 9 = .ok (.iconst 2, 1) := by decide +kernel
theorem dL_lays_10 : decode cL_lays 10 = .ok (.iconst 0, 1) := by decide +kernel
theorem dL_lays_11 : decode cL_lays 11 = .ok (.iconst 0, 1) := by decide +kernel
theorem dL_lays_12 : decode cL_lays 12 = .ok (.iconst 0, 1) := by decide +kernel
theorem dL_lays_13 : decode cL_lays 13 = .ok (.invokestatic 144, 3) := by decide +kernel
theorem dL_lays_16 : decode cL_lays 16 = .ok (.imul, 1) := by decide +kernel
theorem dL_lays_17 : decode cL_lays 17 = .ok (.istore_n 3, 1) := by decide +kernel
theorem dL_lays_18 : decode cL_lays 18 = .ok (.iload_n 2, 1) := by decide +kernel
theorem dL_lays_19 : decode cL_lays 19 = .ok (.iload_n 3, 1) := by decide +kernel
theorem dL_lays_20 : decode cL_lays 20 = .ok (.irem, 1) := by decide +kernel
theorem dL_lays_21 : decode cL_lays 21 = .ok (.istore 4, 2) := by decide +kernel
theorem dL_lays_23 : decode cL_lays 23 = .ok (.aload_n 0, 1) := by decide +kernel
theorem dL_lays_24 : decode cL_lays 24 = .ok (.iconst 5, 1) := by decide +kernel
theorem dL_lays_25 : decode cL_lays 25 = .ok (.iload 4, 2) := by decide +kernel
theorem dL_lays_27 : decode cL_lays 27 = .ok (.iconst 0, 1) := by decide +kernel
theorem dL_lays_28 : decode cL_lays 28 = .ok (.iconst 0, 1) := by decide +kernel
theorem dL_lays_29 : decode cL_lays 29 = .ok (.invokestatic 144, 3) := by decide +kernel
theorem dL_lays_32 : decode cL_lays 32 = .ok (.istore 5, 2) := by decide +kernel
theorem dL_lays_34 : decode cL_lays 34 = .ok (.aload_n 0, 1) := by decide +kernel
theorem dL_lays_35 : decode cL_lays 35 = .ok (.bipush 11, 2) := by decide +kernel
theorem dL_lays_37 : decode cL_lays 37 = .ok (.iload 4, 2) := by decide +kernel
theorem dL_lays_39 : decode cL_lays 39 = .ok (.iconst 0, 1) := by decide +kernel
theorem dL_lays_40 : decode cL_lays 40 = .ok (.iconst 0, 1) := by decide +kernel
theorem dL_lays_41 : decode cL_lays 41 = .ok (.invokestatic 144, 3) := by decide +kernel
theorem dL_lays_44 : decode cL_lays 44 = .ok (.istore 6, 2) := by decide +kernel
theorem dL_lays_46 : decode cL_lays 46 = .ok (.aload_n 0, 1) := by decide +kernel
theorem dL_lays_47 : decode cL_lays 47 = .ok (.bipush 11, 2) := by decide +kernel
theorem dL_lays_49 : decode cL_lays 49 = .ok (.iload 4, 2) := by decide +kernel
theorem dL_lays_51 : decode cL_lays 51 = .ok (.iconst 1, 1) := by decide +kernel
theorem dL_lays_52 : decode cL_lays 52 = .ok (.iconst 0, 1) := by decide +kernel
theorem dL_lays_53 : decode cL_lays 53 = .ok (.invokestatic 144, 3) := by decide +kernel
theorem dL_lays_56 : decode cL_lays 56 = .ok (.istore 7, 2) := by decide +kernel
theorem dL_lays_58 : decode cL_lays 58 = .ok (.aload_n 0, 1) := by decide +kernel
theorem dL_lays_59 : decode cL_lays 59 = .ok (.bipush 11, 2) := by decide +kernel
theorem dL_lays_61 : decode cL_lays 61 = .ok (.iload 4, 2) := by decide +kernel
theorem dL_lays_63 : decode cL_lays 63 = .ok (.iconst 2, 1) := by decide +kernel
theorem dL_lays_64 : decode cL_lays 64 = .ok (.iconst 0, 1) := by decide +kernel
theorem dL_lays_65 : decode cL_lays 65 = .ok (.invokestatic 144, 3) := by decide +kernel
theorem dL_lays_68 : decode cL_lays 68 = .ok (.istore 8, 2) := by decide +kernel
theorem dL_lays_70 : decode cL_lays 70 = .ok (.aload_n 0, 1) := by decide +kernel
theorem dL_lays_71 : decode cL_lays 71 = .ok (.iconst 2, 1) := by decide +kernel
theorem dL_lays_72 : decode cL_lays 72 = .ok (.iconst 2, 1) := by decide +kernel
theorem dL_lays_73 : decode cL_lays 73 = .ok (.iconst 0, 1) := by decide +kernel
theorem dL_lays_74 : decode cL_lays 74 = .ok (.iconst 0, 1) := by decide +kernel
theorem dL_lays_75 : decode cL_lays 75 = .ok (.invokestatic 144, 3) := by decide +kernel
theorem dL_lays_78 : decode cL_lays 78 = .ok (.istore 9, 2) := by decide +kernel
theorem dL_lays_80 : decode cL_lays 80 = .ok (.aload_n 0, 1) := by decide +kernel
theorem dL_lays_81 : decode cL_lays 81 = .ok (.iconst 3, 1) := by decide +kernel
theorem dL_lays_82 : decode cL_lays 82 = .ok (.iload 9, 2) := by decide +kernel
theorem dL_lays_84 : decode cL_lays 84 = .ok (.iconst 1, 1) := by decide +kernel
theorem dL_lays_85 : decode cL_lays 85 = .ok (.iconst 0, 1) := by decide +kernel
theorem dL_lays_86 : decode cL_lays 86 = .ok (.invokestatic 144, 3) := by decide +kernel
theorem dL_lays_89 : decode cL_lays 89 = .ok (.istore 10, 2) := by decide +kernel
theorem dL_lays_91 : decode cL_lays 91 = .ok (.aload_n 0, 1) := by decide +kernel
theorem dL_lays_92 : decode cL_lays 92 = .ok (.iconst 0, 1) := by decide +kernel
theorem dL_lays_93 : decode cL_lays 93 = .ok (.invokestatic 148, 3) := by decide +kernel
theorem dL_lays_96 : decode cL_lays 96 = .ok (.lstore 11, 2) := by decide +kernel
theorem dL_lays_98 : decode cL_lays 98 = .ok (.aload_n 0, 1) := by decide +kernel
theorem dL_lays_99 : decode cL_lays 99 = .ok (.iconst 1, 1) := by decide +kernel
theorem dL_lays_100 : decode cL_lays 100 = .ok (.invokestatic 148, 3) := by decide +kernel
theorem dL_lays_103 : decode cL_lays 103 = .ok (.lstore 13, 2) := by decide +kernel
theorem dL_lays_105 : decode cL_lays 105 = .ok (.iload 5, 2) := by decide +kernel
theorem dL_lays_107 : decode cL_lays 107 = .ok (.ifCond .le 45, 3) := by decide +kernel
theorem dL_lays_110 : decode cL_lays 110 = .ok (.iload 6, 2) := by decide +kernel
theorem dL_lays_112 : decode cL_lays 112 = .ok (.iconst (-1), 1) := by decide +kernel
theorem dL_lays_113 : decode cL_lays 113 = .ok (.if_icmp .ne 37, 3) := by decide +kernel
theorem dL_lays_116 : decode cL_lays 116 = .ok (.aload_n 0, 1) := by decide +kernel
theorem dL_lays_117 : decode cL_lays 117 = .ok (.bipush 7, 2) := by decide +kernel
theorem dL_lays_119 : decode cL_lays 119 = .ok (.iload 4, 2) := by decide +kernel
theorem dL_lays_121 : decode cL_lays 121 = .ok (.iconst 0, 1) := by decide +kernel
theorem dL_lays_122 : decode cL_lays 122 = .ok (.iconst 0, 1) := by decide +kernel
theorem dL_lays_123 : decode cL_lays 123 = .ok (.invokestatic 144, 3) := by decide +kernel
theorem dL_lays_126 : decode cL_lays 126 = .ok (.ldc 40, 2) := by decide +kernel
theorem dL_lays_128 : decode cL_lays 128 = .ok (.if_icmp .ne 22, 3) := by decide +kernel
theorem dL_lays_131 : decode cL_lays 131 = .ok (.aload_n 1, 1) := by decide +kernel
theorem dL_lays_132 : decode cL_lays 132 = .ok (.bipush 7, 2) := by decide +kernel
theorem dL_lays_134 : decode cL_lays 134 = .ok (.iload 4, 2) := by decide +kernel
theorem dL_lays_136 : decode cL_lays 136 = .ok (.iconst 0, 1) := by decide +kernel
theorem dL_lays_137 : decode cL_lays 137 = .ok (.iconst 0, 1) := by decide +kernel
theorem dL_lays_138 : decode cL_lays 138 = .ok (.invokestatic 144, 3) := by decide +kernel
theorem dL_lays_141 : decode cL_lays 141 = .ok (.ldc 40, 2) := by decide +kernel
theorem dL_lays_143 : decode cL_lays 143 = .ok (.if_icmp .ne 7, 3) := by decide +kernel
theorem dL_lays_146 : decode cL_lays 146 = .ok (.iconst 1, 1) := by decide +kernel
theorem dL_lays_147 : decode cL_lays 147 = .ok (.goto 4, 3) := by decide +kernel
theorem dL_lays_150 : decode cL_lays 150 = .ok (.iconst 0, 1) := by decide +kernel
theorem dL_lays_151 : decode cL_lays 151 = .ok (.ireturn, 1) := by decide +kernel
theorem dL_lays_152 : decode cL_lays 152 = .ok (.aload_n 0, 1) := by decide +kernel
theorem dL_lays_153 : decode cL_lays 153 = .ok (.bipush 7, 2) := by decide +kernel
theorem dL_lays_155 : decode cL_lays 155 = .ok (.iload 4, 2) := by decide +kernel
theorem dL_lays_157 : decode cL_lays 157 = .ok (.iconst 0, 1) := by decide +kernel
theorem dL_lays_158 : decode cL_lays 158 = .ok (.iconst 0, 1) := by decide +kernel
theorem dL_lays_159 : decode cL_lays 159 = .ok (.invokestatic 144, 3) := by decide +kernel
theorem dL_lays_162 : decode cL_lays 162 = .ok (.iload 6, 2) := by decide +kernel
theorem dL_lays_164 : decode cL_lays 164 = .ok (.if_icmp .ne 126, 3) := by decide +kernel
theorem dL_lays_167 : decode cL_lays 167 = .ok (.aload_n 1, 1) := by decide +kernel
theorem dL_lays_168 : decode cL_lays 168 = .ok (.bipush 7, 2) := by decide +kernel
theorem dL_lays_170 : decode cL_lays 170 = .ok (.iload 4, 2) := by decide +kernel
theorem dL_lays_172 : decode cL_lays 172 = .ok (.iconst 0, 1) := by decide +kernel
theorem dL_lays_173 : decode cL_lays 173 = .ok (.iconst 0, 1) := by decide +kernel
theorem dL_lays_174 : decode cL_lays 174 = .ok (.invokestatic 144, 3) := by decide +kernel
theorem dL_lays_177 : decode cL_lays 177 = .ok (.iload 6, 2) := by decide +kernel
theorem dL_lays_179 : decode cL_lays 179 = .ok (.if_icmp .ne 111, 3) := by decide +kernel
theorem dL_lays_182 : decode cL_lays 182 = .ok (.aload_n 0, 1) := by decide +kernel
theorem dL_lays_183 : decode cL_lays 183 = .ok (.iconst 4, 1) := by decide +kernel
theorem dL_lays_184 : decode cL_lays 184 = .ok (.iload 4, 2) := by decide +kernel
theorem dL_lays_186 : decode cL_lays 186 = .ok (.iconst 0, 1) := by decide +kernel
theorem dL_lays_187 : decode cL_lays 187 = .ok (.iconst 0, 1) := by decide +kernel
theorem dL_lays_188 : decode cL_lays 188 = .ok (.invokestatic 144, 3) := by decide +kernel
theorem dL_lays_191 : decode cL_lays 191 = .ok (.iload 9, 2) := by decide +kernel
theorem dL_lays_193 : decode cL_lays 193 = .ok (.if_icmp .ne 97, 3) := by decide +kernel
theorem dL_lays_196 : decode cL_lays 196 = .ok (.aload_n 0, 1) := by decide +kernel
theorem dL_lays_197 : decode cL_lays 197 = .ok (.iconst 4, 1) := by decide +kernel
theorem dL_lays_198 : decode cL_lays 198 = .ok (.iload 4, 2) := by decide +kernel
theorem dL_lays_200 : decode cL_lays 200 = .ok (.iconst 1, 1) := by decide +kernel
theorem dL_lays_201 : decode cL_lays 201 = .ok (.iconst 0, 1) := by decide +kernel
theorem dL_lays_202 : decode cL_lays 202 = .ok (.invokestatic 144, 3) := by decide +kernel
theorem dL_lays_205 : decode cL_lays 205 = .ok (.iload 8, 2) := by decide +kernel
theorem dL_lays_207 : decode cL_lays 207 = .ok (.if_icmp .ne 83, 3) := by decide +kernel
theorem dL_lays_210 : decode cL_lays 210 = .ok (.aload_n 0, 1) := by decide +kernel
theorem dL_lays_211 : decode cL_lays 211 = .ok (.iconst 4, 1) := by decide +kernel
theorem dL_lays_212 : decode cL_lays 212 = .ok (.iload 4, 2) := by decide +kernel
theorem dL_lays_214 : decode cL_lays 214 = .ok (.iconst 2, 1) := by decide +kernel
theorem dL_lays_215 : decode cL_lays 215 = .ok (.iconst 0, 1) := by decide +kernel
theorem dL_lays_216 : decode cL_lays 216 = .ok (.invokestatic 144, 3) := by decide +kernel
theorem dL_lays_219 : decode cL_lays 219 = .ok (.iload 7, 2) := by decide +kernel
theorem dL_lays_221 : decode cL_lays 221 = .ok (.if_icmp .ne 69, 3) := by decide +kernel
theorem dL_lays_224 : decode cL_lays 224 = .ok (.aload_n 0, 1) := by decide +kernel
theorem dL_lays_225 : decode cL_lays 225 = .ok (.iconst 3, 1) := by decide +kernel
theorem dL_lays_226 : decode cL_lays 226 = .ok (.iload 9, 2) := by decide +kernel
theorem dL_lays_228 : decode cL_lays 228 = .ok (.iconst 1, 1) := by decide +kernel
theorem dL_lays_229 : decode cL_lays 229 = .ok (.iconst 0, 1) := by decide +kernel
theorem dL_lays_230 : decode cL_lays 230 = .ok (.invokestatic 144, 3) := by decide +kernel
theorem dL_lays_233 : decode cL_lays 233 = .ok (.iload 10, 2) := by decide +kernel
theorem dL_lays_235 : decode cL_lays 235 = .ok (.iload 6, 2) := by decide +kernel
theorem dL_lays_237 : decode cL_lays 237 = .ok (.iadd, 1) := by decide +kernel
theorem dL_lays_238 : decode cL_lays 238 = .ok (.if_icmp .ne 52, 3) := by decide +kernel
theorem dL_lays_241 : decode cL_lays 241 = .ok (.aload_n 0, 1) := by decide +kernel
theorem dL_lays_242 : decode cL_lays 242 = .ok (.iconst 3, 1) := by decide +kernel
theorem dL_lays_243 : decode cL_lays 243 = .ok (.iconst 1, 1) := by decide +kernel
theorem dL_lays_244 : decode cL_lays 244 = .ok (.iload 9, 2) := by decide +kernel
theorem dL_lays_246 : decode cL_lays 246 = .ok (.isub, 1) := by decide +kernel
theorem dL_lays_247 : decode cL_lays 247 = .ok (.iconst 0, 1) := by decide +kernel
theorem dL_lays_248 : decode cL_lays 248 = .ok (.iconst 0, 1) := by decide +kernel
theorem dL_lays_249 : decode cL_lays 249 = .ok (.invokestatic 144, 3) := by decide +kernel
theorem dL_lays_252 : decode cL_lays 252 = .ok (.iload 9, 2) := by decide +kernel
theorem dL_lays_254 : decode cL_lays 254 = .ok (.ifCond .ne 8, 3) := by decide +kernel
theorem dL_lays_257 : decode cL_lays 257 = .ok (.lload 13, 2) := by decide +kernel
theorem dL_lays_259 : decode cL_lays 259 = .ok (.goto 5, 3) := by decide +kernel
theorem dL_lays_262 : decode cL_lays 262 = .ok (.lload 11, 2) := by decide +kernel
theorem dL_lays_264 : decode cL_lays 264 = .ok (.invokestatic 166, 3) := by decide +kernel
theorem dL_lays_267 : decode cL_lays 267 = .ok (.iload 6, 2) := by decide +kernel
theorem dL_lays_269 : decode cL_lays 269 = .ok (.isub, 1) := by decide +kernel
theorem dL_lays_270 : decode cL_lays 270 = .ok (.if_icmp .ne 20, 3) := by decide +kernel
theorem dL_lays_273 : decode cL_lays 273 = .ok (.aload_n 0, 1) := by decide +kernel
theorem dL_lays_274 : decode cL_lays 274 = .ok (.iconst 5, 1) := by decide +kernel
theorem dL_lays_275 : decode cL_lays 275 = .ok (.iload 4, 2) := by decide +kernel
theorem dL_lays_277 : decode cL_lays 277 = .ok (.iconst 0, 1) := by decide +kernel
theorem dL_lays_278 : decode cL_lays 278 = .ok (.iconst 0, 1) := by decide +kernel
theorem dL_lays_279 : decode cL_lays 279 = .ok (.invokestatic 144, 3) := by decide +kernel
theorem dL_lays_282 : decode cL_lays 282 = .ok (.iconst 1, 1) := by decide +kernel
theorem dL_lays_283 : decode cL_lays 283 = .ok (.if_icmp .ne 7, 3) := by decide +kernel
theorem dL_lays_286 : decode cL_lays 286 = .ok (.iconst 1, 1) := by decide +kernel
theorem dL_lays_287 : decode cL_lays 287 = .ok (.goto 4, 3) := by decide +kernel
theorem dL_lays_290 : decode cL_lays 290 = .ok (.iconst 0, 1) := by decide +kernel
theorem dL_lays_291 : decode cL_lays 291 = .ok (.istore 15, 2) := by decide +kernel
theorem dL_lays_293 : decode cL_lays 293 = .ok (.iload 15, 2) := by decide +kernel
theorem dL_lays_295 : decode cL_lays 295 = .ok (.ifCond .eq 71, 3) := by decide +kernel
theorem dL_lays_298 : decode cL_lays 298 = .ok (.aload_n 0, 1) := by decide +kernel
theorem dL_lays_299 : decode cL_lays 299 = .ok (.bipush 10, 2) := by decide +kernel
theorem dL_lays_301 : decode cL_lays 301 = .ok (.iconst 0, 1) := by decide +kernel
theorem dL_lays_302 : decode cL_lays 302 = .ok (.iconst 0, 1) := by decide +kernel
theorem dL_lays_303 : decode cL_lays 303 = .ok (.iconst 0, 1) := by decide +kernel
theorem dL_lays_304 : decode cL_lays 304 = .ok (.invokestatic 144, 3) := by decide +kernel
theorem dL_lays_307 : decode cL_lays 307 = .ok (.invokestatic 211, 3) := by decide +kernel
theorem dL_lays_310 : decode cL_lays 310 = .ok (.ifCond .ne 56, 3) := by decide +kernel
theorem dL_lays_313 : decode cL_lays 313 = .ok (.aload_n 1, 1) := by decide +kernel
theorem dL_lays_314 : decode cL_lays 314 = .ok (.bipush 10, 2) := by decide +kernel
theorem dL_lays_316 : decode cL_lays 316 = .ok (.iconst 0, 1) := by decide +kernel
theorem dL_lays_317 : decode cL_lays 317 = .ok (.iconst 0, 1) := by decide +kernel
theorem dL_lays_318 : decode cL_lays 318 = .ok (.iconst 0, 1) := by decide +kernel
theorem dL_lays_319 : decode cL_lays 319 = .ok (.invokestatic 144, 3) := by decide +kernel
theorem dL_lays_322 : decode cL_lays 322 = .ok (.invokestatic 211, 3) := by decide +kernel
theorem dL_lays_325 : decode cL_lays 325 = .ok (.ifCond .ne 41, 3) := by decide +kernel
theorem dL_lays_328 : decode cL_lays 328 = .ok (.aload_n 0, 1) := by decide +kernel
theorem dL_lays_329 : decode cL_lays 329 = .ok (.iconst 0, 1) := by decide +kernel
theorem dL_lays_330 : decode cL_lays 330 = .ok (.invokestatic 148, 3) := by decide +kernel
theorem dL_lays_333 : decode cL_lays 333 = .ok (.lload 11, 2) := by decide +kernel
theorem dL_lays_335 : decode cL_lays 335 = .ok (.lcmp, 1) := by decide +kernel
theorem dL_lays_336 : decode cL_lays 336 = .ok (.ifCond .ne 30, 3) := by decide +kernel
theorem dL_lays_339 : decode cL_lays 339 = .ok (.aload_n 0, 1) := by decide +kernel
theorem dL_lays_340 : decode cL_lays 340 = .ok (.iconst 1, 1) := by decide +kernel
theorem dL_lays_341 : decode cL_lays 341 = .ok (.invokestatic 148, 3) := by decide +kernel
theorem dL_lays_344 : decode cL_lays 344 = .ok (.lload 13, 2) := by decide +kernel
theorem dL_lays_346 : decode cL_lays 346 = .ok (.lcmp, 1) := by decide +kernel
theorem dL_lays_347 : decode cL_lays 347 = .ok (.ifCond .ne 19, 3) := by decide +kernel
theorem dL_lays_350 : decode cL_lays 350 = .ok (.aload_n 0, 1) := by decide +kernel
theorem dL_lays_351 : decode cL_lays 351 = .ok (.iconst 5, 1) := by decide +kernel
theorem dL_lays_352 : decode cL_lays 352 = .ok (.iload 4, 2) := by decide +kernel
theorem dL_lays_354 : decode cL_lays 354 = .ok (.iconst 0, 1) := by decide +kernel
theorem dL_lays_355 : decode cL_lays 355 = .ok (.iconst 0, 1) := by decide +kernel
theorem dL_lays_356 : decode cL_lays 356 = .ok (.invokestatic 144, 3) := by decide +kernel
theorem dL_lays_359 : decode cL_lays 359 = .ok (.ifCond .ne 7, 3) := by decide +kernel
theorem dL_lays_362 : decode cL_lays 362 = .ok (.iconst 1, 1) := by decide +kernel
theorem dL_lays_363 : decode cL_lays 363 = .ok (.goto 4, 3) := by decide +kernel
theorem dL_lays_366 : decode cL_lays 366 = .ok (.iconst 0, 1) := by decide +kernel
theorem dL_lays_367 : decode cL_lays 367 = .ok (.ireturn, 1) := by decide +kernel
theorem dL_chases_0 : decode cL_chases 0 = .ok (.aload_n 0, 1) := by decide +kernel
theorem dL_chases_1 : decode cL_chases 1 = .ok (.iconst 2, 1) := by decide +kernel
theorem dL_chases_2 : decode cL_chases 2 = .ok (.iconst 0, 1) := by decide +kernel
theorem dL_chases_3 : decode cL_chases 3 = .ok (.iconst 0, 1) := by decide +kernel
theorem dL_chases_4 : decode cL_chases 4 = .ok (.iconst 0, 1) := by decide +kernel
theorem dL_chases_5 : decode cL_chases 5 = .ok (.invokestatic 144, 3) := by decide +kernel
theorem dL_chases_8 : decode cL_chases 8 = .ok (.aload_n 0, 1) := by decide +kernel
theorem dL_chases_9 : decode cL_chases 9 = .ok (.iconst 2, 1) := by decide +kernel
theorem dL_chases_10 : decode cL_chases 10 = .ok (.iconst 0, 1) := by decide +kernel
theorem dL_chases_11 : decode cL_chases 11 = .ok (.iconst 0, 1) := by decide +kernel
theorem dL_chases_12 : decode cL_chases 12 = .ok (.iconst 0, 1) := by decide +kernel
theorem dL_chases_13 : decode cL_chases 13 = .ok (.invokestatic 144, 3) := by decide +kernel
theorem dL_chases_16 : decode cL_chases 16 = .ok (.imul, 1) := by decide +kernel
theorem dL_chases_17 : decode cL_chases 17 = .ok (.istore_n 3, 1) := by decide +kernel
theorem dL_chases_18 : decode cL_chases 18 = .ok (.iload_n 2, 1) := by decide +kernel
theorem dL_chases_19 : decode cL_chases 19 = .ok (.iload_n 3, 1) := by decide +kernel
theorem dL_chases_20 : decode cL_chases 20 = .ok (.irem, 1) := by decide +kernel
theorem dL_chases_21 : decode cL_chases 21 = .ok (.istore 4, 2) := by decide +kernel
theorem dL_chases_23 : decode cL_chases 23 = .ok (.aload_n 0, 1) := by decide +kernel
theorem dL_chases_24 : decode cL_chases 24 = .ok (.iconst 4, 1) := by decide +kernel
theorem dL_chases_25 : decode cL_chases 25 = .ok (.iload 4, 2) := by decide +kernel
theorem dL_chases_27 : decode cL_chases 27 = .ok (.iconst 0, 1) := by decide +kernel
theorem dL_chases_28 : decode cL_chases 28 = .ok (.iconst 0, 1) := by decide +kernel
theorem dL_chases_29 : decode cL_chases 29 = .ok (.invokestatic 144, 3) := by decide +kernel
theorem dL_chases_32 : decode cL_chases 32 = .ok (.istore 5, 2) := by decide +kernel
theorem dL_chases_34 : decode cL_chases 34 = .ok (.aload_n 0, 1) := by decide +kernel
theorem dL_chases_35 : decode cL_chases 35 = .ok (.bipush 12, 2) := by decide +kernel
theorem dL_chases_37 : decode cL_chases 37 = .ok (.iload 4, 2) := by decide +kernel
theorem dL_chases_39 : decode cL_chases 39 = .ok (.iconst 0, 1) := by decide +kernel
theorem dL_chases_40 : decode cL_chases 40 = .ok (.iconst 0, 1) := by decide +kernel
theorem dL_chases_41 : decode cL_chases 41 = .ok (.invokestatic 144, 3) := by decide +kernel
theorem dL_chases_44 : decode cL_chases 44 = .ok (.istore 6, 2) := by decide +kernel
theorem dL_chases_46 : decode cL_chases 46 = .ok (.aload_n 0, 1) := by decide +kernel
theorem dL_chases_47 : decode cL_chases 47 = .ok (.bipush 13, 2) := by decide +kernel
theorem dL_chases_49 : decode cL_chases 49 = .ok (.iload 4, 2) := by decide +kernel
theorem dL_chases_51 : decode cL_chases 51 = .ok (.iconst 0, 1) := by decide +kernel
theorem dL_chases_52 : decode cL_chases 52 = .ok (.iconst 0, 1) := by decide +kernel
theorem dL_chases_53 : decode cL_chases 53 = .ok (.invokestatic 144, 3) := by decide +kernel
theorem dL_chases_56 : decode cL_chases 56 = .ok (.istore 7, 2) := by decide +kernel
theorem dL_chases_58 : decode cL_chases 58 = .ok (.iload 5, 2) := by decide +kernel
theorem dL_chases_60 : decode cL_chases 60 = .ok (.iconst (-1), 1) := by decide +kernel
theorem dL_chases_61 : decode cL_chases 61 = .ok (.if_icmp .eq 9, 3) := by decide +kernel
theorem dL_chases_64 : decode cL_chases 64 = .ok (.iload 6, 2) := by decide +kernel
theorem dL_chases_66 : decode cL_chases 66 = .ok (.iconst 1, 1) := by decide +kernel
theorem dL_chases_67 : decode cL_chases 67 = .ok (.if_icmp .eq 40, 3) := by decide +kernel
theorem dL_chases_70 : decode cL_chases 70 = .ok (.iload 7, 2) := by decide +kernel
theorem dL_chases_72 : decode cL_chases 72 = .ok (.iconst (-1), 1) := by decide +kernel
theorem dL_chases_73 : decode cL_chases 73 = .ok (.if_icmp .ne 32, 3) := by decide +kernel
theorem dL_chases_76 : decode cL_chases 76 = .ok (.iload 5, 2) := by decide +kernel
theorem dL_chases_78 : decode cL_chases 78 = .ok (.iconst (-1), 1) := by decide +kernel
theorem dL_chases_79 : decode cL_chases 79 = .ok (.if_icmp .ne 7, 3) := by decide +kernel
theorem dL_chases_82 : decode cL_chases 82 = .ok (.iconst 1, 1) := by decide +kernel
theorem dL_chases_83 : decode cL_chases 83 = .ok (.goto 4, 3) := by decide +kernel
theorem dL_chases_86 : decode cL_chases 86 = .ok (.iconst 0, 1) := by decide +kernel
theorem dL_chases_87 : decode cL_chases 87 = .ok (.iload 6, 2) := by decide +kernel
theorem dL_chases_89 : decode cL_chases 89 = .ok (.iconst (-1), 1) := by decide +kernel
theorem dL_chases_90 : decode cL_chases 90 = .ok (.if_icmp .ne 7, 3) := by decide +kernel
theorem dL_chases_93 : decode cL_chases 93 = .ok (.iconst 1, 1) := by decide +kernel
theorem dL_chases_94 : decode cL_chases 94 = .ok (.goto 4, 3) := by decide +kernel
theorem dL_chases_97 : decode cL_chases 97 = .ok (.iconst 0, 1) := by decide +kernel
theorem dL_chases_98 : decode cL_chases 98 = .ok (.if_icmp .ne 7, 3) := by decide +kernel
theorem dL_chases_101 : decode cL_chases 101 = .ok (.iconst 1, 1) := by decide +kernel
theorem dL_chases_102 : decode cL_chases 102 = .ok (.goto 4, 3) := by decide +kernel
theorem dL_chases_105 : decode cL_chases 105 = .ok (.iconst 0, 1) := by decide +kernel
theorem dL_chases_106 : decode cL_chases 106 = .ok (.ireturn, 1) := by decide +kernel
theorem dL_chases_107 : decode cL_chases 107 = .ok (.aload_n 0, 1) := by decide +kernel
theorem dL_chases_108 : decode cL_chases 108 = .ok (.iconst 4, 1) := by decide +kernel
theorem dL_chases_109 : decode cL_chases 109 = .ok (.iload 4, 2) := by decide +kernel
theorem dL_chases_111 : decode cL_chases 111 = .ok (.iconst 2, 1) := by decide +kernel
theorem dL_chases_112 : decode cL_chases 112 = .ok (.iconst 0, 1) := by decide +kernel
theorem dL_chases_113 : decode cL_chases 113 = .ok (.invokestatic 144, 3) := by decide +kernel
theorem dL_chases_116 : decode cL_chases 116 = .ok (.istore 8, 2) := by decide +kernel
theorem dL_chases_118 : decode cL_chases 118 = .ok (.iload 7, 2) := by decide +kernel
theorem dL_chases_120 : decode cL_chases 120 = .ok (.ifCond .lt 30, 3) := by decide +kernel
theorem dL_chases_123 : decode cL_chases 123 = .ok (.aload_n 0, 1) := by decide +kernel
theorem dL_chases_124 : decode cL_chases 124 = .ok (.iload 4, 2) := by decide +kernel
theorem dL_chases_126 : decode cL_chases 126 = .ok (.iconst 1, 1) := by decide +kernel
theorem dL_chases_127 : decode cL_chases 127 = .ok (.invokestatic 152, 3) := by decide +kernel
theorem dL_chases_130 : decode cL_chases 130 = .ok (.iload 7, 2) := by decide +kernel
theorem dL_chases_132 : decode cL_chases 132 = .ok (.lshr, 1) := by decide +kernel
theorem dL_chases_133 : decode cL_chases 133 = .ok (.lconst 1, 1) := by decide +kernel
theorem dL_chases_134 : decode cL_chases 134 = .ok (.land, 1) := by decide +kernel
theorem dL_chases_135 : decode cL_chases 135 = .ok (.lconst 1, 1) := by decide +kernel
theorem dL_chases_136 : decode cL_chases 136 = .ok (.lcmp, 1) := by decide +kernel
theorem dL_chases_137 : decode cL_chases 137 = .ok (.ifCond .ne 13, 3) := by decide +kernel
theorem dL_chases_140 : decode cL_chases 140 = .ok (.iload 8, 2) := by decide +kernel
theorem dL_chases_142 : decode cL_chases 142 = .ok (.iconst 3, 1) := by decide +kernel
theorem dL_chases_143 : decode cL_chases 143 = .ok (.if_icmp .ge 7, 3) := by decide +kernel
theorem dL_chases_146 : decode cL_chases 146 = .ok (.iconst 1, 1) := by decide +kernel
theorem dL_chases_147 : decode cL_chases 147 = .ok (.goto 4, 3) := by decide +kernel
theorem dL_chases_150 : decode cL_chases 150 = .ok (.iconst 0, 1) := by decide +kernel
theorem dL_chases_151 : decode cL_chases 151 = .ok (.istore 9, 2) := by decide +kernel
theorem dL_chases_153 : decode cL_chases 153 = .ok (.iload 9, 2) := by decide +kernel
theorem dL_chases_155 : decode cL_chases 155 = .ok (.ifCond .eq 28, 3) := by decide +kernel
theorem dL_chases_158 : decode cL_chases 158 = .ok (.aload_n 0, 1) := by decide +kernel
theorem dL_chases_159 : decode cL_chases 159 = .ok (.iconst 2, 1) := by decide +kernel
theorem dL_chases_160 : decode cL_chases 160 = .ok (.iconst 2, 1) := by decide +kernel
theorem dL_chases_161 : decode cL_chases 161 = .ok (.iconst 0, 1) := by decide +kernel
theorem dL_chases_162 : decode cL_chases 162 = .ok (.iconst 0, 1) := by decide +kernel
theorem dL_chases_163 : decode cL_chases 163 = .ok (.invokestatic 144, 3) := by decide +kernel
theorem dL_chases_166 : decode cL_chases 166 = .ok (.iload 5, 2) := by decide +kernel
theorem dL_chases_168 : decode cL_chases 168 = .ok (.if_icmp .eq 15, 3) := by decide +kernel
theorem dL_chases_171 : decode cL_chases 171 = .ok (.aload_n 0, 1) := by decide +kernel
theorem dL_chases_172 : decode cL_chases 172 = .ok (.iconst 5, 1) := by decide +kernel
theorem dL_chases_173 : decode cL_chases 173 = .ok (.iload 7, 2) := by decide +kernel
theorem dL_chases_175 : decode cL_chases 175 = .ok (.iconst 0, 1) := by decide +kernel
theorem dL_chases_176 : decode cL_chases 176 = .ok (.iconst 0, 1) := by decide +kernel
theorem dL_chases_177 : decode cL_chases 177 = .ok (.invokestatic 144, 3) := by decide +kernel
theorem dL_chases_180 : decode cL_chases 180 = .ok (.ifCond .le 6, 3) := by decide +kernel
theorem dL_chases_183 : decode cL_chases 183 = .ok (.iload 9, 2) := by decide +kernel
theorem dL_chases_185 : decode cL_chases 185 = .ok (.ireturn, 1) := by decide +kernel
theorem dL_chases_186 : decode cL_chases 186 = .ok (.aload_n 0, 1) := by decide +kernel
theorem dL_chases_187 : decode cL_chases 187 = .ok (.bipush 7, 2) := by decide +kernel
theorem dL_chases_189 : decode cL_chases 189 = .ok (.iload 7, 2) := by decide +kernel
theorem dL_chases_191 : decode cL_chases 191 = .ok (.iconst 0, 1) := by decide +kernel
theorem dL_chases_192 : decode cL_chases 192 = .ok (.iconst 0, 1) := by decide +kernel
theorem dL_chases_193 : decode cL_chases 193 = .ok (.invokestatic 144, 3) := by decide +kernel
theorem dL_chases_196 : decode cL_chases 196 = .ok (.ifCond .lt 20, 3) := by decide +kernel
theorem dL_chases_199 : decode cL_chases 199 = .ok (.aload_n 1, 1) := by decide +kernel
theorem dL_chases_200 : decode cL_chases 200 = .ok (.bipush 7, 2) := by decide +kernel
theorem dL_chases_202 : decode cL_chases 202 = .ok (.iload 7, 2) := by decide +kernel
theorem dL_chases_204 : decode cL_chases 204 = .ok (.iconst 0, 1) := by decide +kernel
theorem dL_chases_205 : decode cL_chases 205 = .ok (.iconst 0, 1) := by decide +kernel
theorem dL_chases_206 : decode cL_chases 206 = .ok (.invokestatic 144, 3) := by decide +kernel
theorem dL_chases_209 : decode cL_chases 209 = .ok (.ifCond .lt 7, 3) := by decide +kernel
theorem dL_chases_212 : decode cL_chases 212 = .ok (.iconst 1, 1) := by decide +kernel
theorem dL_chases_213 : decode cL_chases 213 = .ok (.goto 4, 3) := by decide +kernel
theorem dL_chases_216 : decode cL_chases 216 = .ok (.iconst 0, 1) := by decide +kernel
theorem dL_chases_217 : decode cL_chases 217 = .ok (.istore 9, 2) := by decide +kernel
theorem dL_chases_219 : decode cL_chases 219 = .ok (.iload 9, 2) := by decide +kernel
theorem dL_chases_221 : decode cL_chases 221 = .ok (.ifCond .eq 56, 3) := by decide +kernel
theorem dL_chases_224 : decode cL_chases 224 = .ok (.iload 8, 2) := by decide +kernel
theorem dL_chases_226 : decode cL_chases 226 = .ok (.iconst 1, 1) := by decide +kernel
theorem dL_chases_227 : decode cL_chases 227 = .ok (.if_icmp .ne 19, 3) := by decide +kernel
theorem dL_chases_230 : decode cL_chases 230 = .ok (.aload_n 0, 1) := by decide +kernel
theorem dL_chases_231 : decode cL_chases 231 = .ok (.iconst 4, 1) := by decide +kernel
theorem dL_chases_232 : decode cL_chases 232 = .ok (.iload 4, 2) := by decide +kernel
theorem dL_chases_234 : decode cL_chases 234 = .ok (.iconst 0, 1) := by decide +kernel
theorem dL_chases_235 : decode cL_chases 235 = .ok (.iconst 0, 1) := by decide +kernel
theorem dL_chases_236 : decode cL_chases 236 = .ok (.invokestatic 144, 3) := by decide +kernel
theorem dL_chases_239 : decode cL_chases 239 = .ok (.iconst (-1), 1) := by decide +kernel
theorem dL_chases_240 : decode cL_chases 240 = .ok (.if_icmp .ne 37, 3) := by decide +kernel
theorem dL_chases_243 : decode cL_chases 243 = .ok (.goto 30, 3) := by decide +kernel
theorem dL_chases_246 : decode cL_chases 246 = .ok (.aload_n 0, 1) := by decide +kernel
theorem dL_chases_247 : decode cL_chases 247 = .ok (.iconst 4, 1) := by decide +kernel
theorem dL_chases_248 : decode cL_chases 248 = .ok (.iload 4, 2) := by decide +kernel
theorem dL_chases_250 : decode cL_chases 250 = .ok (.iconst 2, 1) := by decide +kernel
theorem dL_chases_251 : decode cL_chases 251 = .ok (.iconst 0, 1) := by decide +kernel
theorem dL_chases_252 : decode cL_chases 252 = .ok (.invokestatic 144, 3) := by decide +kernel
theorem dL_chases_255 : decode cL_chases 255 = .ok (.iconst 1, 1) := by decide +kernel
theorem dL_chases_256 : decode cL_chases 256 = .ok (.if_icmp .ne 21, 3) := by decide +kernel
theorem dL_chases_259 : decode cL_chases 259 = .ok (.aload_n 0, 1) := by decide +kernel
theorem dL_chases_260 : decode cL_chases 260 = .ok (.bipush 12, 2) := by decide +kernel
theorem dL_chases_262 : decode cL_chases 262 = .ok (.iload 4, 2) := by decide +kernel
theorem dL_chases_264 : decode cL_chases 264 = .ok (.iconst 1, 1) := by decide +kernel
theorem dL_chases_265 : decode cL_chases 265 = .ok (.iconst 0, 1) := by decide +kernel
theorem dL_chases_266 : decode cL_chases 266 = .ok (.invokestatic 144, 3) := by decide +kernel
theorem dL_chases_269 : decode cL_chases 269 = .ok (.iconst 1, 1) := by decide +kernel
theorem dL_chases_270 : decode cL_chases 270 = .ok (.if_icmp .ne 7, 3) := by decide +kernel
theorem dL_chases_273 : decode cL_chases 273 = .ok (.iconst 1, 1) := by decide +kernel
theorem dL_chases_274 : decode cL_chases 274 = .ok (.goto 4, 3) := by decide +kernel
theorem dL_chases_277 : decode cL_chases 277 = .ok (.iconst 0, 1) := by decide +kernel
theorem dL_chases_278 : decode cL_chases 278 = .ok (.istore 9, 2) := by decide +kernel
theorem dL_chases_280 : decode cL_chases 280 = .ok (.iload 9, 2) := by decide +kernel
theorem dL_chases_282 : decode cL_chases 282 = .ok (.ifCond .eq 51, 3) := by decide +kernel
theorem dL_chases_285 : decode cL_chases 285 = .ok (.aload_n 0, 1) := by decide +kernel
theorem dL_chases_286 : decode cL_chases 286 = .ok (.bipush 10, 2) := by decide +kernel
theorem dL_chases_288 : decode cL_chases 288 = .ok (.iconst 0, 1) := by decide +kernel
theorem dL_chases_289 : decode cL_chases 289 = .ok (.iconst 0, 1) := by decide +kernel
theorem dL_chases_290 : decode cL_chases 290 = .ok (.iconst 0, 1) := by decide +kernel
theorem dL_chases_291 : decode cL_chases 291 = .ok (.invokestatic 144, 3) := by decide +kernel
theorem dL_chases_294 : decode cL_chases 294 = .ok (.invokestatic 211, 3) := by decide +kernel
theorem dL_chases_297 : decode cL_chases 297 = .ok (.ifCond .ne 36, 3) := by decide +kernel
theorem dL_chases_300 : decode cL_chases 300 = .ok (.aload_n 1, 1) := by decide +kernel
theorem dL_chases_301 : decode cL_chases 301 = .ok (.bipush 10, 2) := by decide +kernel
theorem dL_chases_303 : decode cL_chases 303 = .ok (.iconst 0, 1) := by decide +kernel
theorem dL_chases_304 : decode cL_chases 304 = .ok (.iconst 0, 1) := by decide +kernel
theorem dL_chases_305 : decode cL_chases 305 = .ok (.iconst 0, 1) := by decide +kernel
theorem dL_chases_306 : decode cL_chases 306 = .ok (.invokestatic 144, 3) := by decide +kernel
theorem dL_chases_309 : decode cL_chases 309 = .ok (.invokestatic 211, 3) := by decide +kernel
theorem dL_chases_312 : decode cL_chases 312 = .ok (.ifCond .ne 21, 3) := by decide +kernel
theorem dL_chases_315 : decode cL_chases 315 = .ok (.aload_n 0, 1) := by decide +kernel
theorem dL_chases_316 : decode cL_chases 316 = .ok (.bipush 12, 2) := by decide +kernel
theorem dL_chases_318 : decode cL_chases 318 = .ok (.iload 4, 2) := by decide +kernel
theorem dL_chases_320 : decode cL_chases 320 = .ok (.iconst 0, 1) := by decide +kernel
theorem dL_chases_321 : decode cL_chases 321 = .ok (.iconst 0, 1) := by decide +kernel
theorem dL_chases_322 : decode cL_chases 322 = .ok (.invokestatic 144, 3) := by decide +kernel
theorem dL_chases_325 : decode cL_chases 325 = .ok (.iconst 1, 1) := by decide +kernel
theorem dL_chases_326 : decode cL_chases 326 = .ok (.if_icmp .ne 7, 3) := by decide +kernel
theorem dL_chases_329 : decode cL_chases 329 = .ok (.iconst 1, 1) := by decide +kernel
theorem dL_chases_330 : decode cL_chases 330 = .ok (.goto 4, 3) := by decide +kernel
theorem dL_chases_333 : decode cL_chases 333 = .ok (.iconst 0, 1) := by decide +kernel
theorem dL_chases_334 : decode cL_chases 334 = .ok (.ireturn, 1) := by decide +kernel
