theorem dL_has_0 : decode cL_has 0 = .ok (.aload_n 0, 1) := by decide +kernel
theorem dL_has_1 : decode cL_has 1 = .ok (.iload_n 1, 1) := by decide +kernel
theorem dL_has_2 : decode cL_has 2 = .ok (.invokevirtual 7, 3) := by decide +kernel
theorem dL_has_5 : decode cL_has 5 = .ok (.lreturn, 1) := by decide +kernel
theorem dL_has_6 : decode cL_has 6 = .ok (.astore_n 2, 1) := by decide +kernel
theorem dL_has_7 : decode cL_has 7 = .ok (.ldc2_w 15, 3) := by decide +kernel
theorem dL_has_10 : decode cL_has 10 = .ok (.lreturn, 1) := by decide +kernel
theorem dL_groups_0 : decode cL_groups 0 = .ok (.aload_n 0, 1) := by decide +kernel
theorem dL_groups_1 : decode cL_groups 1 = .ok (.iload_n 1, 1) := by decide +kernel
theorem dL_groups_2 : decode cL_groups 2 = .ok (.iload_n 2, 1) := by decide +kernel
theorem dL_groups_3 : decode cL_groups 3 = .ok (.invokevirtual 17, 3) := by decide +kernel
theorem dL_groups_6 : decode cL_groups 6 = .ok (.lreturn, 1) := by decide +kernel
theorem dL_groups_7 : decode cL_groups 7 = .ok (.astore_n 3, 1) := by decide +kernel
theorem dL_groups_8 : decode cL_groups 8 = .ok (.ldc2_w 15, 3) := by decide +kernel
theorem dL_groups_11 : decode cL_groups 11 = .ok (.lreturn, 1) := by decide +kernel
theorem dL_groups_12 : decode cL_groups 12 = .ok (.astore_n 3, 1) := by decide +kernel
theorem dL_groups_13 : decode cL_groups 13 = .ok (.ldc2_w 23, 3) := by decide +kernel
theorem dL_groups_16 : decode cL_groups 16 = .ok (.lreturn, 1) := by decide +kernel
theorem dL_doScript_0 : decode cL_doScript 0 = .ok (.aload_n 0, 1) := by decide +kernel
theorem dL_doScript_1 : decode cL_doScript 1 = .ok (.iload_n 1, 1) := by decide +kernel
theorem dL_doScript_2 : decode cL_doScript 2 = .ok (.lload_n 2, 1) := by decide +kernel
theorem dL_doScript_3 : decode cL_doScript 3 = .ok (.invokevirtual 25, 3) := by decide +kernel
theorem dL_doScript_6 : decode cL_doScript 6 = .ok (.ireturn, 1) := by decide +kernel
theorem dL_doScript_7 : decode cL_doScript 7 = .ok (.astore 4, 2) := by decide +kernel
theorem dL_doScript_9 : decode cL_doScript 9 = .ok (.ldc 29, 2) := by decide +kernel
theorem dL_doScript_11 : decode cL_doScript 11 = .ok (.ireturn, 1) := by decide +kernel
theorem dL_doSimulate_0 : decode cL_doSimulate 0 = .ok (.aload_n 0, 1) := by decide +kernel
theorem dL_doSimulate_1 : decode cL_doSimulate 1 = .ok (.lload_n 1, 1) := by decide +kernel
theorem dL_doSimulate_2 : decode cL_doSimulate 2 = .ok (.iload_n 3, 1) := by decide +kernel
theorem dL_doSimulate_3 : decode cL_doSimulate 3 = .ok (.invokevirtual 30, 3) := by decide +kernel
theorem dL_doSimulate_6 : decode cL_doSimulate 6 = .ok (.ireturn, 1) := by decide +kernel
theorem dL_doSimulate_7 : decode cL_doSimulate 7 = .ok (.astore 4, 2) := by decide +kernel
theorem dL_doSimulate_9 : decode cL_doSimulate 9 = .ok (.ldc 29, 2) := by decide +kernel
theorem dL_doSimulate_11 : decode cL_doSimulate 11 = .ok (.ireturn, 1) := by decide +kernel
theorem dL_tryAppend_0 : decode cL_tryAppend 0 = .ok (.aload_n 0, 1) := by decide +kernel
theorem dL_tryAppend_1 : decode cL_tryAppend 1 = .ok (.iload_n 1, 1) := by decide +kernel
theorem dL_tryAppend_2 : decode cL_tryAppend 2 = .ok (.invokevirtual 34, 3) := by decide +kernel
theorem dL_tryAppend_5 : decode cL_tryAppend 5 = .ok (.ireturn, 1) := by decide +kernel
theorem dL_tryAppend_6 : decode cL_tryAppend 6 = .ok (.astore_n 2, 1) := by decide +kernel
theorem dL_tryAppend_7 : decode cL_tryAppend 7 = .ok (.ldc 29, 2) := by decide +kernel
theorem dL_tryAppend_9 : decode cL_tryAppend 9 = .ok (.ireturn, 1) := by decide +kernel
theorem dL_tryAppend_10 : decode cL_tryAppend 10 = .ok (.astore_n 2, 1) := by decide +kernel
theorem dL_tryAppend_11 : decode cL_tryAppend 11 = .ok (.ldc 40, 2) := by decide +kernel
theorem dL_tryAppend_13 : decode cL_tryAppend 13 = .ok (.ireturn, 1) := by decide +kernel
theorem dL_tryAbout_0 : decode cL_tryAbout 0 = .ok (.aload_n 0, 1) := by decide +kernel
theorem dL_tryAbout_1 : decode cL_tryAbout 1 = .ok (.iload_n 1, 1) := by decide +kernel
theorem dL_tryAbout_2 : decode cL_tryAbout 2 = .ok (.invokevirtual 45, 3) := by decide +kernel
theorem dL_tryAbout_5 : decode cL_tryAbout 5 = .ok (.ireturn, 1) := by decide +kernel
theorem dL_tryAbout_6 : decode cL_tryAbout 6 = .ok (.astore_n 2, 1) := by decide +kernel
theorem dL_tryAbout_7 : decode cL_tryAbout 7 = .ok (.ldc 29, 2) := by decide +kernel
theorem dL_tryAbout_9 : decode cL_tryAbout 9 = .ok (.ireturn, 1) := by decide +kernel
theorem dL_tryColour_0 : decode cL_tryColour 0 = .ok (.aload_n 0, 1) := by decide +kernel
theorem dL_tryColour_1 : decode cL_tryColour 1 = .ok (.iload_n 1, 1) := by decide +kernel
theorem dL_tryColour_2 : decode cL_tryColour 2 = .ok (.iload_n 2, 1) := by decide +kernel
theorem dL_tryColour_3 : decode cL_tryColour 3 = .ok (.invokevirtual 48, 3) := by decide +kernel
theorem dL_tryColour_6 : decode cL_tryColour 6 = .ok (.ireturn, 1) := by decide +kernel
theorem dL_tryColour_7 : decode cL_tryColour 7 = .ok (.astore_n 3, 1) := by decide +kernel
theorem dL_tryColour_8 : decode cL_tryColour 8 = .ok (.ldc 52, 2) := by decide +kernel
theorem dL_tryColour_10 : decode cL_tryColour 10 = .ok (.ireturn, 1) := by decide +kernel
theorem dL_tryColour_11 : decode cL_tryColour 11 = .ok (.astore_n 3, 1) := by decide +kernel
theorem dL_tryColour_12 : decode cL_tryColour 12 = .ok (.ldc 29, 2) := by decide +kernel
theorem dL_tryColour_14 : decode cL_tryColour 14 = .ok (.ireturn, 1) := by decide +kernel
theorem dL_tryPoint_0 : decode cL_tryPoint 0 = .ok (.aload_n 0, 1) := by decide +kernel
theorem dL_tryPoint_1 : decode cL_tryPoint 1 = .ok (.iload_n 1, 1) := by decide +kernel
theorem dL_tryPoint_2 : decode cL_tryPoint 2 = .ok (.iload_n 2, 1) := by decide +kernel
theorem dL_tryPoint_3 : decode cL_tryPoint 3 = .ok (.invokevirtual 53, 3) := by decide +kernel
theorem dL_tryPoint_6 : decode cL_tryPoint 6 = .ok (.ireturn, 1) := by decide +kernel
theorem dL_tryPoint_7 : decode cL_tryPoint 7 = .ok (.astore_n 3, 1) := by decide +kernel
theorem dL_tryPoint_8 : decode cL_tryPoint 8 = .ok (.ldc 52, 2) := by decide +kernel
theorem dL_tryPoint_10 : decode cL_tryPoint 10 = .ok (.ireturn, 1) := by decide +kernel
theorem dL_tryPoint_11 : decode cL_tryPoint 11 = .ok (.astore_n 3, 1) := by decide +kernel
theorem dL_tryPoint_12 : decode cL_tryPoint 12 = .ok (.ldc 29, 2) := by decide +kernel
theorem dL_tryPoint_14 : decode cL_tryPoint 14 = .ok (.ireturn, 1) := by decide +kernel
theorem dL_tryWhy_0 : decode cL_tryWhy 0 = .ok (.aload_n 0, 1) := by decide +kernel
theorem dL_tryWhy_1 : decode cL_tryWhy 1 = .ok (.iload_n 1, 1) := by decide +kernel
theorem dL_tryWhy_2 : decode cL_tryWhy 2 = .ok (.invokevirtual 56, 3) := by decide +kernel
theorem dL_tryWhy_5 : decode cL_tryWhy 5 = .ok (.ireturn, 1) := by decide +kernel
theorem dL_tryWhy_6 : decode cL_tryWhy 6 = .ok (.astore_n 2, 1) := by decide +kernel
theorem dL_tryWhy_7 : decode cL_tryWhy 7 = .ok (.ldc 52, 2) := by decide +kernel
theorem dL_tryWhy_9 : decode cL_tryWhy 9 = .ok (.ireturn, 1) := by decide +kernel
theorem dL_tryBoard_0 : decode cL_tryBoard 0 = .ok (.aload_n 0, 1) := by decide +kernel
theorem dL_tryBoard_1 : decode cL_tryBoard 1 = .ok (.iload_n 1, 1) := by decide +kernel
theorem dL_tryBoard_2 : decode cL_tryBoard 2 = .ok (.invokevirtual 59, 3) := by decide +kernel
theorem dL_tryBoard_5 : decode cL_tryBoard 5 = .ok (.ireturn, 1) := by decide +kernel
theorem dL_tryBoard_6 : decode cL_tryBoard 6 = .ok (.astore_n 2, 1) := by decide +kernel
theorem dL_tryBoard_7 : decode cL_tryBoard 7 = .ok (.ldc 29, 2) := by decide +kernel
theorem dL_tryBoard_9 : decode cL_tryBoard 9 = .ok (.ireturn, 1) := by decide +kernel
theorem dL_tryPlay_0 : decode cL_tryPlay 0 = .ok (.aload_n 0, 1) := by decide +kernel
theorem dL_tryPlay_1 : decode cL_tryPlay 1 = .ok (.iload_n 1, 1) := by decide +kernel
theorem dL_tryPlay_2 : decode cL_tryPlay 2 = .ok (.invokevirtual 62, 3) := by decide +kernel
theorem dL_tryPlay_5 : decode cL_tryPlay 5 = .ok (.ireturn, 1) := by decide +kernel
theorem dL_tryPlay_6 : decode cL_tryPlay 6 = .ok (.astore_n 2, 1) := by decide +kernel
theorem dL_tryPlay_7 : decode cL_tryPlay 7 = .ok (.ldc 52, 2) := by decide +kernel
theorem dL_tryPlay_9 : decode cL_tryPlay 9 = .ok (.ireturn, 1) := by decide +kernel
theorem dL_tryPlay_10 : decode cL_tryPlay 10 = .ok (.astore_n 2, 1) := by decide +kernel
theorem dL_tryPlay_11 : decode cL_tryPlay 11 = .ok (.ldc 40, 2) := by decide +kernel
theorem dL_tryPlay_13 : decode cL_tryPlay 13 = .ok (.ireturn, 1) := by decide +kernel
theorem dL_tryPass_0 : decode cL_tryPass 0 = .ok (.aload_n 0, 1) := by decide +kernel
theorem dL_tryPass_1 : decode cL_tryPass 1 = .ok (.invokevirtual 65, 3) := by decide +kernel
theorem dL_tryPass_4 : decode cL_tryPass 4 = .ok (.ireturn, 1) := by decide +kernel
theorem dL_tryPass_5 : decode cL_tryPass 5 = .ok (.astore_n 1, 1) := by decide +kernel
theorem dL_tryPass_6 : decode cL_tryPass 6 = .ok (.ldc 40, 2) := by decide +kernel
theorem dL_tryPass_8 : decode cL_tryPass 8 = .ok (.ireturn, 1) := by decide +kernel
theorem dL_tryLay_0 : decode cL_tryLay 0 = .ok (.aload_n 0, 1) := by decide +kernel
theorem dL_tryLay_1 : decode cL_tryLay 1 = .ok (.iload_n 1, 1) := by decide +kernel
theorem dL_tryLay_2 : decode cL_tryLay 2 = .ok (.invokevirtual 68, 3) := by decide +kernel
theorem dL_tryLay_5 : decode cL_tryLay 5 = .ok (.ireturn, 1) := by decide +kernel
theorem dL_tryLay_6 : decode cL_tryLay 6 = .ok (.astore_n 2, 1) := by decide +kernel
theorem dL_tryLay_7 : decode cL_tryLay 7 = .ok (.ldc 29, 2) := by decide +kernel
theorem dL_tryLay_9 : decode cL_tryLay 9 = .ok (.ireturn, 1) := by decide +kernel
theorem dL_tryUndo_0 : decode cL_tryUndo 0 = .ok (.aload_n 0, 1) := by decide +kernel
theorem dL_tryUndo_1 : decode cL_tryUndo 1 = .ok (.invokevirtual 71, 3) := by decide +kernel
theorem dL_tryUndo_4 : decode cL_tryUndo 4 = .ok (.ireturn, 1) := by decide +kernel
theorem dL_tryUndo_5 : decode cL_tryUndo 5 = .ok (.astore_n 1, 1) := by decide +kernel
theorem dL_tryUndo_6 : decode cL_tryUndo 6 = .ok (.ldc 40, 2) := by decide +kernel
theorem dL_tryUndo_8 : decode cL_tryUndo 8 = .ok (.ireturn, 1) := by decide +kernel
theorem dL_tryIf_0 : decode cL_tryIf 0 = .ok (.aload_n 0, 1) := by decide +kernel
theorem dL_tryIf_1 : decode cL_tryIf 1 = .ok (.iload_n 1, 1) := by decide +kernel
theorem dL_tryIf_2 : decode cL_tryIf 2 = .ok (.iload_n 2, 1) := by decide +kernel
theorem dL_tryIf_3 : decode cL_tryIf 3 = .ok (.invokevirtual 74, 3) := by decide +kernel
theorem dL_tryIf_6 : decode cL_tryIf 6 = .ok (.ireturn, 1) := by decide +kernel
theorem dL_tryIf_7 : decode cL_tryIf 7 = .ok (.astore_n 3, 1) := by decide +kernel
theorem dL_tryIf_8 : decode cL_tryIf 8 = .ok (.ldc 52, 2) := by decide +kernel
theorem dL_tryIf_10 : decode cL_tryIf 10 = .ok (.ireturn, 1) := by decide +kernel
theorem dL_tryIf_11 : decode cL_tryIf 11 = .ok (.astore_n 3, 1) := by decide +kernel
theorem dL_tryIf_12 : decode cL_tryIf 12 = .ok (.ldc 29, 2) := by decide +kernel
theorem dL_tryIf_14 : decode cL_tryIf 14 = .ok (.ireturn, 1) := by decide +kernel
theorem dL_tryLadder_0 : decode cL_tryLadder 0 = .ok (.aload_n 0, 1) := by decide +kernel
theorem dL_tryLadder_1 : decode cL_tryLadder 1 = .ok (.iload_n 1, 1) := by decide +kernel
theorem dL_tryLadder_2 : decode cL_tryLadder 2 = .ok (.iload_n 2, 1) := by decide +kernel
theorem dL_tryLadder_3 : decode cL_tryLadder 3 = .ok (.invokevirtual 77, 3) := by decide +kernel
theorem dL_tryLadder_6 : decode cL_tryLadder 6 = .ok (.ireturn, 1) := by decide +kernel
theorem dL_tryLadder_7 : decode cL_tryLadder 7 = .ok (.astore_n 3, 1) := by decide +kernel
theorem dL_tryLadder_8 : decode cL_tryLadder 8 = .ok (.ldc 52, 2) := by decide +kernel
theorem dL_tryLadder_10 : decode cL_tryLadder 10 = .ok (.ireturn, 1) := by decide +kernel
theorem dL_tryLadder_11 : decode cL_tryLadder 11 = .ok (.astore_n 3, 1) := by decide +kernel
theorem dL_tryLadder_12 : decode cL_tryLadder 12 = .ok (.ldc 29, 2) := by decide +kernel
theorem dL_tryLadder_14 : decode cL_tryLadder 14 = .ok (.ireturn, 1) := by decide +kernel
theorem dL_tryChase_0 : decode cL_tryChase 0 = .ok (.aload_n 0, 1) := by decide +kernel
theorem dL_tryChase_1 : decode cL_tryChase 1 = .ok (.iload_n 1, 1) := by decide +kernel
theorem dL_tryChase_2 : decode cL_tryChase 2 = .ok (.invokevirtual 80, 3) := by decide +kernel
theorem dL_tryChase_5 : decode cL_tryChase 5 = .ok (.ireturn, 1) := by decide +kernel
theorem dL_tryChase_6 : decode cL_tryChase 6 = .ok (.astore_n 2, 1) := by decide +kernel
theorem dL_tryChase_7 : decode cL_tryChase 7 = .ok (.ldc 52, 2) := by decide +kernel
theorem dL_tryChase_9 : decode cL_tryChase 9 = .ok (.ireturn, 1) := by decide +kernel
theorem dL_tryKeep_0 : decode cL_tryKeep 0 = .ok (.aload_n 0, 1) := by decide +kernel
theorem dL_tryKeep_1 : decode cL_tryKeep 1 = .ok (.iload_n 1, 1) := by decide +kernel
theorem dL_tryKeep_2 : decode cL_tryKeep 2 = .ok (.invokevirtual 83, 3) := by decide +kernel
theorem dL_tryKeep_5 : decode cL_tryKeep 5 = .ok (.ireturn, 1) := by decide +kernel
theorem dL_tryKeep_6 : decode cL_tryKeep 6 = .ok (.astore_n 2, 1) := by decide +kernel
theorem dL_tryKeep_7 : decode cL_tryKeep 7 = .ok (.ldc 52, 2) := by decide +kernel
theorem dL_tryKeep_9 : decode cL_tryKeep 9 = .ok (.ireturn, 1) := by decide +kernel
theorem dL_tryBack_0 : decode cL_tryBack 0 = .ok (.aload_n 0, 1) := by decide +kernel
theorem dL_tryBack_1 : decode cL_tryBack 1 = .ok (.iload_n 1, 1) := by decide +kernel
theorem dL_tryBack_2 : decode cL_tryBack 2 = .ok (.invokevirtual 86, 3) := by decide +kernel
theorem dL_tryBack_5 : decode cL_tryBack 5 = .ok (.ireturn, 1) := by decide +kernel
theorem dL_tryBack_6 : decode cL_tryBack 6 = .ok (.astore_n 2, 1) := by decide +kernel
theorem dL_tryBack_7 : decode cL_tryBack 7 = .ok (.ldc 52, 2) := by decide +kernel
theorem dL_tryBack_9 : decode cL_tryBack 9 = .ok (.ireturn, 1) := by decide +kernel
theorem dL_tryBack_10 : decode cL_tryBack 10 = .ok (.astore_n 2, 1) := by decide +kernel
theorem dL_tryBack_11 : decode cL_tryBack 11 = .ok (.ldc 40, 2) := by decide +kernel
theorem dL_tryBack_13 : decode cL_tryBack 13 = .ok (.ireturn, 1) := by decide +kernel
theorem dL_call_0 : decode cL_call 0 = .ok (.iload_n 1, 1) := by decide +kernel
theorem dL_call_1 : decode cL_call 1 = .ok (.tableswitch 166 0 14 #[75, 81, 86, 92, 99, 106, 112, 118, 124, 129, 135, 140, 147, 154, 160], 75) := by decide +kernel
theorem dL_call_76 : decode cL_call 76 = .ok (.aload_n 0, 1) := by decide +kernel
theorem dL_call_77 : decode cL_call 77 = .ok (.iload_n 2, 1) := by decide +kernel
theorem dL_call_78 : decode cL_call 78 = .ok (.invokestatic 89, 3) := by decide +kernel
theorem dL_call_81 : decode cL_call 81 = .ok (.ireturn, 1) := by decide +kernel
theorem dL_call_82 : decode cL_call 82 = .ok (.aload_n 0, 1) := by decide +kernel
theorem dL_call_83 : decode cL_call 83 = .ok (.invokestatic 95, 3) := by decide +kernel
theorem dL_call_86 : decode cL_call 86 = .ok (.ireturn, 1) := by decide +kernel
theorem dL_call_87 : decode cL_call 87 = .ok (.aload_n 0, 1) := by decide +kernel
theorem dL_call_88 : decode cL_call 88 = .ok (.iload_n 2, 1) := by decide +kernel
theorem dL_call_89 : decode cL_call 89 = .ok (.invokestatic 99, 3) := by decide +kernel
theorem dL_call_92 : decode cL_call 92 = .ok (.ireturn, 1) := by decide +kernel
theorem dL_call_93 : decode cL_call 93 = .ok (.aload_n 0, 1) := by decide +kernel
theorem dL_call_94 : decode cL_call 94 = .ok (.iload_n 2, 1) := by decide +kernel
theorem dL_call_95 : decode cL_call 95 = .ok (.iload_n 3, 1) := by decide +kernel
theorem dL_call_96 : decode cL_call 96 = .ok (.invokestatic 102, 3) := by decide +kernel
theorem dL_call_99 : decode cL_call 99 = .ok (.ireturn, 1) := by decide +kernel
theorem dL_call_100 : decode cL_call 100 = .ok (.aload_n 0, 1) := by decide +kernel
theorem dL_call_101 : decode cL_call 101 = .ok (.iload_n 2, 1) := by decide +kernel
theorem dL_call_102 : decode cL_call 102 = .ok (.iload_n 3, 1) := by decide +kernel
theorem dL_call_103 : decode cL_call 103 = .ok (.invokestatic 106, 3) := by decide +kernel
theorem dL_call_106 : decode cL_call 106 = .ok (.ireturn, 1) := by decide +kernel
theorem dL_call_107 : decode cL_call 107 = .ok (.aload_n 0, 1) := by decide +kernel
theorem dL_call_108 : decode cL_call 108 = .ok (.iload_n 2, 1) := by decide +kernel
theorem dL_call_109 : decode cL_call 109 = .ok (.invokestatic 109, 3) := by decide +kernel
theorem dL_call_112 : decode cL_call 112 = .ok (.ireturn, 1) := by decide +kernel
theorem dL_call_113 : decode cL_call 113 = .ok (.aload_n 0, 1) := by decide +kernel
theorem dL_call_114 : decode cL_call 114 = .ok (.iload_n 2, 1) := by decide +kernel
theorem dL_call_115 : decode cL_call 115 = .ok (.invokestatic 112, 3) := by decide +kernel
theorem dL_call_118 : decode cL_call 118 = .ok (.ireturn, 1) := by decide +kernel
theorem dL_call_119 : decode cL_call 119 = .ok (.aload_n 0, 1) := by decide +kernel
theorem dL_call_120 : decode cL_call 120 = .ok (.iload_n 2, 1) := by decide +kernel
theorem dL_call_121 : decode cL_call 121 = .ok (.invokestatic 115, 3) := by decide +kernel
theorem dL_call_124 : decode cL_call 124 = .ok (.ireturn, 1) := by decide +kernel
theorem dL_call_125 : decode cL_call 125 = .ok (.aload_n 0, 1) := by decide +kernel
theorem dL_call_126 : decode cL_call 126 = .ok (.invokestatic 118, 3) := by decide +kernel
theorem dL_call_129 : decode cL_call 129 = .ok (.ireturn, 1) := by decide +kernel
theorem dL_call_130 : decode cL_call 130 = .ok (.aload_n 0, 1) := by decide +kernel
theorem dL_call_131 : decode cL_call 131 = .ok (.iload_n 2, 1) := by decide +kernel
theorem dL_call_132 : decode cL_call 132 = .ok (.invokestatic 121, 3) := by decide +kernel
theorem dL_call_135 : decode cL_call 135 = .ok (.ireturn, 1) := by decide +kernel
theorem dL_call_136 : decode cL_call 136 = .ok (.aload_n 0, 1) := by decide +kernel
theorem dL_call_137 : decode cL_call 137 = .ok (.invokestatic 124, 3) := by decide +kernel
theorem dL_call_140 : decode cL_call 140 = .ok (.ireturn, 1) := by decide +kernel
theorem dL_call_141 : decode cL_call 141 = .ok (.aload_n 0, 1) := by decide +kernel
theorem dL_call_142 : decode cL_call 142 = .ok (.iload_n 2, 1) := by decide +kernel
theorem dL_call_143 : decode cL_call 143 = .ok (.iload_n 3, 1) := by decide +kernel
theorem dL_call_144 : decode cL_call 144 = .ok (.invokestatic 127, 3) := by decide +kernel
theorem dL_call_147 : decode cL_call 147 = .ok (.ireturn, 1) := by decide +kernel
theorem dL_call_148 : decode cL_call 148 = .ok (.aload_n 0, 1) := by decide +kernel
theorem dL_call_149 : decode cL_call 149 = .ok (.iload_n 2, 1) := by decide +kernel
theorem dL_call_150 : decode cL_call 150 = .ok (.iload_n 3, 1) := by decide +kernel
theorem dL_call_151 : decode cL_call 151 = .ok (.invokestatic 130, 3) := by decide +kernel
theorem dL_call_154 : decode cL_call 154 = .ok (.ireturn, 1) := by decide +kernel
theorem dL_call_155 : decode cL_call 155 = .ok (.aload_n 0, 1) := by decide +kernel
theorem dL_call_156 : decode cL_call 156 = .ok (.iload_n 2, 1) := by decide +kernel
theorem dL_call_157 : decode cL_call 157 = .ok (.invokestatic 133, 3) := by decide +kernel
theorem dL_call_160 : decode cL_call 160 = .ok (.ireturn, 1) := by decide +kernel
theorem dL_call_161 : decode cL_call 161 = .ok (.aload_n 0, 1) := by decide +kernel
theorem dL_call_162 : decode cL_call 162 = .ok (.iload_n 2, 1) := by decide +kernel
theorem dL_call_163 : decode cL_call 163 = .ok (.invokestatic 136, 3) := by decide +kernel
theorem dL_call_166 : decode cL_call 166 = .ok (.ireturn, 1) := by decide +kernel
theorem dL_call_167 : decode cL_call 167 = .ok (.aload_n 0, 1) := by decide +kernel
theorem dL_call_168 : decode cL_call 168 = .ok (.iload_n 2, 1) := by decide +kernel
theorem dL_call_169 : decode cL_call 169 = .ok (.invokestatic 139, 3) := by decide +kernel
theorem dL_call_172 : decode cL_call 172 = .ok (.ireturn, 1) := by decide +kernel
theorem dL_cell_0 : decode cL_cell 0 = .ok (.iload_n 1, 1) := by decide +kernel
theorem dL_cell_1 : decode cL_cell 1 = .ok (.aload_n 0, 1) := by decide +kernel
theorem dL_cell_2 : decode cL_cell 2 = .ok (.arraylength, 1) := by decide +kernel
theorem dL_cell_3 : decode cL_cell 3 = .ok (.if_icmp .ge 9, 3) := by decide +kernel
theorem dL_cell_6 : decode cL_cell 6 = .ok (.aload_n 0, 1) := by decide +kernel
theorem dL_cell_7 : decode cL_cell 7 = .ok (.iload_n 1, 1) := by decide +kernel
theorem dL_cell_8 : decode cL_cell 8 = .ok (.iaload, 1) := by decide +kernel
theorem dL_cell_9 : decode cL_cell 9 = .ok (.goto 13, 3) := by decide +kernel
theorem dL_cell_12 : decode cL_cell 12 = .ok (.ldc 142, 2) := by decide +kernel
theorem dL_cell_14 : decode cL_cell 14 = .ok (.iload_n 1, 1) := by decide +kernel
theorem dL_cell_15 : decode cL_cell 15 = .ok (.iconst 3, 1) := by decide +kernel
theorem dL_cell_16 : decode cL_cell 16 = .ok (.iadd, 1) := by decide +kernel
theorem dL_cell_17 : decode cL_cell 17 = .ok (.imul, 1) := by decide +kernel
theorem dL_cell_18 : decode cL_cell 18 = .ok (.sipush 11519, 3) := by decide +kernel
theorem dL_cell_21 : decode cL_cell 21 = .ok (.iadd, 1) := by decide +kernel
theorem dL_cell_22 : decode cL_cell 22 = .ok (.ldc 143, 2) := by decide +kernel
theorem dL_cell_24 : decode cL_cell 24 = .ok (.iand, 1) := by decide +kernel
theorem dL_cell_25 : decode cL_cell 25 = .ok (.ireturn, 1) := by decide +kernel
theorem dL_thrown_0 : decode cL_thrown 0 = .ok (.iload_n 0, 1) := by decide +kernel
theorem dL_thrown_1 : decode cL_thrown 1 = .ok (.ldc 52, 2) := by decide +kernel
theorem dL_thrown_3 : decode cL_thrown 3 = .ok (.if_icmp .eq 15, 3) := by decide +kernel
theorem dL_thrown_6 : decode cL_thrown 6 = .ok (.iload_n 0, 1) := by decide +kernel
theorem dL_thrown_7 : decode cL_thrown 7 = .ok (.ldc 29, 2) := by decide +kernel
theorem dL_thrown_9 : decode cL_thrown 9 = .ok (.if_icmp .eq 9, 3) := by decide +kernel
theorem dL_thrown_12 : decode cL_thrown 12 = .ok (.iload_n 0, 1) := by decide +kernel
theorem dL_thrown_13 : decode cL_thrown 13 = .ok (.ldc 40, 2) := by decide +kernel
theorem dL_thrown_15 : decode cL_thrown 15 = .ok (.if_icmp .ne 7, 3) := by decide +kernel
theorem dL_thrown_18 : decode cL_thrown 18 = .ok (.iconst 1, 1) := by decide +kernel
theorem dL_thrown_19 : decode cL_thrown 19 = .ok (.goto 4, 3) := by decide +kernel
theorem dL_thrown_22 : decode cL_thrown 22 = .ok (.iconst 0, 1) := by decide +kernel
theorem dL_thrown_23 : decode cL_thrown 23 = .ok (.ireturn, 1) := by decide +kernel
theorem dL_refuses_0 : decode cL_refuses 0 = .ok (.aload_n 0, 1) := by decide +kernel
theorem dL_refuses_1 : decode cL_refuses 1 = .ok (.iconst 2, 1) := by decide +kernel
theorem dL_refuses_2 : decode cL_refuses 2 = .ok (.iconst 0, 1) := by decide +kernel
theorem dL_refuses_3 : decode cL_refuses 3 = .ok (.iconst 0, 1) := by decide +kernel
theorem dL_refuses_4 : decode cL_refuses 4 = .ok (.iconst 0, 1) := by decide +kernel
theorem dL_refuses_5 : decode cL_refuses 5 = .ok (.invokestatic 144, 3) := by decide +kernel
theorem dL_refuses_8 : decode cL_refuses 8 = .ok (.istore_n 2, 1) := by decide +kernel
theorem dL_refuses_9 : decode cL_refuses 9 = .ok (.iload_n 2, 1) := by decide +kernel
theorem dL_refuses_10 : decode cL_refuses 10 = .ok (.iload_n 2, 1) := by decide +kernel
theorem dL_refuses_11 : decode cL_refuses 11 = .ok (.imul, 1) := by decide +kernel
theorem dL_refuses_12 : decode cL_refuses 12 = .ok (.istore_n 3, 1) := by decide +kernel
theorem dL_refuses_13 : decode cL_refuses 13 = .ok (.iload_n 1, 1) := by decide +kernel
theorem dL_refuses_14 : decode cL_refuses 14 = .ok (.iconst 2, 1) := by decide +kernel
theorem dL_refuses_15 : decode cL_refuses 15 = .ok (.irem, 1) := by decide +kernel
theorem dL_refuses_16 : decode cL_refuses 16 = .ok (.ifCond .ne 12, 3) := by decide +kernel
theorem dL_refuses_19 : decode cL_refuses 19 = .ok (.iconst (-1), 1) := by decide +kernel
theorem dL_refuses_20 : decode cL_refuses 20 = .ok (.iload_n 1, 1) := by decide +kernel
theorem dL_refuses_21 : decode cL_refuses 21 = .ok (.bipush 99, 2) := by decide +kernel
theorem dL_refuses_23 : decode cL_refuses 23 = .ok (.irem, 1) := by decide +kernel
theorem dL_refuses_24 : decode cL_refuses 24 = .ok (.isub, 1) := by decide +kernel
theorem dL_refuses_25 : decode cL_refuses 25 = .ok (.goto 9, 3) := by decide +kernel
theorem dL_refuses_28 : decode cL_refuses 28 = .ok (.iload_n 3, 1) := by decide +kernel
theorem dL_refuses_29 : decode cL_refuses 29 = .ok (.iload_n 1, 1) := by decide +kernel
theorem dL_refuses_30 : decode cL_refuses 30 = .ok (.bipush 99, 2) := by decide +kernel
theorem dL_refuses_32 : decode cL_refuses 32 = .ok (.irem, 1) := by decide +kernel
theorem dL_refuses_33 : decode cL_refuses 33 = .ok (.iadd, 1) := by decide +kernel
theorem dL_refuses_34 : decode cL_refuses 34 = .ok (.istore 4, 2) := by decide +kernel
theorem dL_refuses_36 : decode cL_refuses 36 = .ok (.aload_n 0, 1) := by decide +kernel
theorem dL_refuses_37 : decode cL_refuses 37 = .ok (.iconst 0, 1) := by decide +kernel
theorem dL_refuses_38 : decode cL_refuses 38 = .ok (.iload_n 1, 1) := by decide +kernel
theorem dL_refuses_39 : decode cL_refuses 39 = .ok (.iconst 2, 1) := by decide +kernel
theorem dL_refuses_40 : decode cL_refuses 40 = .ok (.irem, 1) := by decide +kernel
theorem dL_refuses_41 : decode cL_refuses 41 = .ok (.ifCond .ne 12, 3) := by decide +kernel
theorem dL_refuses_44 : decode cL_refuses 44 = .ok (.iconst (-1), 1) := by decide +kernel
theorem dL_refuses_45 : decode cL_refuses 45 = .ok (.iload_n 1, 1) := by decide +kernel
theorem dL_refuses_46 : decode cL_refuses 46 = .ok (.bipush 9, 2) := by decide +kernel
theorem dL_refuses_48 : decode cL_refuses 48 = .ok (.irem, 1) := by decide +kernel
theorem dL_refuses_49 : decode cL_refuses 49 = .ok (.isub, 1) := by decide +kernel
theorem dL_refuses_50 : decode cL_refuses 50 = .ok (.goto 11, 3) := by decide +kernel
theorem dL_refuses_53 : decode cL_refuses 53 = .ok (.sipush 256, 3) := by decide +kernel
theorem dL_refuses_56 : decode cL_refuses 56 = .ok (.iload_n 1, 1) := by decide +kernel
theorem dL_refuses_57 : decode cL_refuses 57 = .ok (.bipush 9, 2) := by decide +kernel
theorem dL_refuses_59 : decode cL_refuses 59 = .ok (.irem, 1) := by decide +kernel
theorem dL_refuses_60 : decode cL_refuses 60 = .ok (.iadd, 1) := by decide +kernel
theorem dL_refuses_61 : decode cL_refuses 61 = .ok (.iconst 0, 1) := by decide +kernel
theorem dL_refuses_62 : decode cL_refuses 62 = .ok (.iconst 0, 1) := by decide +kernel
theorem dL_refuses_63 : decode cL_refuses 63 = .ok (.invokestatic 144, 3) := by decide +kernel
theorem dL_refuses_66 : decode cL_refuses 66 = .ok (.ldc 29, 2) := by decide +kernel
theorem dL_refuses_68 : decode cL_refuses 68 = .ok (.if_icmp .ne 424, 3) := by decide +kernel
theorem dL_refuses_71 : decode cL_refuses 71 = .ok (.aload_n 0, 1) := by decide +kernel
theorem dL_refuses_72 : decode cL_refuses 72 = .ok (.iconst 2, 1) := by decide +kernel
theorem dL_refuses_73 : decode cL_refuses 73 = .ok (.bipush 8, 2) := by decide +kernel
theorem dL_refuses_75 : decode cL_refuses 75 = .ok (.iload_n 1, 1) := by decide +kernel
theorem dL_refuses_76 : decode cL_refuses 76 = .ok (.bipush 50, 2) := by decide +kernel
theorem dL_refuses_78 : decode cL_refuses 78 = .ok (.irem, 1) := by decide +kernel
theorem dL_refuses_79 : decode cL_refuses 79 = .ok (.iadd, 1) := by decide +kernel
theorem dL_refuses_80 : decode cL_refuses 80 = .ok (.iconst 0, 1) := by decide +kernel
theorem dL_refuses_81 : decode cL_refuses 81 = .ok (.iconst 0, 1) := by decide +kernel
theorem dL_refuses_82 : decode cL_refuses 82 = .ok (.invokestatic 144, 3) := by decide +kernel
theorem dL_refuses_85 : decode cL_refuses 85 = .ok (.ldc 29, 2) := by decide +kernel
theorem dL_refuses_87 : decode cL_refuses 87 = .ok (.if_icmp .ne 405, 3) := by decide +kernel
theorem dL_refuses_90 : decode cL_refuses 90 = .ok (.aload_n 0, 1) := by decide +kernel
theorem dL_refuses_91 : decode cL_refuses 91 = .ok (.iconst 2, 1) := by decide +kernel
theorem dL_refuses_92 : decode cL_refuses 92 = .ok (.iload_n 1, 1) := by decide +kernel
theorem dL_refuses_93 : decode cL_refuses 93 = .ok (.bipush 9, 2) := by decide +kernel
theorem dL_refuses_95 : decode cL_refuses 95 = .ok (.irem, 1) := by decide +kernel
theorem dL_refuses_96 : decode cL_refuses 96 = .ok (.iadd, 1) := by decide +kernel
theorem dL_refuses_97 : decode cL_refuses 97 = .ok (.invokestatic 148, 3) := by decide +kernel
theorem dL_refuses_100 : decode cL_refuses 100 = .ok (.ldc2_w 15, 3) := by decide +kernel
theorem dL_refuses_103 : decode cL_refuses 103 = .ok (.lcmp, 1) := by decide +kernel
theorem dL_refuses_104 : decode cL_refuses 104 = .ok (.ifCond .ne 388, 3) := by decide +kernel
theorem dL_refuses_107 : decode cL_refuses 107 = .ok (.aload_n 0, 1) := by decide +kernel
theorem dL_refuses_108 : decode cL_refuses 108 = .ok (.iconst 3, 1) := by decide +kernel
theorem dL_refuses_109 : decode cL_refuses 109 = .ok (.iconst 2, 1) := by decide +kernel
theorem dL_refuses_110 : decode cL_refuses 110 = .ok (.iload_n 1, 1) := by decide +kernel
theorem dL_refuses_111 : decode cL_refuses 111 = .ok (.bipush 9, 2) := by decide +kernel
theorem dL_refuses_113 : decode cL_refuses 113 = .ok (.irem, 1) := by decide +kernel
theorem dL_refuses_114 : decode cL_refuses 114 = .ok (.iadd, 1) := by decide +kernel
theorem dL_refuses_115 : decode cL_refuses 115 = .ok (.bipush 9, 2) := by decide +kernel
theorem dL_refuses_117 : decode cL_refuses 117 = .ok (.iconst 0, 1) := by decide +kernel
theorem dL_refuses_118 : decode cL_refuses 118 = .ok (.invokestatic 144, 3) := by decide +kernel
theorem dL_refuses_121 : decode cL_refuses 121 = .ok (.ldc 52, 2) := by decide +kernel
theorem dL_refuses_123 : decode cL_refuses 123 = .ok (.if_icmp .ne 369, 3) := by decide +kernel
theorem dL_refuses_126 : decode cL_refuses 126 = .ok (.aload_n 0, 1) := by decide +kernel
theorem dL_refuses_127 : decode cL_refuses 127 = .ok (.iconst 3, 1) := by decide +kernel
theorem dL_refuses_128 : decode cL_refuses 128 = .ok (.iload_n 1, 1) := by decide +kernel
theorem dL_refuses_129 : decode cL_refuses 129 = .ok (.iconst 2, 1) := by decide +kernel
theorem dL_refuses_130 : decode cL_refuses 130 = .ok (.irem, 1) := by decide +kernel
theorem dL_refuses_131 : decode cL_refuses 131 = .ok (.bipush 6, 2) := by decide +kernel
theorem dL_refuses_133 : decode cL_refuses 133 = .ok (.iload_n 1, 1) := by decide +kernel
theorem dL_refuses_134 : decode cL_refuses 134 = .ok (.bipush 9, 2) := by decide +kernel
theorem dL_refuses_136 : decode cL_refuses 136 = .ok (.irem, 1) := by decide +kernel
theorem dL_refuses_137 : decode cL_refuses 137 = .ok (.iadd, 1) := by decide +kernel
theorem dL_refuses_138 : decode cL_refuses 138 = .ok (.iconst 0, 1) := by decide +kernel
theorem dL_refuses_139 : decode cL_refuses 139 = .ok (.invokestatic 144, 3) := by decide +kernel
theorem dL_refuses_142 : decode cL_refuses 142 = .ok (.ldc 29, 2) := by decide +kernel
theorem dL_refuses_144 : decode cL_refuses 144 = .ok (.if_icmp .ne 348, 3) := by decide +kernel
theorem dL_refuses_147 : decode cL_refuses 147 = .ok (.aload_n 0, 1) := by decide +kernel
theorem dL_refuses_148 : decode cL_refuses 148 = .ok (.iconst 4, 1) := by decide +kernel
theorem dL_refuses_149 : decode cL_refuses 149 = .ok (.iload 4, 2) := by decide +kernel
theorem dL_refuses_151 : decode cL_refuses 151 = .ok (.bipush 9, 2) := by decide +kernel
theorem dL_refuses_153 : decode cL_refuses 153 = .ok (.iconst 0, 1) := by decide +kernel
theorem dL_refuses_154 : decode cL_refuses 154 = .ok (.invokestatic 144, 3) := by decide +kernel
theorem dL_refuses_157 : decode cL_refuses 157 = .ok (.ldc 52, 2) := by decide +kernel
theorem dL_refuses_159 : decode cL_refuses 159 = .ok (.if_icmp .ne 333, 3) := by decide +kernel
theorem dL_refuses_162 : decode cL_refuses 162 = .ok (.aload_n 0, 1) := by decide +kernel
theorem dL_refuses_163 : decode cL_refuses 163 = .ok (.iconst 4, 1) := by decide +kernel
theorem dL_refuses_164 : decode cL_refuses 164 = .ok (.iload_n 1, 1) := by decide +kernel
theorem dL_refuses_165 : decode cL_refuses 165 = .ok (.iload_n 3, 1) := by decide +kernel
theorem dL_refuses_166 : decode cL_refuses 166 = .ok (.irem, 1) := by decide +kernel
theorem dL_refuses_167 : decode cL_refuses 167 = .ok (.bipush 6, 2) := by decide +kernel
theorem dL_refuses_169 : decode cL_refuses 169 = .ok (.iload_n 1, 1) := by decide +kernel
theorem dL_refuses_170 : decode cL_refuses 170 = .ok (.bipush 9, 2) := by decide +kernel
theorem dL_refuses_172 : decode cL_refuses 172 = .ok (.irem, 1) := by decide +kernel
theorem dL_refuses_173 : decode cL_refuses 173 = .ok (.iadd, 1) := by decide +kernel
theorem dL_refuses_174 : decode cL_refuses 174 = .ok (.iconst 0, 1) := by decide +kernel
theorem dL_refuses_175 : decode cL_refuses 175 = .ok (.invokestatic 144, 3) := by decide +kernel
theorem dL_refuses_178 : decode cL_refuses 178 = .ok (.ldc 29, 2) := by decide +kernel
theorem dL_refuses_180 : decode cL_refuses 180 = .ok (.if_icmp .ne 312, 3) := by decide +kernel
theorem dL_refuses_183 : decode cL_refuses 183 = .ok (.aload_n 0, 1) := by decide +kernel
theorem dL_refuses_184 : decode cL_refuses 184 = .ok (.iload 4, 2) := by decide +kernel
theorem dL_refuses_186 : decode cL_refuses 186 = .ok (.bipush 9, 2) := by decide +kernel
theorem dL_refuses_188 : decode cL_refuses 188 = .ok (.invokestatic 152, 3) := by decide +kernel
theorem dL_refuses_191 : decode cL_refuses 191 = .ok (.ldc2_w 15, 3) := by decide +kernel
theorem dL_refuses_194 : decode cL_refuses 194 = .ok (.lcmp, 1) := by decide +kernel
theorem dL_refuses_195 : decode cL_refuses 195 = .ok (.ifCond .ne 297, 3) := by decide +kernel
theorem dL_refuses_198 : decode cL_refuses 198 = .ok (.aload_n 0, 1) := by decide +kernel
theorem dL_refuses_199 : decode cL_refuses 199 = .ok (.iload_n 1, 1) := by decide +kernel
theorem dL_refuses_200 : decode cL_refuses 200 = .ok (.iload_n 3, 1) := by decide +kernel
theorem dL_refuses_201 : decode cL_refuses 201 = .ok (.irem, 1) := by decide +kernel
theorem dL_refuses_202 : decode cL_refuses 202 = .ok (.iconst 2, 1) := by decide +kernel
theorem dL_refuses_203 : decode cL_refuses 203 = .ok (.iload_n 1, 1) := by decide +kernel
theorem dL_refuses_204 : decode cL_refuses 204 = .ok (.bipush 9, 2) := by decide +kernel
theorem dL_refuses_206 : decode cL_refuses 206 = .ok (.irem, 1) := by decide +kernel
theorem dL_refuses_207 : decode cL_refuses 207 = .ok (.iadd, 1) := by decide +kernel
theorem dL_refuses_208 : decode cL_refuses 208 = .ok (.invokestatic 152, 3) := by decide +kernel
theorem dL_refuses_211 : decode cL_refuses 211 = .ok (.ldc2_w 23, 3) := by decide +kernel
theorem dL_refuses_214 : decode cL_refuses 214 = .ok (.lcmp, 1) := by decide +kernel
theorem dL_refuses_215 : decode cL_refuses 215 = .ok (.ifCond .ne 277, 3) := by decide +kernel
theorem dL_refuses_218 : decode cL_refuses 218 = .ok (.aload_n 0, 1) := by decide +kernel
theorem dL_refuses_219 : decode cL_refuses 219 = .ok (.iconst 5, 1) := by decide +kernel
theorem dL_refuses_220 : decode cL_refuses 220 = .ok (.iload 4, 2) := by decide +kernel
theorem dL_refuses_222 : decode cL_refuses 222 = .ok (.iconst 0, 1) := by decide +kernel
theorem dL_refuses_223 : decode cL_refuses 223 = .ok (.iconst 0, 1) := by decide +kernel
theorem dL_refuses_224 : decode cL_refuses 224 = .ok (.invokestatic 144, 3) := by decide +kernel
theorem dL_refuses_227 : decode cL_refuses 227 = .ok (.ldc 52, 2) := by decide +kernel
theorem dL_refuses_229 : decode cL_refuses 229 = .ok (.if_icmp .ne 263, 3) := by decide +kernel
theorem dL_refuses_232 : decode cL_refuses 232 = .ok (.aload_n 0, 1) := by decide +kernel
theorem dL_refuses_233 : decode cL_refuses 233 = .ok (.bipush 6, 2) := by decide +kernel
theorem dL_refuses_235 : decode cL_refuses 235 = .ok (.iload_n 1, 1) := by decide +kernel
theorem dL_refuses_236 : decode cL_refuses 236 = .ok (.iconst 2, 1) := by decide +kernel
theorem dL_refuses_237 : decode cL_refuses 237 = .ok (.irem, 1) := by decide +kernel
theorem dL_refuses_238 : decode cL_refuses 238 = .ok (.ifCond .ne 12, 3) := by decide +kernel
theorem dL_refuses_241 : decode cL_refuses 241 = .ok (.iconst 2, 1) := by decide +kernel
theorem dL_refuses_242 : decode cL_refuses 242 = .ok (.iload_n 1, 1) := by decide +kernel
theorem dL_refuses_243 : decode cL_refuses 243 = .ok (.bipush 9, 2) := by decide +kernel
theorem dL_refuses_245 : decode cL_refuses 245 = .ok (.irem, 1) := by decide +kernel
theorem dL_refuses_246 : decode cL_refuses 246 = .ok (.isub, 1) := by decide +kernel
theorem dL_refuses_247 : decode cL_refuses 247 = .ok (.goto 10, 3) := by decide +kernel
theorem dL_refuses_250 : decode cL_refuses 250 = .ok (.bipush 8, 2) := by decide +kernel
theorem dL_refuses_252 : decode cL_refuses 252 = .ok (.iload_n 1, 1) := by decide +kernel
theorem dL_refuses_253 : decode cL_refuses 253 = .ok (.bipush 9, 2) := by decide +kernel
theorem dL_refuses_255 : decode cL_refuses 255 = .ok (.irem, 1) := by decide +kernel
theorem dL_refuses_256 : decode cL_refuses 256 = .ok (.iadd, 1) := by decide +kernel
theorem dL_refuses_257 : decode cL_refuses 257 = .ok (.iconst 0, 1) := by decide +kernel
theorem dL_refuses_258 : decode cL_refuses 258 = .ok (.iconst 0, 1) := by decide +kernel
theorem dL_refuses_259 : decode cL_refuses 259 = .ok (.invokestatic 144, 3) := by decide +kernel
theorem dL_refuses_262 : decode cL_refuses 262 = .ok (.ldc 29, 2) := by decide +kernel
theorem dL_refuses_264 : decode cL_refuses 264 = .ok (.if_icmp .ne 228, 3) := by decide +kernel
theorem dL_refuses_267 : decode cL_refuses 267 = .ok (.aload_n 0, 1) := by decide +kernel
theorem dL_refuses_268 : decode cL_refuses 268 = .ok (.bipush 7, 2) := by decide +kernel
theorem dL_refuses_270 : decode cL_refuses 270 = .ok (.iload 4, 2) := by decide +kernel
theorem dL_refuses_272 : decode cL_refuses 272 = .ok (.iconst 0, 1) := by decide +kernel
theorem dL_refuses_273 : decode cL_refuses 273 = .ok (.iconst 0, 1) := by decide +kernel
theorem dL_refuses_274 : decode cL_refuses 274 = .ok (.invokestatic 144, 3) := by decide +kernel
theorem dL_refuses_277 : decode cL_refuses 277 = .ok (.ldc 52, 2) := by decide +kernel
theorem dL_refuses_279 : decode cL_refuses 279 = .ok (.if_icmp .ne 213, 3) := by decide +kernel
theorem dL_refuses_282 : decode cL_refuses 282 = .ok (.aload_n 0, 1) := by decide +kernel
theorem dL_refuses_283 : decode cL_refuses 283 = .ok (.bipush 9, 2) := by decide +kernel
theorem dL_refuses_285 : decode cL_refuses 285 = .ok (.iload_n 1, 1) := by decide +kernel
theorem dL_refuses_286 : decode cL_refuses 286 = .ok (.iconst 2, 1) := by decide +kernel
theorem dL_refuses_287 : decode cL_refuses 287 = .ok (.irem, 1) := by decide +kernel
theorem dL_refuses_288 : decode cL_refuses 288 = .ok (.ifCond .ne 12, 3) := by decide +kernel
theorem dL_refuses_291 : decode cL_refuses 291 = .ok (.iconst (-1), 1) := by decide +kernel
theorem dL_refuses_292 : decode cL_refuses 292 = .ok (.iload_n 1, 1) := by decide +kernel
theorem dL_refuses_293 : decode cL_refuses 293 = .ok (.bipush 9, 2) := by decide +kernel
theorem dL_refuses_295 : decode cL_refuses 295 = .ok (.irem, 1) := by decide +kernel
theorem dL_refuses_296 : decode cL_refuses 296 = .ok (.isub, 1) := by decide +kernel
theorem dL_refuses_297 : decode cL_refuses 297 = .ok (.goto 9, 3) := by decide +kernel
theorem dL_refuses_300 : decode cL_refuses 300 = .ok (.iconst 2, 1) := by decide +kernel
theorem dL_refuses_301 : decode cL_refuses 301 = .ok (.iload_n 1, 1) := by decide +kernel
theorem dL_refuses_302 : decode cL_refuses 302 = .ok (.bipush 9, 2) := by decide +kernel
theorem dL_refuses_304 : decode cL_refuses 304 = .ok (.irem, 1) := by decide +kernel
theorem dL_refuses_305 : decode cL_refuses 305 = .ok (.iadd, 1) := by decide +kernel
theorem dL_refuses_306 : decode cL_refuses 306 = .ok (.iconst 0, 1) := by decide +kernel
theorem dL_refuses_307 : decode cL_refuses 307 = .ok (.iconst 0, 1) := by decide +kernel
theorem dL_refuses_308 : decode cL_refuses 308 = .ok (.invokestatic 144, 3) := by decide +kernel
theorem dL_refuses_311 : decode cL_refuses 311 = .ok (.ldc 29, 2) := by decide +kernel
theorem dL_refuses_313 : decode cL_refuses 313 = .ok (.if_icmp .ne 179, 3) := by decide +kernel
theorem dL_refuses_316 : decode cL_refuses 316 = .ok (.aload_n 0, 1) := by decide +kernel
theorem dL_refuses_317 : decode cL_refuses 317 = .ok (.bipush 11, 2) := by decide +kernel
theorem dL_refuses_319 : decode cL_refuses 319 = .ok (.iload 4, 2) := by decide +kernel
theorem dL_refuses_321 : decode cL_refuses 321 = .ok (.bipush 9, 2) := by decide +kernel
theorem dL_refuses_323 : decode cL_refuses 323 = .ok (.iconst 0, 1) := by decide +kernel
theorem dL_refuses_324 : decode cL_refuses 324 = .ok (.invokestatic 144, 3) := by decide +kernel
theorem dL_refuses_327 : decode cL_refuses 327 = .ok (.ldc 52, 2) := by decide +kernel
theorem dL_refuses_329 : decode cL_refuses 329 = .ok (.if_icmp .ne 163, 3) := by decide +kernel
theorem dL_refuses_332 : decode cL_refuses 332 = .ok (.aload_n 0, 1) := by decide +kernel
theorem dL_refuses_333 : decode cL_refuses 333 = .ok (.bipush 11, 2) := by decide +kernel
theorem dL_refuses_335 : decode cL_refuses 335 = .ok (.iload_n 1, 1) := by decide +kernel
theorem dL_refuses_336 : decode cL_refuses 336 = .ok (.iload_n 3, 1) := by decide +kernel
theorem dL_refuses_337 : decode cL_refuses 337 = .ok (.irem, 1) := by decide +kernel
theorem dL_refuses_338 : decode cL_refuses 338 = .ok (.iconst 4, 1) := by decide +kernel
theorem dL_refuses_339 : decode cL_refuses 339 = .ok (.iload_n 1, 1) := by decide +kernel
theorem dL_refuses_340 : decode cL_refuses 340 = .ok (.bipush 9, 2) := by decide +kernel
theorem dL_refuses_342 : decode cL_refuses 342 = .ok (.irem, 1) := by decide +kernel
theorem dL_refuses_343 : decode cL_refuses 343 = .ok (.iadd, 1) := by decide +kernel
theorem dL_refuses_344 : decode cL_refuses 344 = .ok (.iconst 0, 1) := by decide +kernel
theorem dL_refuses_345 : decode cL_refuses 345 = .ok (.invokestatic 144, 3) := by decide +kernel
theorem dL_refuses_348 : decode cL_refuses 348 = .ok (.ldc 29, 2) := by decide +kernel
theorem dL_refuses_350 : decode cL_refuses 350 = .ok (.if_icmp .ne 142, 3) := by decide +kernel
theorem dL_refuses_353 : decode cL_refuses 353 = .ok (.aload_n 0, 1) := by decide +kernel
theorem dL_refuses_354 : decode cL_refuses 354 = .ok (.bipush 12, 2) := by decide +kernel
theorem dL_refuses_356 : decode cL_refuses 356 = .ok (.iload 4, 2) := by decide +kernel
theorem dL_refuses_358 : decode cL_refuses 358 = .ok (.bipush 9, 2) := by decide +kernel
theorem dL_refuses_360 : decode cL_refuses 360 = .ok (.iconst 0, 1) := by decide +kernel
theorem dL_refuses_361 : decode cL_refuses 361 = .ok (.invokestatic 144, 3) := by decide +kernel
theorem dL_refuses_364 : decode cL_refuses 364 = .ok (.ldc 52, 2) := by decide +kernel
theorem dL_refuses_366 : decode cL_refuses 366 = .ok (.if_icmp .ne 126, 3) := by decide +kernel
theorem dL_refuses_369 : decode cL_refuses 369 = .ok (.aload_n 0, 1) := by decide +kernel
theorem dL_refuses_370 : decode cL_refuses 370 = .ok (.bipush 12, 2) := by decide +kernel
theorem dL_refuses_372 : decode cL_refuses 372 = .ok (.iload_n 1, 1) := by decide +kernel
theorem dL_refuses_373 : decode cL_refuses 373 = .ok (.iload_n 3, 1) := by decide +kernel
theorem dL_refuses_374 : decode cL_refuses 374 = .ok (.irem, 1) := by decide +kernel
theorem dL_refuses_375 : decode cL_refuses 375 = .ok (.iconst 2, 1) := by decide +kernel
theorem dL_refuses_376 : decode cL_refuses 376 = .ok (.iload_n 1, 1) := by decide +kernel
theorem dL_refuses_377 : decode cL_refuses 377 = .ok (.bipush 9, 2) := by decide +kernel
theorem dL_refuses_379 : decode cL_refuses 379 = .ok (.irem, 1) := by decide +kernel
theorem dL_refuses_380 : decode cL_refuses 380 = .ok (.iadd, 1) := by decide +kernel
theorem dL_refuses_381 : decode cL_refuses 381 = .ok (.iconst 0, 1) := by decide +kernel
theorem dL_refuses_382 : decode cL_refuses 382 = .ok (.invokestatic 144, 3) := by decide +kernel
theorem dL_refuses_385 : decode cL_refuses 385 = .ok (.ldc 29, 2) := by decide +kernel
theorem dL_refuses_387 : decode cL_refuses 387 = .ok (.if_icmp .ne 105, 3) := by decide +kernel
theorem dL_refuses_390 : decode cL_refuses 390 = .ok (.aload_n 0, 1) := by decide +kernel
theorem dL_refuses_391 : decode cL_refuses 391 = .ok (.bipush 13, 2) := by decide +kernel
theorem dL_refuses_393 : decode cL_refuses 393 = .ok (.iload 4, 2) := by decide +kernel
theorem dL_refuses_395 : decode cL_refuses 395 = .ok (.iconst 0, 1) := by decide +kernel
theorem dL_refuses_396 : decode cL_refuses 396 = .ok (.iconst 0, 1) := by decide +kernel
theorem dL_refuses_397 : decode cL_refuses 397 = .ok (.invokestatic 144, 3) := by decide +kernel
theorem dL_refuses_400 : decode cL_refuses 400 = .ok (.ldc 52, 2) := by decide +kernel
theorem dL_refuses_402 : decode cL_refuses 402 = .ok (.if_icmp .ne 90, 3) := by decide +kernel
theorem dL_refuses_405 : decode cL_refuses 405 = .ok (.aload_n 0, 1) := by decide +kernel
theorem dL_refuses_406 : decode cL_refuses 406 = .ok (.bipush 14, 2) := by decide +kernel
theorem dL_refuses_408 : decode cL_refuses 408 = .ok (.iconst 2, 1) := by decide +kernel
theorem dL_refuses_409 : decode cL_refuses 409 = .ok (.iload_n 1, 1) := by decide +kernel
theorem dL_refuses_410 : decode cL_refuses 410 = .ok (.bipush 50, 2) := by decide +kernel
theorem dL_refuses_412 : decode cL_refuses 412 = .ok (.irem, 1) := by decide +kernel
theorem dL_refuses_413 : decode cL_refuses 413 = .ok (.iadd, 1) := by decide +kernel
theorem dL_refuses_414 : decode cL_refuses 414 = .ok (.iconst 0, 1) := by decide +kernel
theorem dL_refuses_415 : decode cL_refuses 415 = .ok (.iconst 0, 1) := by decide +kernel
theorem dL_refuses_416 : decode cL_refuses 416 = .ok (.invokestatic 144, 3) := by decide +kernel
theorem dL_refuses_419 : decode cL_refuses 419 = .ok (.ldc 52, 2) := by decide +kernel
theorem dL_refuses_421 : decode cL_refuses 421 = .ok (.if_icmp .ne 71, 3) := by decide +kernel
theorem dL_refuses_424 : decode cL_refuses 424 = .ok (.aload_n 0, 1) := by decide +kernel
theorem dL_refuses_425 : decode cL_refuses 425 = .ok (.bipush 15, 2) := by decide +kernel
theorem dL_refuses_427 : decode cL_refuses 427 = .ok (.iconst (-1), 1) := by decide +kernel
theorem dL_refuses_428 : decode cL_refuses 428 = .ok (.iload_n 1, 1) := by decide +kernel
theorem dL_refuses_429 : decode cL_refuses 429 = .ok (.bipush 9, 2) := by decide +kernel
theorem dL_refuses_431 : decode cL_refuses 431 = .ok (.irem, 1) := by decide +kernel
theorem dL_refuses_432 : decode cL_refuses 432 = .ok (.isub, 1) := by decide +kernel
theorem dL_refuses_433 : decode cL_refuses 433 = .ok (.iconst 0, 1) := by decide +kernel
theorem dL_refuses_434 : decode cL_refuses 434 = .ok (.iconst 0, 1) := by decide +kernel
theorem dL_refuses_435 : decode cL_refuses 435 = .ok (.invokestatic 144, 3) := by decide +kernel
theorem dL_refuses_438 : decode cL_refuses 438 = .ok (.ldc 52, 2) := by decide +kernel
theorem dL_refuses_440 : decode cL_refuses 440 = .ok (.if_icmp .ne 52, 3) := by decide +kernel
theorem dL_refuses_443 : decode cL_refuses 443 = .ok (.aload_n 0, 1) := by decide +kernel
theorem dL_refuses_444 : decode cL_refuses 444 = .ok (.iconst 0, 1) := by decide +kernel
theorem dL_refuses_445 : decode cL_refuses 445 = .ok (.lconst 0, 1) := by decide +kernel
theorem dL_refuses_446 : decode cL_refuses 446 = .ok (.invokestatic 156, 3) := by decide +kernel
theorem dL_refuses_449 : decode cL_refuses 449 = .ok (.ldc 29, 2) := by decide +kernel
theorem dL_refuses_451 : decode cL_refuses 451 = .ok (.if_icmp .ne 41, 3) := by decide +kernel
theorem dL_refuses_454 : decode cL_refuses 454 = .ok (.aload_n 0, 1) := by decide +kernel
theorem dL_refuses_455 : decode cL_refuses 455 = .ok (.iconst 1, 1) := by decide +kernel
theorem dL_refuses_456 : decode cL_refuses 456 = .ok (.ldc2_w 160, 3) := by decide +kernel
theorem dL_refuses_459 : decode cL_refuses 459 = .ok (.iload_n 1, 1) := by decide +kernel
theorem dL_refuses_460 : decode cL_refuses 460 = .ok (.i2l, 1) := by decide +kernel
theorem dL_refuses_461 : decode cL_refuses 461 = .ok (.ladd, 1) := by decide +kernel
theorem dL_refuses_462 : decode cL_refuses 462 = .ok (.invokestatic 156, 3) := by decide +kernel
theorem dL_refuses_465 : decode cL_refuses 465 = .ok (.ldc 29, 2) := by decide +kernel
theorem dL_refuses_467 : decode cL_refuses 467 = .ok (.if_icmp .ne 25, 3) := by decide +kernel
theorem dL_refuses_470 : decode cL_refuses 470 = .ok (.aload_n 0, 1) := by decide +kernel
theorem dL_refuses_471 : decode cL_refuses 471 = .ok (.iload_n 1, 1) := by decide +kernel
theorem dL_refuses_472 : decode cL_refuses 472 = .ok (.i2l, 1) := by decide +kernel
theorem dL_refuses_473 : decode cL_refuses 473 = .ok (.bipush 101, 2) := by decide +kernel
theorem dL_refuses_475 : decode cL_refuses 475 = .ok (.iload_n 1, 1) := by decide +kernel
theorem dL_refuses_476 : decode cL_refuses 476 = .ok (.bipush 9, 2) := by decide +kernel
theorem dL_refuses_478 : decode cL_refuses 478 = .ok (.irem, 1) := by decide +kernel
theorem dL_refuses_479 : decode cL_refuses 479 = .ok (.iadd, 1) := by decide +kernel
theorem dL_refuses_480 : decode cL_refuses 480 = .ok (.invokestatic 162, 3) := by decide +kernel
theorem dL_refuses_483 : decode cL_refuses 483 = .ok (.ldc 29, 2) := by decide +kernel
theorem dL_refuses_485 : decode cL_refuses 485 = .ok (.if_icmp .ne 7, 3) := by decide +kernel
theorem dL_refuses_488 : decode cL_refuses 488 = .ok (.iconst 1, 1) := by decide +kernel
theorem dL_refuses_489 : decode cL_refuses 489 = .ok (.goto 4, 3) := by decide +kernel
theorem dL_refuses_492 : decode cL_refuses 492 = .ok (.iconst 0, 1) := by decide +kernel
theorem dL_refuses_493 : decode cL_refuses 493 = .ok (.ireturn, 1) := by decide +kernel
theorem dL_count_0 : decode cL_count 0 = .ok (.iconst 0, 1) := by decide +kernel
theorem dL_count_1 : decode cL_count 1 = .ok (.istore_n 2, 1) := by decide +kernel
theorem dL_count_2 : decode cL_count 2 = .ok (.lload_n 0, 1) := by decide +kernel
theorem dL_count_3 : decode cL_count 3 = .ok (.lstore_n 3, 1) := by decide +kernel
theorem dL_count_4 : decode cL_count 4 = .ok (.lload_n 3, 1) := by decide +kernel
theorem dL_count_5 : decode cL_count 5 = .ok (.lconst 0, 1) := by decide +kernel
theorem dL_count_6 : decode cL_count 6 = .ok (.lcmp, 1) := by decide +kernel
theorem dL_count_7 : decode cL_count 7 = .ok (.ifCond .eq 15, 3) := by decide +kernel
theorem dL_count_10 : decode cL_count 10 = .ok (.iinc 2 1, 3) := by decide +kernel
theorem dL_count_13 : decode cL_count 13 = .ok (.lload_n 3, 1) := by decide +kernel
theorem dL_count_14 : decode cL_count 14 = .ok (.lload_n 3, 1) := by decide +kernel
theorem dL_count_15 : decode cL_count 15 = .ok (.lconst 1, 1) := by decide +kernel
theorem dL_count_16 : decode cL_count 16 = .ok (.lsub, 1) := by decide +kernel
theorem dL_count_17 : decode cL_count 17 = .ok (.land, 1) := by decide +kernel
theorem dL_count_18 : decode cL_count 18 = .ok (.lstore_n 3, 1) := by decide +kernel
theorem dL_count_19 : decode cL_count 19 = .ok (.goto (-15), 3) := by decide +kernel
theorem dL_count_22 : decode cL_count 22 = .ok (.iload_n 2, 1) := by decide +kernel
theorem dL_count_23 : decode cL_count 23 = .ok (.ireturn, 1) := by decide +kernel
theorem dL_beside_0 : decode cL_beside 0 = .ok (.iload_n 1, 1) := by decide +kernel
theorem dL_beside_1 : decode cL_beside 1 = .ok (.iload_n 0, 1) := by decide +kernel
theorem dL_beside_2 : decode cL_beside 2 = .ok (.if_icmp .lt 11, 3) := by decide +kernel
theorem dL_beside_5 : decode cL_beside 5 = .ok (.lconst 1, 1) := by decide +kernel
theorem dL_beside_6 : decode cL_beside 6 = .ok (.iload_n 1, 1) := by decide +kernel
theorem dL_beside_7 : decode cL_beside 7 = .ok (.iload_n 0, 1) := by decide +kernel
theorem dL_beside_8 : decode cL_beside 8 = .ok (.isub, 1) := by decide +kernel
theorem dL_beside_9 : decode cL_beside 9 = .ok (.lshl, 1) := by decide +kernel
theorem dL_beside_10 : decode cL_beside 10 = .ok (.goto 4, 3) := by decide +kernel
theorem dL_beside_13 : decode cL_beside 13 = .ok (.lconst 0, 1) := by decide +kernel
theorem dL_beside_14 : decode cL_beside 14 = .ok (.iload_n 1, 1) := by decide +kernel
theorem dL_beside_15 : decode cL_beside 15 = .ok (.iload_n 0, 1) := by decide +kernel
theorem dL_beside_16 : decode cL_beside 16 = .ok (.iload_n 0, 1) := by decide +kernel
theorem dL_beside_17 : decode cL_beside 17 = .ok (.imul, 1) := by decide +kernel
theorem dL_beside_18 : decode cL_beside 18 = .ok (.iload_n 0, 1) := by decide +kernel
theorem dL_beside_19 : decode cL_beside 19 = .ok (.isub, 1) := by decide +kernel
theorem dL_beside_20 : decode cL_beside 20 = .ok (.if_icmp .ge 11, 3) := by decide +kernel
theorem dL_beside_23 : decode cL_beside 23 = .ok (.lconst 1, 1) := by decide +kernel
theorem dL_beside_24 : decode cL_beside 24 = .ok (.iload_n 1, 1) := by decide +kernel
theorem dL_beside_25 : decode cL_beside 25 = .ok (.iload_n 0, 1) := by decide +kernel
theorem dL_beside_26 : decode cL_beside 26 = .ok (.iadd, 1) := by decide +kernel
theorem dL_beside_27 : decode cL_beside 27 = .ok (.lshl, 1) := by decide +kernel
theorem dL_beside_28 : decode cL_beside 28 = .ok (.goto 4, 3) := by decide +kernel
theorem dL_beside_31 : decode cL_beside 31 = .ok (.lconst 0, 1) := by decide +kernel
theorem dL_beside_32 : decode cL_beside 32 = .ok (.lor, 1) := by decide +kernel
theorem dL_beside_33 : decode cL_beside 33 = .ok (.iload_n 1, 1) := by decide +kernel
theorem dL_beside_34 : decode cL_beside 34 = .ok (.iload_n 0, 1) := by decide +kernel
theorem dL_beside_35 : decode cL_beside 35 = .ok (.irem, 1) := by decide +kernel
theorem dL_beside_36 : decode cL_beside 36 = .ok (.ifCond .le 11, 3) := by decide +kernel
theorem dL_beside_39 : decode cL_beside 39 = .ok (.lconst 1, 1) := by decide +kernel
theorem dL_beside_40 : decode cL_beside 40 = .ok (.iload_n 1, 1) := by decide +kernel
theorem dL_beside_41 : decode cL_beside 41 = .ok (.iconst 1, 1) := by decide +kernel
theorem dL_beside_42 : decode cL_beside 42 = .ok (.isub, 1) := by decide +kernel
theorem dL_beside_43 : decode cL_beside 43 = .ok (.lshl, 1) := by decide +kernel
theorem dL_beside_44 : decode cL_beside 44 = .ok (.goto 4, 3) := by decide +kernel
theorem dL_beside_47 : decode cL_beside 47 = .ok (.lconst 0, 1) := by decide +kernel
theorem dL_beside_48 : decode cL_beside 48 = .ok (.lor, 1) := by decide +kernel
theorem dL_beside_49 : decode cL_beside 49 = .ok (.iload_n 1, 1) := by decide +kernel
theorem dL_beside_50 : decode cL_beside 50 = .ok (.iload_n 0, 1) := by decide +kernel
theorem dL_beside_51 : decode cL_beside 51 = .ok (.irem, 1) := by decide +kernel
theorem dL_beside_52 : decode cL_beside 52 = .ok (.iload_n 0, 1) := by decide +kernel
theorem dL_beside_53 : decode cL_beside 53 = .ok (.iconst 1, 1) := by decide +kernel
theorem dL_beside_54 : decode cL_beside 54 = .ok (.isub, 1) := by decide +kernel
theorem dL_beside_55 : decode cL_beside 55 = .ok (.if_icmp .ge 11, 3) := by decide +kernel
theorem dL_beside_58 : decode cL_beside 58 = .ok (.lconst 1, 1) := by decide +kernel
theorem dL_beside_59 : decode cL_beside 59 = .ok (.iload_n 1, 1) := by decide +kernel
theorem dL_beside_60 : decode cL_beside 60 = .ok (.iconst 1, 1) := by decide +kernel
theorem dL_beside_61 : decode cL_beside 61 = .ok (.iadd, 1) := by decide +kernel
theorem dL_beside_62 : decode cL_beside 62 = .ok (.lshl, 1) := by decide +kernel
theorem dL_beside_63 : decode cL_beside 63 = .ok (.goto 4, 3) := by decide +kernel
theorem dL_beside_66 : decode cL_beside 66 = .ok (.lconst 0, 1) := by decide +kernel
theorem dL_beside_67 : decode cL_beside 67 = .ok (.lor, 1) := by decide +kernel
theorem dL_beside_68 : decode cL_beside 68 = .ok (.lreturn, 1) := by decide +kernel
theorem dL_holds_0 : decode cL_holds 0 = .ok (.aload_n 0, 1) := by decide +kernel
theorem dL_holds_1 : decode cL_holds 1 = .ok (.iconst 2, 1) := by decide +kernel
theorem dL_holds_2 : decode cL_holds 2 = .ok (.iconst 0, 1) := by decide +kernel
theorem dL_holds_3 : decode cL_holds 3 = .ok (.iconst 0, 1) := by decide +kernel
theorem dL_holds_4 : decode cL_holds 4 = .ok (.iconst 0, 1) := by decide +kernel
theorem dL_holds_5 : decode cL_holds 5 = .ok (.invokestatic 144, 3) := by decide +kernel
theorem dL_holds_8 : decode cL_holds 8 = .ok (.istore_n 1, 1) := by decide +kernel
theorem dL_holds_9 : decode cL_holds 9 = .ok (.iload_n 1, 1) := by decide +kernel
theorem dL_holds_10 : decode cL_holds 10 = .ok (.iload_n 1, 1) := by decide +kernel
theorem dL_holds_11 : decode cL_holds 11 = .ok (.imul, 1) := by decide +kernel
theorem dL_holds_12 : decode cL_holds 12 = .ok (.istore_n 2, 1) := by decide +kernel
theorem dL_holds_13 : decode cL_holds 13 = .ok (.aload_n 0, 1) := by decide +kernel
theorem dL_holds_14 : decode cL_holds 14 = .ok (.iconst 0, 1) := by decide +kernel
theorem dL_holds_15 : decode cL_holds 15 = .ok (.invokestatic 148, 3) := by decide +kernel
theorem dL_holds_18 : decode cL_holds 18 = .ok (.lstore_n 3, 1) := by decide +kernel
theorem dL_holds_19 : decode cL_holds 19 = .ok (.aload_n 0, 1) := by decide +kernel
theorem dL_holds_20 : decode cL_holds 20 = .ok (.iconst 1, 1) := by decide +kernel
theorem dL_holds_21 : decode cL_holds 21 = .ok (.invokestatic 148, 3) := by decide +kernel
theorem dL_holds_24 : decode cL_holds 24 = .ok (.lstore 5, 2) := by decide +kernel
theorem dL_holds_26 : decode cL_holds 26 = .ok (.iconst 0, 1) := by decide +kernel
theorem dL_holds_27 : decode cL_holds 27 = .ok (.istore 7, 2) := by decide +kernel
theorem dL_holds_29 : decode cL_holds 29 = .ok (.iconst 0, 1) := by decide +kernel
theorem dL_holds_30 : decode cL_holds 30 = .ok (.istore 8, 2) := by decide +kernel
theorem dL_holds_32 : decode cL_holds 32 = .ok (.iconst 0, 1) := by decide +kernel
theorem dL_holds_33 : decode cL_holds 33 = .ok (.istore 9, 2) := by decide +kernel
theorem dL_holds_35 : decode cL_holds 35 = .ok (.iconst 0, 1) := by decide +kernel
theorem dL_holds_36 : decode cL_holds 36 = .ok (.istore 10, 2) := by decide +kernel
theorem dL_holds_38 : decode cL_holds 38 = .ok (.iconst 0, 1) := by decide +kernel
theorem dL_holds_39 : decode cL_holds 39 = .ok (.istore 11, 2) := by decide +kernel
theorem dL_holds_41 : decode cL_holds 41 = .ok (.iconst (-1), 1) := by decide +kernel
theorem dL_holds_42 : decode cL_holds 42 = .ok (.istore 12, 2) := by decide +kernel
theorem dL_holds_44 : decode cL_holds 44 = .ok (.iconst 0, 1) := by decide +kernel
theorem dL_holds_45 : decode cL_holds 45 = .ok (.istore 13, 2) := by decide +kernel
theorem dL_holds_47 : decode cL_holds 47 = .ok (.lload_n 3, 1) := by decide +kernel
theorem dL_holds_48 : decode cL_holds 48 = .ok (.invokestatic 166, 3) := by decide +kernel
theorem dL_holds_51 : decode cL_holds 51 = .ok (.lload 5, 2) := by decide +kernel
theorem dL_holds_53 : decode cL_holds 53 = .ok (.invokestatic 166, 3) := by decide +kernel
theorem dL_holds_56 : decode cL_holds 56 = .ok (.isub, 1) := by decide +kernel
theorem dL_holds_57 : decode cL_holds 57 = .ok (.istore 14, 2) := by decide +kernel
theorem dL_holds_59 : decode cL_holds 59 = .ok (.lload_n 3, 1) := by decide +kernel
theorem dL_holds_60 : decode cL_holds 60 = .ok (.lload 5, 2) := by decide +kernel
theorem dL_holds_62 : decode cL_holds 62 = .ok (.land, 1) := by decide +kernel
theorem dL_holds_63 : decode cL_holds 63 = .ok (.lconst 0, 1) := by decide +kernel
theorem dL_holds_64 : decode cL_holds 64 = .ok (.lcmp, 1) := by decide +kernel
theorem dL_holds_65 : decode cL_holds 65 = .ok (.ifCond .ne 18, 3) := by decide +kernel
theorem dL_holds_68 : decode cL_holds 68 = .ok (.lload_n 3, 1) := by decide +kernel
theorem dL_holds_69 : decode cL_holds 69 = .ok (.lload 5, 2) := by decide +kernel
theorem dL_holds_71 : decode cL_holds 71 = .ok (.lor, 1) := by decide +kernel
theorem dL_holds_72 : decode cL_holds 72 = .ok (.iload_n 2, 1) := by decide +kernel
theorem dL_holds_73 : decode cL_holds 73 = .ok (.lushr, 1) := by decide +kernel
theorem dL_holds_74 : decode cL_holds 74 = .ok (.lconst 0, 1) := by decide +kernel
theorem dL_holds_75 : decode cL_holds 75 = .ok (.lcmp, 1) := by decide +kernel
theorem dL_holds_76 : decode cL_holds 76 = .ok (.ifCond .ne 7, 3) := by decide +kernel
theorem dL_holds_79 : decode cL_holds 79 = .ok (.iconst 1, 1) := by decide +kernel
theorem dL_holds_80 : decode cL_holds 80 = .ok (.goto 4, 3) := by decide +kernel
theorem dL_holds_83 : decode cL_holds 83 = .ok (.iconst 0, 1) := by decide +kernel
theorem dL_holds_84 : decode cL_holds 84 = .ok (.istore 15, 2) := by decide +kernel
theorem dL_holds_86 : decode cL_holds 86 = .ok (.iconst 0, 1) := by decide +kernel
theorem dL_holds_87 : decode cL_holds 87 = .ok (.istore 16, 2) := by decide +kernel
theorem dL_holds_89 : decode cL_holds 89 = .ok (.iload 16, 2) := by decide +kernel
theorem dL_holds_91 : decode cL_holds 91 = .ok (.iload_n 2, 1) := by decide +kernel
theorem dL_holds_92 : decode cL_holds 92 = .ok (.if_icmp .ge 639, 3) := by decide +kernel
theorem dL_holds_95 : decode cL_holds 95 = .ok (.iload 15, 2) := by decide +kernel
theorem dL_holds_97 : decode cL_holds 97 = .ok (.ifCond .eq 634, 3) := by decide +kernel
