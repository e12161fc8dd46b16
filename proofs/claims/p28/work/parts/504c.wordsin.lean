set_option maxRecDepth 20000 in
theorem wl_wsL_tryChase_r1 : ∀ w ∈ wsL_tryChase_r1, w ∈ lw_tbl := by decide +kernel
set_option maxRecDepth 20000 in
theorem wl_wsL_tryChase_r2 : ∀ w ∈ wsL_tryChase_r2, w ∈ lw_tbl := by decide +kernel
set_option maxRecDepth 20000 in
theorem wl_wsL_tryChase_r3 : ∀ w ∈ wsL_tryChase_r3, w ∈ lw_tbl := by decide +kernel
set_option maxRecDepth 20000 in
theorem wl_x34 : ∀ w ∈ ((vx_atS RX7 151 "java/lang/IndexOutOfBoundsException" ["java/lang/RuntimeException", "java/lang/Exception"]).filter goodWord : List Cond), w ∈ lw_tbl := by decide +kernel
theorem wl_x35 : (.codeWith yL_tryChase cL_tryChase 3 (some .int) [(0, 5, 6, 13)] : Cond) ∈ lw_tbl := List.mem_append_right _ (show _ ∈ tables_1 from (List.mem_append_right _ (List.mem_append_right _ (List.mem_append_left _ (List.mem_of_getElem? (i := 139) rfl)))))
theorem wl_wsL_tryChase : ∀ w ∈ wsL_tryChase, w ∈ lw_tbl := wl_cons wl_x35 (wl_app (wl_app (wl_app (wl_app (wl_app wl_wsL_tryChase_r1 (wl_app wl_wsL_tryChase_r2 wl_wsL_tryChase_r3)) wl_wsX70) wl_wsX00) wl_wsX20) wl_x34)
set_option maxRecDepth 20000 in
theorem wl_wsL_tryKeep_r1 : ∀ w ∈ wsL_tryKeep_r1, w ∈ lw_tbl := by decide +kernel
set_option maxRecDepth 20000 in
theorem wl_wsL_tryKeep_r2 : ∀ w ∈ wsL_tryKeep_r2, w ∈ lw_tbl := by decide +kernel
set_option maxRecDepth 20000 in
theorem wl_x36 : ∀ w ∈ ((vx_atS RX7 151 "java/lang/IndexOutOfBoundsException" ["java/lang/RuntimeException", "java/lang/Exception"]).filter goodWord : List Cond), w ∈ lw_tbl := by decide +kernel
theorem wl_x37 : (.codeWith yL_tryKeep cL_tryKeep 3 (some .int) [(0, 5, 6, 13)] : Cond) ∈ lw_tbl := List.mem_append_right _ (show _ ∈ tables_1 from (List.mem_append_right _ (List.mem_append_right _ (List.mem_append_left _ (List.mem_of_getElem? (i := 146) rfl)))))
theorem wl_wsL_tryKeep : ∀ w ∈ wsL_tryKeep, w ∈ lw_tbl := wl_cons wl_x37 (wl_app (wl_app (wl_app (wl_app (wl_app wl_wsL_tryKeep_r1 wl_wsL_tryKeep_r2) wl_wsX70) wl_wsX60) wl_wsX00) wl_x36)
set_option maxRecDepth 20000 in
theorem wl_wsL_tryBack_r1 : ∀ w ∈ wsL_tryBack_r1, w ∈ lw_tbl := by decide +kernel
set_option maxRecDepth 20000 in
theorem wl_wsL_tryBack_r2 : ∀ w ∈ wsL_tryBack_r2, w ∈ lw_tbl := by decide +kernel
set_option maxRecDepth 20000 in
theorem wl_x38 : ∀ w ∈ ((vx_atS RX7 151 "java/lang/IndexOutOfBoundsException" ["java/lang/RuntimeException", "java/lang/Exception"]).filter goodWord : List Cond), w ∈ lw_tbl := by decide +kernel
set_option maxRecDepth 20000 in
theorem wl_x39 : ∀ w ∈ ((vx_atS RX7 65 "java/lang/IllegalStateException" ["java/lang/RuntimeException", "java/lang/Exception"]).filter goodWord : List Cond), w ∈ lw_tbl := by decide +kernel
theorem wl_x40 : (.codeWith yL_tryBack cL_tryBack 3 (some .int) [(0, 5, 6, 13), (0, 5, 10, 38)] : Cond) ∈ lw_tbl := List.mem_append_right _ (show _ ∈ tables_1 from (List.mem_append_right _ (List.mem_append_right _ (List.mem_append_left _ (List.mem_of_getElem? (i := 155) rfl)))))
theorem wl_wsL_tryBack : ∀ w ∈ wsL_tryBack, w ∈ lw_tbl := wl_cons wl_x40 (wl_app (wl_app (wl_app (wl_app (wl_app (wl_app (wl_app wl_wsL_tryBack_r1 wl_wsL_tryBack_r2) wl_wsX70) wl_wsX60) wl_wsX00) wl_wsX40) wl_x38) wl_x39)
theorem wl_x41 : (.code yL_call cL_call 5 (some .int) : Cond) ∈ lw_tbl := List.mem_append_right _ (show _ ∈ tables_1 from (List.mem_append_left _ (List.mem_of_getElem? (i := 178) rfl)))
theorem wl_wsL_call : ∀ w ∈ wsL_call, w ∈ lw_tbl := wl_cons wl_x41 (wl_app (wl_app (wl_app (wl_app (wl_app (wl_app (wl_app (wl_app (wl_app (wl_app (wl_app (wl_app (wl_app (wl_app (wl_app wl_wuL_call wl_wsL_tryAppend) wl_wsL_tryAbout) wl_wsL_tryColour) wl_wsL_tryPoint) wl_wsL_tryWhy) wl_wsL_tryBoard) wl_wsL_tryPlay) wl_wsL_tryPass) wl_wsL_tryLay) wl_wsL_tryUndo) wl_wsL_tryIf) wl_wsL_tryLadder) wl_wsL_tryChase) wl_wsL_tryKeep) wl_wsL_tryBack)
set_option maxRecDepth 20000 in
theorem wl_wsX7_bestTake_r1 : ∀ w ∈ wsX7_bestTake_r1, w ∈ lw_tbl := by decide +kernel
set_option maxRecDepth 20000 in
theorem wl_wsX7_bestTake_r2 : ∀ w ∈ wsX7_bestTake_r2, w ∈ lw_tbl := by decide +kernel
set_option maxRecDepth 20000 in
theorem wl_wsX7_bestTake_r3 : ∀ w ∈ wsX7_bestTake_r3, w ∈ lw_tbl := by decide +kernel
theorem wl_x42 : (.code yX7_bestTake cX7_bestTake 5 (some .int) : Cond) ∈ lw_tbl := List.mem_append_right _ (show _ ∈ tables_1 from (List.mem_append_right _ (List.mem_append_right _ (List.mem_append_right _ (List.mem_of_getElem? (i := 4) rfl)))))
theorem wl_wsX7_bestTake : ∀ w ∈ wsX7_bestTake, w ∈ lw_tbl := wl_cons wl_x42 (wl_app (wl_app (wl_app (wl_app wl_wsX7_bestTake_r1 (wl_app wl_wsX7_bestTake_r2 wl_wsX7_bestTake_r3)) wl_wsX70) wl_wsX00) wl_wsX20)
theorem wl_x43 : (.code yL_act cL_act 5 (some .int) : Cond) ∈ lw_tbl := List.mem_append_right _ (show _ ∈ tables_1 from (List.mem_append_right _ (List.mem_append_right _ (List.mem_append_right _ (List.mem_of_getElem? (i := 11) rfl)))))
theorem wl_wsL_act : ∀ w ∈ wsL_act, w ∈ lw_tbl := wl_cons wl_x43 (wl_app (wl_app wl_wuL_act wl_wsL_call) wl_wsX7_bestTake)
set_option maxRecDepth 20000 in
theorem wl_wuL_refuses : ∀ w ∈ wuL_refuses, w ∈ lw_tbl := by decide +kernel
set_option maxRecDepth 20000 in
theorem wl_x44 : ∀ w ∈ ([.classLink RL 13 "java/lang/IndexOutOfBoundsException", .constantLong RL 15 (-9999001), .methodLink RL 7 yX7_stones, .instanceMethod yX7_stones, .selects RX7 yX7_stones yX7_stones, .initialized RX7, .code yX7_stones cX7_stones 2 (some .long), .classLink RX7 147 "java/lang/IndexOutOfBoundsException", .initialized "java/lang/IndexOutOfBoundsException", .fieldLink RX7 26 "CornerStones" "now" "LCornerStones$Game;", .methodLink RX7 144 yX7_isColour, .static yX7_isColour, .code yX7_isColour cX7_isColour 1 (some .boolean), .methodLink RX7 152 yX0_stonesOf, .instanceMethod yX0_stonesOf, .selects RX0 yX0_stonesOf yX0_stonesOf, .initialized RX0, .code yX0_stonesOf cX0_stonesOf 2 (some .long), .fieldLink RX0 37 "CornerStones$Game" "stones0" "J", .fieldLink RX0 41 "CornerStones$Game" "stones1" "J"] : List Cond), w ∈ lw_tbl := by decide +kernel
set_option maxRecDepth 20000 in
theorem wl_x45 : ∀ w ∈ ((vx_atS RX7 151 "java/lang/IndexOutOfBoundsException" ["java/lang/RuntimeException", "java/lang/Exception"]).filter goodWord : List Cond), w ∈ lw_tbl := by decide +kernel
theorem wl_x46 : (.codeWith yL_has cL_has 3 (some .long) [(0, 5, 6, 13)] : Cond) ∈ lw_tbl := List.mem_append_right _ (show _ ∈ tables_1 from (List.mem_append_right _ (List.mem_append_right _ (List.mem_append_left _ (List.mem_of_getElem? (i := 163) rfl)))))
theorem wl_wsL_has : ∀ w ∈ wsL_has, w ∈ lw_tbl := wl_cons wl_x46 (wl_app (wl_app (wl_app wl_x44 wl_wsX70) wl_wsX00) wl_x45)
set_option maxRecDepth 20000 in
theorem wl_wsL_groups_r1 : ∀ w ∈ wsL_groups_r1, w ∈ lw_tbl := by decide +kernel
set_option maxRecDepth 20000 in
theorem wl_wsL_groups_r2 : ∀ w ∈ wsL_groups_r2, w ∈ lw_tbl := by decide +kernel
set_option maxRecDepth 20000 in
theorem wl_wsL_groups_r3 : ∀ w ∈ wsL_groups_r3, w ∈ lw_tbl := by decide +kernel
set_option maxRecDepth 20000 in
theorem wl_x47 : ∀ w ∈ ((vx_atS RX7 151 "java/lang/IndexOutOfBoundsException" ["java/lang/RuntimeException", "java/lang/Exception"]).filter goodWord : List Cond), w ∈ lw_tbl := by decide +kernel
set_option maxRecDepth 20000 in
theorem wl_x48 : ∀ w ∈ ((vx_atS RX7 54 "java/lang/IllegalArgumentException" ["java/lang/RuntimeException", "java/lang/Exception"]).filter goodWord : List Cond), w ∈ lw_tbl := by decide +kernel
theorem wl_x49 : (.codeWith yL_groups cL_groups 4 (some .long) [(0, 6, 7, 13), (0, 6, 12, 21)] : Cond) ∈ lw_tbl := List.mem_append_right _ (show _ ∈ tables_1 from (List.mem_append_right _ (List.mem_append_right _ (List.mem_append_left _ (List.mem_of_getElem? (i := 171) rfl)))))
theorem wl_wsL_groups : ∀ w ∈ wsL_groups, w ∈ lw_tbl := wl_cons wl_x49 (wl_app (wl_app (wl_app (wl_app (wl_app (wl_app wl_wsL_groups_r1 (wl_app wl_wsL_groups_r2 wl_wsL_groups_r3)) wl_wsX70) wl_wsX00) wl_wsX20) wl_x47) wl_x48)
set_option maxRecDepth 20000 in
theorem wl_wsL_doScript_r1 : ∀ w ∈ wsL_doScript_r1, w ∈ lw_tbl := by decide +kernel
set_option maxRecDepth 20000 in
theorem wl_wsL_doScript_r2 : ∀ w ∈ wsL_doScript_r2, w ∈ lw_tbl := by decide +kernel
set_option maxRecDepth 20000 in
theorem wl_wsL_doScript_r3 : ∀ w ∈ wsL_doScript_r3, w ∈ lw_tbl := by decide +kernel
set_option maxRecDepth 20000 in
theorem wl_wsL_doScript_r4 : ∀ w ∈ wsL_doScript_r4, w ∈ lw_tbl := by decide +kernel
set_option maxRecDepth 20000 in
theorem wl_wsL_doScript_r5 : ∀ w ∈ wsL_doScript_r5, w ∈ lw_tbl := by decide +kernel
set_option maxRecDepth 20000 in
theorem wl_wsL_doScript_r6 : ∀ w ∈ wsL_doScript_r6, w ∈ lw_tbl := by decide +kernel
set_option maxRecDepth 20000 in
theorem wl_wsL_doScript_r7 : ∀ w ∈ wsL_doScript_r7, w ∈ lw_tbl := by decide +kernel
set_option maxRecDepth 20000 in
theorem wl_wsL_doScript_r8 : ∀ w ∈ wsL_doScript_r8, w ∈ lw_tbl := by decide +kernel
set_option maxRecDepth 20000 in
theorem wl_x50 : ∀ w ∈ ((vx_atS RX7 54 "java/lang/IllegalArgumentException" ["java/lang/RuntimeException", "java/lang/Exception"]).filter goodWord : List Cond), w ∈ lw_tbl := by decide +kernel
theorem wl_x51 : (.codeWith yL_doScript cL_doScript 5 (some .int) [(0, 6, 7, 21)] : Cond) ∈ lw_tbl := List.mem_append_right _ (show _ ∈ tables_1 from (List.mem_append_right _ (List.mem_append_right _ (List.mem_append_left _ (List.mem_of_getElem? (i := 179) rfl)))))
theorem wl_wsL_doScript : ∀ w ∈ wsL_doScript, w ∈ lw_tbl := wl_cons wl_x51 (wl_app (wl_app (wl_app (wl_app (wl_app wl_wsL_doScript_r1 (wl_app wl_wsL_doScript_r2 (wl_app wl_wsL_doScript_r3 (wl_app wl_wsL_doScript_r4 (wl_app wl_wsL_doScript_r5 (wl_app wl_wsL_doScript_r6 (wl_app wl_wsL_doScript_r7 wl_wsL_doScript_r8))))))) wl_wsX70) wl_wsX00) wl_wsX20) wl_x50)
