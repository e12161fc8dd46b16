set_option maxRecDepth 20000 in
theorem wl_wsL_tryWhy_r3 : ∀ w ∈ wsL_tryWhy_r3, w ∈ lw_tbl := by decide +kernel
set_option maxRecDepth 20000 in
theorem wl_x15 : ∀ w ∈ ((vx_atS RX7 151 "java/lang/IndexOutOfBoundsException" ["java/lang/RuntimeException", "java/lang/Exception"]).filter goodWord : List Cond), w ∈ lw_tbl := by decide +kernel
theorem wl_x16 : (.codeWith yL_tryWhy cL_tryWhy 3 (some .int) [(0, 5, 6, 13)] : Cond) ∈ lw_tbl := List.mem_append_right _ (show _ ∈ tables_1 from (List.mem_append_right _ (List.mem_append_right _ (List.mem_append_left _ (List.mem_of_getElem? (i := 42) rfl)))))
theorem wl_wsL_tryWhy : ∀ w ∈ wsL_tryWhy, w ∈ lw_tbl := wl_cons wl_x16 (wl_app (wl_app (wl_app (wl_app (wl_app wl_wsL_tryWhy_r1 (wl_app wl_wsL_tryWhy_r2 wl_wsL_tryWhy_r3)) wl_wsX70) wl_wsX00) wl_wsX20) wl_x15)
set_option maxRecDepth 20000 in
theorem wl_wsL_tryBoard_r1 : ∀ w ∈ wsL_tryBoard_r1, w ∈ lw_tbl := by decide +kernel
set_option maxRecDepth 20000 in
theorem wl_wsL_tryBoard_r2 : ∀ w ∈ wsL_tryBoard_r2, w ∈ lw_tbl := by decide +kernel
set_option maxRecDepth 20000 in
theorem wl_wsL_tryBoard_r3 : ∀ w ∈ wsL_tryBoard_r3, w ∈ lw_tbl := by decide +kernel
set_option maxRecDepth 20000 in
theorem wl_x17 : ∀ w ∈ ((vx_atS RX7 54 "java/lang/IllegalArgumentException" ["java/lang/RuntimeException", "java/lang/Exception"]).filter goodWord : List Cond), w ∈ lw_tbl := by decide +kernel
theorem wl_x18 : (.codeWith yL_tryBoard cL_tryBoard 3 (some .int) [(0, 5, 6, 21)] : Cond) ∈ lw_tbl := List.mem_append_right _ (show _ ∈ tables_1 from (List.mem_append_right _ (List.mem_append_right _ (List.mem_append_left _ (List.mem_of_getElem? (i := 50) rfl)))))
theorem wl_wsL_tryBoard : ∀ w ∈ wsL_tryBoard, w ∈ lw_tbl := wl_cons wl_x18 (wl_app (wl_app (wl_app (wl_app (wl_app (wl_app wl_wsL_tryBoard_r1 (wl_app wl_wsL_tryBoard_r2 wl_wsL_tryBoard_r3)) wl_wsX70) wl_wsX00) wl_wsX20) wl_wsX40) wl_x17)
set_option maxRecDepth 20000 in
theorem wl_wsL_tryPlay_r1 : ∀ w ∈ wsL_tryPlay_r1, w ∈ lw_tbl := by decide +kernel
set_option maxRecDepth 20000 in
theorem wl_wsL_tryPlay_r2 : ∀ w ∈ wsL_tryPlay_r2, w ∈ lw_tbl := by decide +kernel
set_option maxRecDepth 20000 in
theorem wl_wsL_tryPlay_r3 : ∀ w ∈ wsL_tryPlay_r3, w ∈ lw_tbl := by decide +kernel
set_option maxRecDepth 20000 in
theorem wl_wsL_tryPlay_r4 : ∀ w ∈ wsL_tryPlay_r4, w ∈ lw_tbl := by decide +kernel
set_option maxRecDepth 20000 in
theorem wl_wsL_tryPlay_r5 : ∀ w ∈ wsL_tryPlay_r5, w ∈ lw_tbl := by decide +kernel
set_option maxRecDepth 20000 in
theorem wl_x19 : ∀ w ∈ ((vx_atS RX7 151 "java/lang/IndexOutOfBoundsException" ["java/lang/RuntimeException", "java/lang/Exception"]).filter goodWord : List Cond), w ∈ lw_tbl := by decide +kernel
set_option maxRecDepth 20000 in
theorem wl_x20 : ∀ w ∈ ((vx_atS RX7 65 "java/lang/IllegalStateException" ["java/lang/RuntimeException", "java/lang/Exception"]).filter goodWord : List Cond), w ∈ lw_tbl := by decide +kernel
theorem wl_x21 : (.codeWith yL_tryPlay cL_tryPlay 3 (some .int) [(0, 5, 6, 13), (0, 5, 10, 38)] : Cond) ∈ lw_tbl := List.mem_append_right _ (show _ ∈ tables_1 from (List.mem_append_right _ (List.mem_append_right _ (List.mem_append_left _ (List.mem_of_getElem? (i := 70) rfl)))))
theorem wl_wsL_tryPlay : ∀ w ∈ wsL_tryPlay, w ∈ lw_tbl := wl_cons wl_x21 (wl_app (wl_app (wl_app (wl_app (wl_app (wl_app (wl_app wl_wsL_tryPlay_r1 (wl_app wl_wsL_tryPlay_r2 (wl_app wl_wsL_tryPlay_r3 (wl_app wl_wsL_tryPlay_r4 wl_wsL_tryPlay_r5)))) wl_wsX70) wl_wsX00) wl_wsX20) wl_wsX40) wl_x19) wl_x20)
set_option maxRecDepth 20000 in
theorem wl_wsL_tryPass_r1 : ∀ w ∈ wsL_tryPass_r1, w ∈ lw_tbl := by decide +kernel
set_option maxRecDepth 20000 in
theorem wl_wsL_tryPass_r2 : ∀ w ∈ wsL_tryPass_r2, w ∈ lw_tbl := by decide +kernel
set_option maxRecDepth 20000 in
theorem wl_x22 : ∀ w ∈ ((vx_atS RX7 65 "java/lang/IllegalStateException" ["java/lang/RuntimeException", "java/lang/Exception"]).filter goodWord : List Cond), w ∈ lw_tbl := by decide +kernel
theorem wl_x23 : (.codeWith yL_tryPass cL_tryPass 2 (some .int) [(0, 4, 5, 38)] : Cond) ∈ lw_tbl := List.mem_append_right _ (show _ ∈ tables_1 from (List.mem_append_right _ (List.mem_append_right _ (List.mem_append_left _ (List.mem_of_getElem? (i := 79) rfl)))))
theorem wl_wsL_tryPass : ∀ w ∈ wsL_tryPass, w ∈ lw_tbl := wl_cons wl_x23 (wl_app (wl_app (wl_app (wl_app (wl_app wl_wsL_tryPass_r1 wl_wsL_tryPass_r2) wl_wsX70) wl_wsX00) wl_wsX40) wl_x22)
set_option maxRecDepth 20000 in
theorem wl_wsL_tryLay_r1 : ∀ w ∈ wsL_tryLay_r1, w ∈ lw_tbl := by decide +kernel
set_option maxRecDepth 20000 in
theorem wl_wsL_tryLay_r2 : ∀ w ∈ wsL_tryLay_r2, w ∈ lw_tbl := by decide +kernel
set_option maxRecDepth 20000 in
theorem wl_x24 : ∀ w ∈ ((vx_atS RX7 54 "java/lang/IllegalArgumentException" ["java/lang/RuntimeException", "java/lang/Exception"]).filter goodWord : List Cond), w ∈ lw_tbl := by decide +kernel
theorem wl_x25 : (.codeWith yL_tryLay cL_tryLay 3 (some .int) [(0, 5, 6, 21)] : Cond) ∈ lw_tbl := List.mem_append_right _ (show _ ∈ tables_1 from (List.mem_append_right _ (List.mem_append_right _ (List.mem_append_left _ (List.mem_of_getElem? (i := 87) rfl)))))
theorem wl_wsL_tryLay : ∀ w ∈ wsL_tryLay, w ∈ lw_tbl := wl_cons wl_x25 (wl_app (wl_app (wl_app (wl_app (wl_app wl_wsL_tryLay_r1 wl_wsL_tryLay_r2) wl_wsX70) wl_wsX00) wl_wsX40) wl_x24)
set_option maxRecDepth 20000 in
theorem wl_wsL_tryUndo_r1 : ∀ w ∈ wsL_tryUndo_r1, w ∈ lw_tbl := by decide +kernel
set_option maxRecDepth 20000 in
theorem wl_wsL_tryUndo_r2 : ∀ w ∈ wsL_tryUndo_r2, w ∈ lw_tbl := by decide +kernel
set_option maxRecDepth 20000 in
theorem wl_x26 : ∀ w ∈ ((vx_atS RX7 65 "java/lang/IllegalStateException" ["java/lang/RuntimeException", "java/lang/Exception"]).filter goodWord : List Cond), w ∈ lw_tbl := by decide +kernel
theorem wl_x27 : (.codeWith yL_tryUndo cL_tryUndo 2 (some .int) [(0, 4, 5, 38)] : Cond) ∈ lw_tbl := List.mem_append_right _ (show _ ∈ tables_1 from (List.mem_append_right _ (List.mem_append_right _ (List.mem_append_left _ (List.mem_of_getElem? (i := 95) rfl)))))
theorem wl_wsL_tryUndo : ∀ w ∈ wsL_tryUndo, w ∈ lw_tbl := wl_cons wl_x27 (wl_app (wl_app (wl_app (wl_app (wl_app wl_wsL_tryUndo_r1 wl_wsL_tryUndo_r2) wl_wsX70) wl_wsX40) wl_wsX00) wl_x26)
set_option maxRecDepth 20000 in
theorem wl_wsL_tryIf_r1 : ∀ w ∈ wsL_tryIf_r1, w ∈ lw_tbl := by decide +kernel
set_option maxRecDepth 20000 in
theorem wl_wsL_tryIf_r2 : ∀ w ∈ wsL_tryIf_r2, w ∈ lw_tbl := by decide +kernel
set_option maxRecDepth 20000 in
theorem wl_wsL_tryIf_r3 : ∀ w ∈ wsL_tryIf_r3, w ∈ lw_tbl := by decide +kernel
set_option maxRecDepth 20000 in
theorem wl_wsL_tryIf_r4 : ∀ w ∈ wsL_tryIf_r4, w ∈ lw_tbl := by decide +kernel
set_option maxRecDepth 20000 in
theorem wl_x28 : ∀ w ∈ ((vx_atS RX7 151 "java/lang/IndexOutOfBoundsException" ["java/lang/RuntimeException", "java/lang/Exception"]).filter goodWord : List Cond), w ∈ lw_tbl := by decide +kernel
set_option maxRecDepth 20000 in
theorem wl_x29 : ∀ w ∈ ((vx_atS RX7 54 "java/lang/IllegalArgumentException" ["java/lang/RuntimeException", "java/lang/Exception"]).filter goodWord : List Cond), w ∈ lw_tbl := by decide +kernel
theorem wl_x30 : (.codeWith yL_tryIf cL_tryIf 4 (some .int) [(0, 6, 7, 13), (0, 6, 11, 21)] : Cond) ∈ lw_tbl := List.mem_append_right _ (show _ ∈ tables_1 from (List.mem_append_right _ (List.mem_append_right _ (List.mem_append_left _ (List.mem_of_getElem? (i := 107) rfl)))))
theorem wl_wsL_tryIf : ∀ w ∈ wsL_tryIf, w ∈ lw_tbl := wl_cons wl_x30 (wl_app (wl_app (wl_app (wl_app (wl_app (wl_app wl_wsL_tryIf_r1 (wl_app wl_wsL_tryIf_r2 (wl_app wl_wsL_tryIf_r3 wl_wsL_tryIf_r4))) wl_wsX70) wl_wsX00) wl_wsX20) wl_x28) wl_x29)
set_option maxRecDepth 20000 in
theorem wl_wsL_tryLadder_r1 : ∀ w ∈ wsL_tryLadder_r1, w ∈ lw_tbl := by decide +kernel
set_option maxRecDepth 20000 in
theorem wl_wsL_tryLadder_r2 : ∀ w ∈ wsL_tryLadder_r2, w ∈ lw_tbl := by decide +kernel
set_option maxRecDepth 20000 in
theorem wl_wsL_tryLadder_r3 : ∀ w ∈ wsL_tryLadder_r3, w ∈ lw_tbl := by decide +kernel
set_option maxRecDepth 20000 in
theorem wl_x31 : ∀ w ∈ ((vx_atS RX7 151 "java/lang/IndexOutOfBoundsException" ["java/lang/RuntimeException", "java/lang/Exception"]).filter goodWord : List Cond), w ∈ lw_tbl := by decide +kernel
set_option maxRecDepth 20000 in
theorem wl_x32 : ∀ w ∈ ((vx_atS RX7 54 "java/lang/IllegalArgumentException" ["java/lang/RuntimeException", "java/lang/Exception"]).filter goodWord : List Cond), w ∈ lw_tbl := by decide +kernel
theorem wl_x33 : (.codeWith yL_tryLadder cL_tryLadder 4 (some .int) [(0, 6, 7, 13), (0, 6, 11, 21)] : Cond) ∈ lw_tbl := List.mem_append_right _ (show _ ∈ tables_1 from (List.mem_append_right _ (List.mem_append_right _ (List.mem_append_left _ (List.mem_of_getElem? (i := 119) rfl)))))
theorem wl_wsL_tryLadder : ∀ w ∈ wsL_tryLadder, w ∈ lw_tbl := wl_cons wl_x33 (wl_app (wl_app (wl_app (wl_app (wl_app (wl_app wl_wsL_tryLadder_r1 (wl_app wl_wsL_tryLadder_r2 wl_wsL_tryLadder_r3)) wl_wsX70) wl_wsX00) wl_wsX20) wl_x31) wl_x32)
