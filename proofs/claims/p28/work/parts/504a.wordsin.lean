/-! the law's words lie among the tables' -/
theorem wl_app {a b c : List Cond} (ha : ∀ w ∈ a, w ∈ c) (hb : ∀ w ∈ b, w ∈ c) : ∀ w ∈ a ++ b, w ∈ c := fun w h => (List.mem_append.mp h).elim (ha w) (hb w)
theorem wl_cons {x : Cond} {b c : List Cond} (ha : x ∈ c) (hb : ∀ w ∈ b, w ∈ c) : ∀ w ∈ x :: b, w ∈ c := List.forall_mem_cons.mpr ⟨ha, hb⟩
theorem wl_nil {c : List Cond} : ∀ w ∈ ([] : List Cond), w ∈ c := fun _ h => absurd h List.not_mem_nil
set_option maxRecDepth 20000 in
theorem wl_wuL_law : ∀ w ∈ wuL_law, w ∈ lw_tbl := by decide +kernel
set_option maxRecDepth 20000 in
theorem wl_wsX7_init_r1 : ∀ w ∈ wsX7_init_r1, w ∈ lw_tbl := by decide +kernel
set_option maxRecDepth 20000 in
theorem wl_wsX7_init_r2 : ∀ w ∈ wsX7_init_r2, w ∈ lw_tbl := by decide +kernel
set_option maxRecDepth 20000 in
theorem wl_wsX7_init_r3 : ∀ w ∈ wsX7_init_r3, w ∈ lw_tbl := by decide +kernel
set_option maxRecDepth 20000 in
theorem wl_wsX20 : ∀ w ∈ wsX20, w ∈ lw_tbl := by decide +kernel
set_option maxRecDepth 20000 in
theorem wl_wsX10 : ∀ w ∈ wsX10, w ∈ lw_tbl := by decide +kernel
set_option maxRecDepth 20000 in
theorem wl_wsX70 : ∀ w ∈ wsX70, w ∈ lw_tbl := by decide +kernel
set_option maxRecDepth 20000 in
theorem wl_wsX00 : ∀ w ∈ wsX00, w ∈ lw_tbl := by decide +kernel
set_option maxRecDepth 20000 in
theorem wl_wsX40 : ∀ w ∈ wsX40, w ∈ lw_tbl := by decide +kernel
set_option maxRecDepth 20000 in
theorem wl_wsX60 : ∀ w ∈ wsX60, w ∈ lw_tbl := by decide +kernel
theorem wl_x1 : (.code yX7_init cX7_init 2 none : Cond) ∈ lw_tbl := List.mem_append_right _ (show _ ∈ tables_1 from (List.mem_append_left _ (List.mem_of_getElem? (i := 21) rfl)))
theorem wl_wsX7_init : ∀ w ∈ wsX7_init, w ∈ lw_tbl := wl_cons wl_x1 (wl_app (wl_app (wl_app (wl_app (wl_app (wl_app (wl_app wl_wsX7_init_r1 (wl_app wl_wsX7_init_r2 wl_wsX7_init_r3)) wl_wsX20) wl_wsX10) wl_wsX70) wl_wsX00) wl_wsX40) wl_wsX60)
set_option maxRecDepth 20000 in
theorem wl_x2 : ∀ w ∈ ([.constant RL 142 (15519503), .constant RL 143 (2147483647)] : List Cond), w ∈ lw_tbl := by decide +kernel
theorem wl_x3 : (.code yL_cell cL_cell 2 (some .int) : Cond) ∈ lw_tbl := List.mem_append_right _ (show _ ∈ tables_1 from (List.mem_append_left _ (List.mem_of_getElem? (i := 170) rfl)))
theorem wl_wsL_cell : ∀ w ∈ wsL_cell, w ∈ lw_tbl := wl_cons wl_x3 wl_x2
set_option maxRecDepth 20000 in
theorem wl_wuL_act : ∀ w ∈ wuL_act, w ∈ lw_tbl := by decide +kernel
set_option maxRecDepth 20000 in
theorem wl_wuL_call : ∀ w ∈ wuL_call, w ∈ lw_tbl := by decide +kernel
set_option maxRecDepth 20000 in
theorem wl_wsL_tryAppend_r1 : ∀ w ∈ wsL_tryAppend_r1, w ∈ lw_tbl := by decide +kernel
set_option maxRecDepth 20000 in
theorem wl_wsL_tryAppend_r2 : ∀ w ∈ wsL_tryAppend_r2, w ∈ lw_tbl := by decide +kernel
set_option maxRecDepth 20000 in
theorem wl_x4 : ∀ w ∈ ((vx_atS RX7 54 "java/lang/IllegalArgumentException" ["java/lang/RuntimeException", "java/lang/Exception"]).filter goodWord : List Cond), w ∈ lw_tbl := by decide +kernel
set_option maxRecDepth 20000 in
theorem wl_x5 : ∀ w ∈ ((vx_atS RX7 65 "java/lang/IllegalStateException" ["java/lang/RuntimeException", "java/lang/Exception"]).filter goodWord : List Cond), w ∈ lw_tbl := by decide +kernel
theorem wl_x6 : (.codeWith yL_tryAppend cL_tryAppend 3 (some .int) [(0, 5, 6, 21), (0, 5, 10, 38)] : Cond) ∈ lw_tbl := List.mem_append_right _ (show _ ∈ tables_1 from (List.mem_append_left _ (List.mem_of_getElem? (i := 181) rfl)))
theorem wl_wsL_tryAppend : ∀ w ∈ wsL_tryAppend, w ∈ lw_tbl := wl_cons wl_x6 (wl_app (wl_app (wl_app (wl_app (wl_app wl_wsL_tryAppend_r1 wl_wsL_tryAppend_r2) wl_wsX70) wl_wsX10) wl_x4) wl_x5)
set_option maxRecDepth 20000 in
theorem wl_wsL_tryAbout_r1 : ∀ w ∈ wsL_tryAbout_r1, w ∈ lw_tbl := by decide +kernel
set_option maxRecDepth 20000 in
theorem wl_wsL_tryAbout_r2 : ∀ w ∈ wsL_tryAbout_r2, w ∈ lw_tbl := by decide +kernel
set_option maxRecDepth 20000 in
theorem wl_wsL_tryAbout_r3 : ∀ w ∈ wsL_tryAbout_r3, w ∈ lw_tbl := by decide +kernel
set_option maxRecDepth 20000 in
theorem wl_x7 : ∀ w ∈ ((vx_atS RX7 54 "java/lang/IllegalArgumentException" ["java/lang/RuntimeException", "java/lang/Exception"]).filter goodWord : List Cond), w ∈ lw_tbl := by decide +kernel
theorem wl_x8 : (.codeWith yL_tryAbout cL_tryAbout 3 (some .int) [(0, 5, 6, 21)] : Cond) ∈ lw_tbl := List.mem_append_right _ (show _ ∈ tables_1 from (List.mem_append_right _ (List.mem_append_left _ (List.mem_of_getElem? (i := 154) rfl))))
theorem wl_wsL_tryAbout : ∀ w ∈ wsL_tryAbout, w ∈ lw_tbl := wl_cons wl_x8 (wl_app (wl_app (wl_app (wl_app (wl_app wl_wsL_tryAbout_r1 (wl_app wl_wsL_tryAbout_r2 wl_wsL_tryAbout_r3)) wl_wsX70) wl_wsX00) wl_wsX20) wl_x7)
set_option maxRecDepth 20000 in
theorem wl_wsL_tryColour_r1 : ∀ w ∈ wsL_tryColour_r1, w ∈ lw_tbl := by decide +kernel
set_option maxRecDepth 20000 in
theorem wl_wsL_tryColour_r2 : ∀ w ∈ wsL_tryColour_r2, w ∈ lw_tbl := by decide +kernel
set_option maxRecDepth 20000 in
theorem wl_wsL_tryColour_r3 : ∀ w ∈ wsL_tryColour_r3, w ∈ lw_tbl := by decide +kernel
set_option maxRecDepth 20000 in
theorem wl_wsL_tryColour_r4 : ∀ w ∈ wsL_tryColour_r4, w ∈ lw_tbl := by decide +kernel
set_option maxRecDepth 20000 in
theorem wl_x9 : ∀ w ∈ ((vx_atS RX7 151 "java/lang/IndexOutOfBoundsException" ["java/lang/RuntimeException", "java/lang/Exception"]).filter goodWord : List Cond), w ∈ lw_tbl := by decide +kernel
set_option maxRecDepth 20000 in
theorem wl_x10 : ∀ w ∈ ((vx_atS RX7 54 "java/lang/IllegalArgumentException" ["java/lang/RuntimeException", "java/lang/Exception"]).filter goodWord : List Cond), w ∈ lw_tbl := by decide +kernel
theorem wl_x11 : (.codeWith yL_tryColour cL_tryColour 4 (some .int) [(0, 6, 7, 13), (0, 6, 11, 21)] : Cond) ∈ lw_tbl := List.mem_append_right _ (show _ ∈ tables_1 from (List.mem_append_right _ (List.mem_append_left _ (List.mem_of_getElem? (i := 181) rfl))))
theorem wl_wsL_tryColour : ∀ w ∈ wsL_tryColour, w ∈ lw_tbl := wl_cons wl_x11 (wl_app (wl_app (wl_app (wl_app (wl_app (wl_app wl_wsL_tryColour_r1 (wl_app wl_wsL_tryColour_r2 (wl_app wl_wsL_tryColour_r3 wl_wsL_tryColour_r4))) wl_wsX70) wl_wsX00) wl_wsX20) wl_x9) wl_x10)
set_option maxRecDepth 20000 in
theorem wl_wsL_tryPoint_r1 : ∀ w ∈ wsL_tryPoint_r1, w ∈ lw_tbl := by decide +kernel
set_option maxRecDepth 20000 in
theorem wl_wsL_tryPoint_r2 : ∀ w ∈ wsL_tryPoint_r2, w ∈ lw_tbl := by decide +kernel
set_option maxRecDepth 20000 in
theorem wl_wsL_tryPoint_r3 : ∀ w ∈ wsL_tryPoint_r3, w ∈ lw_tbl := by decide +kernel
set_option maxRecDepth 20000 in
theorem wl_wsL_tryPoint_r4 : ∀ w ∈ wsL_tryPoint_r4, w ∈ lw_tbl := by decide +kernel
set_option maxRecDepth 20000 in
theorem wl_wsL_tryPoint_r5 : ∀ w ∈ wsL_tryPoint_r5, w ∈ lw_tbl := by decide +kernel
set_option maxRecDepth 20000 in
theorem wl_x12 : ∀ w ∈ ((vx_atS RX7 151 "java/lang/IndexOutOfBoundsException" ["java/lang/RuntimeException", "java/lang/Exception"]).filter goodWord : List Cond), w ∈ lw_tbl := by decide +kernel
set_option maxRecDepth 20000 in
theorem wl_x13 : ∀ w ∈ ((vx_atS RX7 54 "java/lang/IllegalArgumentException" ["java/lang/RuntimeException", "java/lang/Exception"]).filter goodWord : List Cond), w ∈ lw_tbl := by decide +kernel
theorem wl_x14 : (.codeWith yL_tryPoint cL_tryPoint 4 (some .int) [(0, 6, 7, 13), (0, 6, 11, 21)] : Cond) ∈ lw_tbl := List.mem_append_right _ (show _ ∈ tables_1 from (List.mem_append_right _ (List.mem_append_right _ (List.mem_append_left _ (List.mem_of_getElem? (i := 4) rfl)))))
theorem wl_wsL_tryPoint : ∀ w ∈ wsL_tryPoint, w ∈ lw_tbl := wl_cons wl_x14 (wl_app (wl_app (wl_app (wl_app (wl_app (wl_app wl_wsL_tryPoint_r1 (wl_app wl_wsL_tryPoint_r2 (wl_app wl_wsL_tryPoint_r3 (wl_app wl_wsL_tryPoint_r4 wl_wsL_tryPoint_r5)))) wl_wsX70) wl_wsX00) wl_wsX20) wl_x12) wl_x13)
set_option maxRecDepth 20000 in
theorem wl_wsL_tryWhy_r1 : ∀ w ∈ wsL_tryWhy_r1, w ∈ lw_tbl := by decide +kernel
set_option maxRecDepth 20000 in
theorem wl_wsL_tryWhy_r2 : ∀ w ∈ wsL_tryWhy_r2, w ∈ lw_tbl := by decide +kernel
