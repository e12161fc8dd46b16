set_option maxRecDepth 20000 in
theorem wl_wsL_doSimulate_r1 : ∀ w ∈ wsL_doSimulate_r1, w ∈ lw_tbl := by decide +kernel
set_option maxRecDepth 20000 in
theorem wl_wsL_doSimulate_r2 : ∀ w ∈ wsL_doSimulate_r2, w ∈ lw_tbl := by decide +kernel
set_option maxRecDepth 20000 in
theorem wl_wsL_doSimulate_r3 : ∀ w ∈ wsL_doSimulate_r3, w ∈ lw_tbl := by decide +kernel
set_option maxRecDepth 20000 in
theorem wl_wsL_doSimulate_r4 : ∀ w ∈ wsL_doSimulate_r4, w ∈ lw_tbl := by decide +kernel
set_option maxRecDepth 20000 in
theorem wl_wsL_doSimulate_r5 : ∀ w ∈ wsL_doSimulate_r5, w ∈ lw_tbl := by decide +kernel
set_option maxRecDepth 20000 in
theorem wl_x52 : ∀ w ∈ ((vx_atS RX7 54 "java/lang/IllegalArgumentException" ["java/lang/RuntimeException", "java/lang/Exception"]).filter goodWord : List Cond), w ∈ lw_tbl := by decide +kernel
theorem wl_x53 : (.codeWith yL_doSimulate cL_doSimulate 5 (some .int) [(0, 6, 7, 21)] : Cond) ∈ lw_tbl := List.mem_append_right _ (show _ ∈ tables_1 from (List.mem_append_right _ (List.mem_append_right _ (List.mem_append_left _ (List.mem_of_getElem? (i := 219) rfl)))))
theorem wl_wsL_doSimulate : ∀ w ∈ wsL_doSimulate, w ∈ lw_tbl := wl_cons wl_x53 (wl_app (wl_app (wl_app (wl_app (wl_app wl_wsL_doSimulate_r1 (wl_app wl_wsL_doSimulate_r2 (wl_app wl_wsL_doSimulate_r3 (wl_app wl_wsL_doSimulate_r4 wl_wsL_doSimulate_r5)))) wl_wsX70) wl_wsX00) wl_wsX20) wl_x52)
theorem wl_x54 : (.code yL_refuses cL_refuses 5 (some .boolean) : Cond) ∈ lw_tbl := List.mem_append_right _ (show _ ∈ tables_1 from (List.mem_append_left _ (List.mem_of_getElem? (i := 175) rfl)))
theorem wl_wsL_refuses : ∀ w ∈ wsL_refuses, w ∈ lw_tbl := wl_cons wl_x54 (wl_app (wl_app (wl_app (wl_app (wl_app wl_wuL_refuses wl_wsL_call) wl_wsL_has) wl_wsL_groups) wl_wsL_doScript) wl_wsL_doSimulate)
set_option maxRecDepth 20000 in
theorem wl_wuL_alike : ∀ w ∈ wuL_alike, w ∈ lw_tbl := by decide +kernel
theorem wl_x55 : (.code yL_alike cL_alike 5 (some .boolean) : Cond) ∈ lw_tbl := List.mem_append_right _ (show _ ∈ tables_1 from (List.mem_append_right _ (List.mem_append_right _ (List.mem_append_right _ (List.mem_of_getElem? (i := 14) rfl)))))
theorem wl_wsL_alike : ∀ w ∈ wsL_alike, w ∈ lw_tbl := wl_cons wl_x55 (wl_app (wl_app (wl_app wl_wuL_alike wl_wsL_doSimulate) wl_wsL_has) wl_wsL_call)
set_option maxRecDepth 20000 in
theorem wl_wuL_holds : ∀ w ∈ wuL_holds, w ∈ lw_tbl := by decide +kernel
theorem wl_x56 : (.code yL_count cL_count 5 (some .int) : Cond) ∈ lw_tbl := List.mem_append_right _ (show _ ∈ tables_1 from (List.mem_append_right _ (List.mem_append_right _ (List.mem_append_left _ (List.mem_of_getElem? (i := 232) rfl)))))
theorem wl_wsL_count : ∀ w ∈ wsL_count, w ∈ lw_tbl := wl_cons wl_x56 wl_nil
theorem wl_x57 : (.code yL_beside cL_beside 2 (some .long) : Cond) ∈ lw_tbl := List.mem_append_right _ (show _ ∈ tables_1 from (List.mem_append_right _ (List.mem_append_right _ (List.mem_append_left _ (List.mem_of_getElem? (i := 235) rfl)))))
theorem wl_wsL_beside : ∀ w ∈ wsL_beside, w ∈ lw_tbl := wl_cons wl_x57 wl_nil
set_option maxRecDepth 20000 in
theorem wl_wsX7_choices_r1 : ∀ w ∈ wsX7_choices_r1, w ∈ lw_tbl := by decide +kernel
set_option maxRecDepth 20000 in
theorem wl_wsX7_choices_r2 : ∀ w ∈ wsX7_choices_r2, w ∈ lw_tbl := by decide +kernel
set_option maxRecDepth 20000 in
theorem wl_wsX7_choices_r3 : ∀ w ∈ wsX7_choices_r3, w ∈ lw_tbl := by decide +kernel
theorem wl_x58 : (.code yX7_choices cX7_choices 3 (some .int) : Cond) ∈ lw_tbl := List.mem_append_right _ (show _ ∈ tables_1 from (List.mem_append_right _ (List.mem_append_right _ (List.mem_append_right _ (List.mem_of_getElem? (i := 0) rfl)))))
theorem wl_wsX7_choices : ∀ w ∈ wsX7_choices, w ∈ lw_tbl := wl_cons wl_x58 (wl_app (wl_app (wl_app (wl_app wl_wsX7_choices_r1 (wl_app wl_wsX7_choices_r2 wl_wsX7_choices_r3)) wl_wsX70) wl_wsX00) wl_wsX20)
set_option maxRecDepth 20000 in
theorem wl_wsX7_lead_r1 : ∀ w ∈ wsX7_lead_r1, w ∈ lw_tbl := by decide +kernel
set_option maxRecDepth 20000 in
theorem wl_wsX7_lead_r2 : ∀ w ∈ wsX7_lead_r2, w ∈ lw_tbl := by decide +kernel
theorem wl_x59 : (.code yX7_lead cX7_lead 1 (some .int) : Cond) ∈ lw_tbl := List.mem_append_right _ (show _ ∈ tables_1 from (List.mem_append_right _ (List.mem_append_right _ (List.mem_append_right _ (List.mem_of_getElem? (i := 8) rfl)))))
theorem wl_wsX7_lead : ∀ w ∈ wsX7_lead, w ∈ lw_tbl := wl_cons wl_x59 (wl_app (wl_app (wl_app (wl_app wl_wsX7_lead_r1 wl_wsX7_lead_r2) wl_wsX70) wl_wsX00) wl_wsX20)
theorem wl_x60 : (.code yL_holds cL_holds 30 (some .boolean) : Cond) ∈ lw_tbl := List.mem_append_right _ (show _ ∈ tables_1 from (List.mem_append_right _ (List.mem_append_right _ (List.mem_append_left _ (List.mem_of_getElem? (i := 229) rfl)))))
theorem wl_wsL_holds : ∀ w ∈ wsL_holds, w ∈ lw_tbl := wl_cons wl_x60 (wl_app (wl_app (wl_app (wl_app (wl_app (wl_app (wl_app (wl_app wl_wuL_holds wl_wsL_call) wl_wsL_has) wl_wsL_count) wl_wsL_groups) wl_wsL_beside) wl_wsX7_choices) wl_wsX7_bestTake) wl_wsX7_lead)
set_option maxRecDepth 20000 in
theorem wl_wuL_lays : ∀ w ∈ wuL_lays, w ∈ lw_tbl := by decide +kernel
set_option maxRecDepth 20000 in
theorem wl_x61 : ∀ w ∈ ([.constant RL 52 (-9999001), .constant RL 29 (-9999002), .constant RL 40 (-9999003)] : List Cond), w ∈ lw_tbl := by decide +kernel
theorem wl_x62 : (.code yL_thrown cL_thrown 1 (some .boolean) : Cond) ∈ lw_tbl := List.mem_append_right _ (show _ ∈ tables_1 from (List.mem_append_right _ (List.mem_append_right _ (List.mem_append_right _ (List.mem_of_getElem? (i := 20) rfl)))))
theorem wl_wsL_thrown : ∀ w ∈ wsL_thrown, w ∈ lw_tbl := wl_cons wl_x62 wl_x61
theorem wl_x63 : (.code yL_lays cL_lays 16 (some .boolean) : Cond) ∈ lw_tbl := List.mem_append_right _ (show _ ∈ tables_1 from (List.mem_append_right _ (List.mem_append_right _ (List.mem_append_right _ (List.mem_of_getElem? (i := 17) rfl)))))
theorem wl_wsL_lays : ∀ w ∈ wsL_lays, w ∈ lw_tbl := wl_cons wl_x63 (wl_app (wl_app (wl_app (wl_app wl_wuL_lays wl_wsL_call) wl_wsL_has) wl_wsL_count) wl_wsL_thrown)
set_option maxRecDepth 20000 in
theorem wl_wuL_chases : ∀ w ∈ wuL_chases, w ∈ lw_tbl := by decide +kernel
theorem wl_x64 : (.code yL_chases cL_chases 10 (some .boolean) : Cond) ∈ lw_tbl := List.mem_append_right _ (show _ ∈ tables_1 from (List.mem_append_right _ (List.mem_append_right _ (List.mem_append_right _ (List.mem_of_getElem? (i := 23) rfl)))))
theorem wl_wsL_chases : ∀ w ∈ wsL_chases, w ∈ lw_tbl := wl_cons wl_x64 (wl_app (wl_app (wl_app wl_wuL_chases wl_wsL_call) wl_wsL_groups) wl_wsL_thrown)
theorem wl_wsL_law : ∀ w ∈ wsL_law, w ∈ lw_tbl := (wl_app (wl_app (wl_app (wl_app (wl_app (wl_app (wl_app (wl_app wl_wuL_law wl_wsX7_init) wl_wsL_cell) wl_wsL_act) wl_wsL_refuses) wl_wsL_alike) wl_wsL_holds) wl_wsL_lays) wl_wsL_chases)
theorem inX0 : ∀ w ∈ wsX00, w ∈ lw_tbl := wl_wsX00
theorem inX1 : ∀ w ∈ wsX10, w ∈ lw_tbl := wl_wsX10
theorem inX2 : ∀ w ∈ wsX20, w ∈ lw_tbl := wl_wsX20
theorem inX4 : ∀ w ∈ wsX40, w ∈ lw_tbl := wl_wsX40
theorem inX6 : ∀ w ∈ wsX60, w ∈ lw_tbl := wl_wsX60
theorem inX7 : ∀ w ∈ wsX70, w ∈ lw_tbl := wl_wsX70
theorem inlX7 : ∀ w ∈ wsX70, w ∈ wsL_law := fun _ h => (List.mem_append_left _ (List.mem_append_left _ (List.mem_append_left _ (List.mem_append_left _ (List.mem_append_left _ (List.mem_append_left _ (List.mem_append_left _ (List.mem_append_right _ (List.mem_cons_of_mem _ (List.mem_append_left _ (List.mem_append_left _ (List.mem_append_left _ (List.mem_append_right _ h)))))))))))))
