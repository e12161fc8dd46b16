theorem all_app {a b : List Cond} (ha : a.all goodWord = true) (hb : b.all goodWord = true) : (a ++ b).all goodWord = true := by rw [List.all_append, ha, hb]; rfl
theorem all_cons {c : Cond} {a : List Cond} (hc : goodWord c = true) (ha : a.all goodWord = true) : (c :: a).all goodWord = true := by rw [List.all_cons, hc, ha]; rfl
set_option maxRecDepth 20000 in
theorem gw_wsL_tryAppend : wsL_tryAppend.all goodWord = true := by decide +kernel
set_option maxRecDepth 20000 in
theorem gw_wsL_tryAbout : wsL_tryAbout.all goodWord = true := by decide +kernel
set_option maxRecDepth 20000 in
theorem gw_wsL_tryColour : wsL_tryColour.all goodWord = true := by decide +kernel
set_option maxRecDepth 20000 in
theorem gw_wsL_tryPoint : wsL_tryPoint.all goodWord = true := by decide +kernel
set_option maxRecDepth 20000 in
theorem gw_wsL_tryWhy : wsL_tryWhy.all goodWord = true := by decide +kernel
set_option maxRecDepth 20000 in
theorem gw_wsL_tryBoard : wsL_tryBoard.all goodWord = true := by decide +kernel
set_option maxRecDepth 20000 in
theorem gw_wsL_tryPlay : wsL_tryPlay.all goodWord = true := by decide +kernel
set_option maxRecDepth 20000 in
theorem gw_wsL_tryPass : wsL_tryPass.all goodWord = true := by decide +kernel
set_option maxRecDepth 20000 in
theorem gw_wsL_tryLay : wsL_tryLay.all goodWord = true := by decide +kernel
set_option maxRecDepth 20000 in
theorem gw_wsL_tryUndo : wsL_tryUndo.all goodWord = true := by decide +kernel
set_option maxRecDepth 20000 in
theorem gw_wsL_tryIf : wsL_tryIf.all goodWord = true := by decide +kernel
set_option maxRecDepth 20000 in
theorem gw_wsL_tryLadder : wsL_tryLadder.all goodWord = true := by decide +kernel
set_option maxRecDepth 20000 in
theorem gw_wsL_tryChase : wsL_tryChase.all goodWord = true := by decide +kernel
set_option maxRecDepth 20000 in
theorem gw_wsL_tryKeep : wsL_tryKeep.all goodWord = true := by decide +kernel
set_option maxRecDepth 20000 in
theorem gw_wsL_tryBack : wsL_tryBack.all goodWord = true := by decide +kernel
set_option maxRecDepth 20000 in
theorem gw_wsL_has : wsL_has.all goodWord = true := by decide +kernel
set_option maxRecDepth 20000 in
theorem gw_wsL_groups : wsL_groups.all goodWord = true := by decide +kernel
set_option maxRecDepth 20000 in
theorem gw_wsL_doScript : wsL_doScript.all goodWord = true := by decide +kernel
set_option maxRecDepth 20000 in
theorem gw_wsL_doSimulate : wsL_doSimulate.all goodWord = true := by decide +kernel
set_option maxRecDepth 20000 in
theorem gw_wsX7_bestTake : wsX7_bestTake.all goodWord = true := by decide +kernel
set_option maxRecDepth 20000 in
theorem gw_wsL_count : wsL_count.all goodWord = true := by decide +kernel
set_option maxRecDepth 20000 in
theorem gw_wsL_beside : wsL_beside.all goodWord = true := by decide +kernel
set_option maxRecDepth 20000 in
theorem gw_wsX7_choices : wsX7_choices.all goodWord = true := by decide +kernel
set_option maxRecDepth 20000 in
theorem gw_wsX7_lead : wsX7_lead.all goodWord = true := by decide +kernel
set_option maxRecDepth 20000 in
theorem gw_wsL_thrown : wsL_thrown.all goodWord = true := by decide +kernel
set_option maxRecDepth 20000 in
theorem gw_wsX7_init : wsX7_init.all goodWord = true := by decide +kernel
set_option maxRecDepth 20000 in
theorem gw_wsL_cell : wsL_cell.all goodWord = true := by decide +kernel
set_option maxRecDepth 20000 in
theorem gw_wuL_call : wuL_call.all goodWord = true := by decide +kernel
theorem gw_wsL_call : wsL_call.all goodWord = true := all_cons rfl (all_app (all_app (all_app (all_app (all_app (all_app (all_app (all_app (all_app (all_app (all_app (all_app (all_app (all_app (all_app gw_wuL_call gw_wsL_tryAppend) gw_wsL_tryAbout) gw_wsL_tryColour) gw_wsL_tryPoint) gw_wsL_tryWhy) gw_wsL_tryBoard) gw_wsL_tryPlay) gw_wsL_tryPass) gw_wsL_tryLay) gw_wsL_tryUndo) gw_wsL_tryIf) gw_wsL_tryLadder) gw_wsL_tryChase) gw_wsL_tryKeep) gw_wsL_tryBack)
set_option maxRecDepth 20000 in
theorem gw_wuL_refuses : wuL_refuses.all goodWord = true := by decide +kernel
theorem gw_wsL_refuses : wsL_refuses.all goodWord = true := all_cons rfl (all_app (all_app (all_app (all_app (all_app gw_wuL_refuses gw_wsL_call) gw_wsL_has) gw_wsL_groups) gw_wsL_doScript) gw_wsL_doSimulate)
set_option maxRecDepth 20000 in
theorem gw_wuL_act : wuL_act.all goodWord = true := by decide +kernel
theorem gw_wsL_act : wsL_act.all goodWord = true := all_cons rfl (all_app (all_app gw_wuL_act gw_wsL_call) gw_wsX7_bestTake)
set_option maxRecDepth 20000 in
theorem gw_wuL_alike : wuL_alike.all goodWord = true := by decide +kernel
theorem gw_wsL_alike : wsL_alike.all goodWord = true := all_cons rfl (all_app (all_app (all_app gw_wuL_alike gw_wsL_doSimulate) gw_wsL_has) gw_wsL_call)
set_option maxRecDepth 20000 in
theorem gw_wuL_holds : wuL_holds.all goodWord = true := by decide +kernel
theorem gw_wsL_holds : wsL_holds.all goodWord = true := all_cons rfl (all_app (all_app (all_app (all_app (all_app (all_app (all_app (all_app gw_wuL_holds gw_wsL_call) gw_wsL_has) gw_wsL_count) gw_wsL_groups) gw_wsL_beside) gw_wsX7_choices) gw_wsX7_bestTake) gw_wsX7_lead)
set_option maxRecDepth 20000 in
theorem gw_wuL_lays : wuL_lays.all goodWord = true := by decide +kernel
theorem gw_wsL_lays : wsL_lays.all goodWord = true := all_cons rfl (all_app (all_app (all_app (all_app gw_wuL_lays gw_wsL_call) gw_wsL_has) gw_wsL_count) gw_wsL_thrown)
set_option maxRecDepth 20000 in
theorem gw_wuL_chases : wuL_chases.all goodWord = true := by decide +kernel
theorem gw_wsL_chases : wsL_chases.all goodWord = true := all_cons rfl (all_app (all_app (all_app gw_wuL_chases gw_wsL_call) gw_wsL_groups) gw_wsL_thrown)
theorem gL_call_L_tryAppend : GoodIn wsL_call (va_wsS RL 89 yL_tryAppend wsL_tryAppend) := goodIn_app (goodIn_of _ (by decide +kernel)) (goodIn_sub (fun _ h => List.mem_cons_of_mem _ (List.mem_append_left _ (List.mem_append_left _ (List.mem_append_left _ (List.mem_append_left _ (List.mem_append_left _ (List.mem_append_left _ (List.mem_append_left _ (List.mem_append_left _ (List.mem_append_left _ (List.mem_append_left _ (List.mem_append_left _ (List.mem_append_left _ (List.mem_append_left _ (List.mem_append_left _ (List.mem_append_right _ h)))))))))))))))) gw_wsL_tryAppend)
theorem gL_call_L_tryAbout : GoodIn wsL_call (va_wsS RL 99 yL_tryAbout wsL_tryAbout) := goodIn_app (goodIn_of _ (by decide +kernel)) (goodIn_sub (fun _ h => List.mem_cons_of_mem _ (List.mem_append_left _ (List.mem_append_left _ (List.mem_append_left _ (List.mem_append_left _ (List.mem_append_left _ (List.mem_append_left _ (List.mem_append_left _ (List.mem_append_left _ (List.mem_append_left _ (List.mem_append_left _ (List.mem_append_left _ (List.mem_append_left _ (List.mem_append_left _ (List.mem_append_right _ h))))))))))))))) gw_wsL_tryAbout)
theorem gL_call_L_tryColour : GoodIn wsL_call (va_wsS RL 102 yL_tryColour wsL_tryColour) := goodIn_app (goodIn_of _ (by decide +kernel)) (goodIn_sub (fun _ h => List.mem_cons_of_mem _ (List.mem_append_left _ (List.mem_append_left _ (List.mem_append_left _ (List.mem_append_left _ (List.mem_append_left _ (List.mem_append_left _ (List.mem_append_left _ (List.mem_append_left _ (List.mem_append_left _ (List.mem_append_left _ (List.mem_append_left _ (List.mem_append_left _ (List.mem_append_right _ h)))))))))))))) gw_wsL_tryColour)
theorem gL_call_L_tryPoint : GoodIn wsL_call (va_wsS RL 106 yL_tryPoint wsL_tryPoint) := goodIn_app (goodIn_of _ (by decide +kernel)) (goodIn_sub (fun _ h => List.mem_cons_of_mem _ (List.mem_append_left _ (List.mem_append_left _ (List.mem_append_left _ (List.mem_append_left _ (List.mem_append_left _ (List.mem_append_left _ (List.mem_append_left _ (List.mem_append_left _ (List.mem_append_left _ (List.mem_append_left _ (List.mem_append_left _ (List.mem_append_right _ h))))))))))))) gw_wsL_tryPoint)
theorem gL_call_L_tryWhy : GoodIn wsL_call (va_wsS RL 109 yL_tryWhy wsL_tryWhy) := goodIn_app (goodIn_of _ (by decide +kernel)) (goodIn_sub (fun _ h => List.mem_cons_of_mem _ (List.mem_append_left _ (List.mem_append_left _ (List.mem_append_left _ (List.mem_append_left _ (List.mem_append_left _ (List.mem_append_left _ (List.mem_append_left _ (List.mem_append_left _ (List.mem_append_left _ (List.mem_append_left _ (List.mem_append_right _ h)))))))))))) gw_wsL_tryWhy)
theorem gL_call_L_tryBoard : GoodIn wsL_call (va_wsS RL 112 yL_tryBoard wsL_tryBoard) := goodIn_app (goodIn_of _ (by decide +kernel)) (goodIn_sub (fun _ h => List.mem_cons_of_mem _ (List.mem_append_left _ (List.mem_append_left _ (List.mem_append_left _ (List.mem_append_left _ (List.mem_append_left _ (List.mem_append_left _ (List.mem_append_left _ (List.mem_append_left _ (List.mem_append_left _ (List.mem_append_right _ h))))))))))) gw_wsL_tryBoard)
theorem gL_call_L_tryPlay : GoodIn wsL_call (va_wsS RL 115 yL_tryPlay wsL_tryPlay) := goodIn_app (goodIn_of _ (by decide +kernel)) (goodIn_sub (fun _ h => List.mem_cons_of_mem _ (List.mem_append_left _ (List.mem_append_left _ (List.mem_append_left _ (List.mem_append_left _ (List.mem_append_left _ (List.mem_append_left _ (List.mem_append_left _ (List.mem_append_left _ (List.mem_append_right _ h)))))))))) gw_wsL_tryPlay)
theorem gL_call_L_tryPass : GoodIn wsL_call (va_wsS RL 118 yL_tryPass wsL_tryPass) := goodIn_app (goodIn_of _ (by decide +kernel)) (goodIn_sub (fun _ h => List.mem_cons_of_mem _ (List.mem_append_left _ (List.mem_append_left _ (List.mem_append_left _ (List.mem_append_left _ (List.mem_append_left _ (List.mem_append_left _ (List.mem_append_left _ (List.mem_append_right _ h))))))))) gw_wsL_tryPass)
theorem gL_call_L_tryLay : GoodIn wsL_call (va_wsS RL 121 yL_tryLay wsL_tryLay) := goodIn_app (goodIn_of _ (by decide +kernel)) (goodIn_sub (fun _ h => List.mem_cons_of_mem _ (List.mem_append_left _ (List.mem_append_left _ (List.mem_append_left _ (List.mem_append_left _ (List.mem_append_left _ (List.mem_append_left _ (List.mem_append_right _ h)))))))) gw_wsL_tryLay)
theorem gL_call_L_tryUndo : GoodIn wsL_call (va_wsS RL 124 yL_tryUndo wsL_tryUndo) := goodIn_app (goodIn_of _ (by decide +kernel)) (goodIn_sub (fun _ h => List.mem_cons_of_mem _ (List.mem_append_left _ (List.mem_append_left _ (List.mem_append_left _ (List.mem_append_left _ (List.mem_append_left _ (List.mem_append_right _ h))))))) gw_wsL_tryUndo)
theorem gL_call_L_tryIf : GoodIn wsL_call (va_wsS RL 127 yL_tryIf wsL_tryIf) := goodIn_app (goodIn_of _ (by decide +kernel)) (goodIn_sub (fun _ h => List.mem_cons_of_mem _ (List.mem_append_left _ (List.mem_append_left _ (List.mem_append_left _ (List.mem_append_left _ (List.mem_append_right _ h)))))) gw_wsL_tryIf)
theorem gL_call_L_tryLadder : GoodIn wsL_call (va_wsS RL 130 yL_tryLadder wsL_tryLadder) := goodIn_app (goodIn_of _ (by decide +kernel)) (goodIn_sub (fun _ h => List.mem_cons_of_mem _ (List.mem_append_left _ (List.mem_append_left _ (List.mem_append_left _ (List.mem_append_right _ h))))) gw_wsL_tryLadder)
theorem gL_call_L_tryChase : GoodIn wsL_call (va_wsS RL 133 yL_tryChase wsL_tryChase) := goodIn_app (goodIn_of _ (by decide +kernel)) (goodIn_sub (fun _ h => List.mem_cons_of_mem _ (List.mem_append_left _ (List.mem_append_left _ (List.mem_append_right _ h)))) gw_wsL_tryChase)
theorem gL_call_L_tryKeep : GoodIn wsL_call (va_wsS RL 136 yL_tryKeep wsL_tryKeep) := goodIn_app (goodIn_of _ (by decide +kernel)) (goodIn_sub (fun _ h => List.mem_cons_of_mem _ (List.mem_append_left _ (List.mem_append_right _ h))) gw_wsL_tryKeep)
theorem gL_call_L_tryBack : GoodIn wsL_call (va_wsS RL 139 yL_tryBack wsL_tryBack) := goodIn_app (goodIn_of _ (by decide +kernel)) (goodIn_sub (fun _ h => List.mem_cons_of_mem _ (List.mem_append_right _ h)) gw_wsL_tryBack)
theorem gL_refuses_L_call : GoodIn wsL_refuses (va_wsS RL 144 yL_call wsL_call) := goodIn_app (goodIn_of _ (by decide +kernel)) (goodIn_sub (fun _ h => List.mem_cons_of_mem _ (List.mem_append_left _ (List.mem_append_left _ (List.mem_append_left _ (List.mem_append_left _ (List.mem_append_right _ h)))))) gw_wsL_call)
theorem gL_refuses_L_has : GoodIn wsL_refuses (va_wsS RL 148 yL_has wsL_has) := goodIn_app (goodIn_of _ (by decide +kernel)) (goodIn_sub (fun _ h => List.mem_cons_of_mem _ (List.mem_append_left _ (List.mem_append_left _ (List.mem_append_left _ (List.mem_append_right _ h))))) gw_wsL_has)
theorem gL_refuses_L_groups : GoodIn wsL_refuses (va_wsS RL 152 yL_groups wsL_groups) := goodIn_app (goodIn_of _ (by decide +kernel)) (goodIn_sub (fun _ h => List.mem_cons_of_mem _ (List.mem_append_left _ (List.mem_append_left _ (List.mem_append_right _ h)))) gw_wsL_groups)
theorem gL_refuses_L_doScript : GoodIn wsL_refuses (va_wsS RL 156 yL_doScript wsL_doScript) := goodIn_app (goodIn_of _ (by decide +kernel)) (goodIn_sub (fun _ h => List.mem_cons_of_mem _ (List.mem_append_left _ (List.mem_append_right _ h))) gw_wsL_doScript)
theorem gL_refuses_L_doSimulate : GoodIn wsL_refuses (va_wsS RL 162 yL_doSimulate wsL_doSimulate) := goodIn_app (goodIn_of _ (by decide +kernel)) (goodIn_sub (fun _ h => List.mem_cons_of_mem _ (List.mem_append_right _ h)) gw_wsL_doSimulate)
theorem gL_act_L_call : GoodIn wsL_act (va_wsS RL 144 yL_call wsL_call) := goodIn_app (goodIn_of _ (by decide +kernel)) (goodIn_sub (fun _ h => List.mem_cons_of_mem _ (List.mem_append_left _ (List.mem_append_right _ h))) gw_wsL_call)
theorem gL_act_X7_bestTake : GoodIn wsL_act (wsV RL 178 RX7 yX7_bestTake wsX7_bestTake) := goodIn_app (goodIn_of _ (by decide +kernel)) (goodIn_sub (fun _ h => List.mem_cons_of_mem _ (List.mem_append_right _ h)) gw_wsX7_bestTake)
theorem gL_alike_L_doSimulate : GoodIn wsL_alike (va_wsS RL 162 yL_doSimulate wsL_doSimulate) := goodIn_app (goodIn_of _ (by decide +kernel)) (goodIn_sub (fun _ h => List.mem_cons_of_mem _ (List.mem_append_left _ (List.mem_append_left _ (List.mem_append_right _ h)))) gw_wsL_doSimulate)
theorem gL_alike_L_has : GoodIn wsL_alike (va_wsS RL 148 yL_has wsL_has) := goodIn_app (goodIn_of _ (by decide +kernel)) (goodIn_sub (fun _ h => List.mem_cons_of_mem _ (List.mem_append_left _ (List.mem_append_right _ h))) gw_wsL_has)
theorem gL_alike_L_call : GoodIn wsL_alike (va_wsS RL 144 yL_call wsL_call) := goodIn_app (goodIn_of _ (by decide +kernel)) (goodIn_sub (fun _ h => List.mem_cons_of_mem _ (List.mem_append_right _ h)) gw_wsL_call)
theorem gL_holds_L_call : GoodIn wsL_holds (va_wsS RL 144 yL_call wsL_call) := goodIn_app (goodIn_of _ (by decide +kernel)) (goodIn_sub (fun _ h => List.mem_cons_of_mem _ (List.mem_append_left _ (List.mem_append_left _ (List.mem_append_left _ (List.mem_append_left _ (List.mem_append_left _ (List.mem_append_left _ (List.mem_append_left _ (List.mem_append_right _ h))))))))) gw_wsL_call)
theorem gL_holds_L_has : GoodIn wsL_holds (va_wsS RL 148 yL_has wsL_has) := goodIn_app (goodIn_of _ (by decide +kernel)) (goodIn_sub (fun _ h => List.mem_cons_of_mem _ (List.mem_append_left _ (List.mem_append_left _ (List.mem_append_left _ (List.mem_append_left _ (List.mem_append_left _ (List.mem_append_left _ (List.mem_append_right _ h)))))))) gw_wsL_has)
theorem gL_holds_L_count : GoodIn wsL_holds (va_wsS RL 166 yL_count wsL_count) := goodIn_app (goodIn_of _ (by decide +kernel)) (goodIn_sub (fun _ h => List.mem_cons_of_mem _ (List.mem_append_left _ (List.mem_append_left _ (List.mem_append_left _ (List.mem_append_left _ (List.mem_append_left _ (List.mem_append_right _ h))))))) gw_wsL_count)
theorem gL_holds_L_groups : GoodIn wsL_holds (va_wsS RL 152 yL_groups wsL_groups) := goodIn_app (goodIn_of _ (by decide +kernel)) (goodIn_sub (fun _ h => List.mem_cons_of_mem _ (List.mem_append_left _ (List.mem_append_left _ (List.mem_append_left _ (List.mem_append_left _ (List.mem_append_right _ h)))))) gw_wsL_groups)
theorem gL_holds_L_beside : GoodIn wsL_holds (va_wsS RL 170 yL_beside wsL_beside) := goodIn_app (goodIn_of _ (by decide +kernel)) (goodIn_sub (fun _ h => List.mem_cons_of_mem _ (List.mem_append_left _ (List.mem_append_left _ (List.mem_append_left _ (List.mem_append_right _ h))))) gw_wsL_beside)
theorem gL_holds_X7_choices : GoodIn wsL_holds (wsV RL 175 RX7 yX7_choices wsX7_choices) := goodIn_app (goodIn_of _ (by decide +kernel)) (goodIn_sub (fun _ h => List.mem_cons_of_mem _ (List.mem_append_left _ (List.mem_append_left _ (List.mem_append_right _ h)))) gw_wsX7_choices)
theorem gL_holds_X7_bestTake : GoodIn wsL_holds (wsV RL 178 RX7 yX7_bestTake wsX7_bestTake) := goodIn_app (goodIn_of _ (by decide +kernel)) (goodIn_sub (fun _ h => List.mem_cons_of_mem _ (List.mem_append_left _ (List.mem_append_right _ h))) gw_wsX7_bestTake)
theorem gL_holds_X7_lead : GoodIn wsL_holds (wsV RL 181 RX7 yX7_lead wsX7_lead) := goodIn_app (goodIn_of _ (by decide +kernel)) (goodIn_sub (fun _ h => List.mem_cons_of_mem _ (List.mem_append_right _ h)) gw_wsX7_lead)
theorem gL_lays_L_call : GoodIn wsL_lays (va_wsS RL 144 yL_call wsL_call) := goodIn_app (goodIn_of _ (by decide +kernel)) (goodIn_sub (fun _ h => List.mem_cons_of_mem _ (List.mem_append_left _ (List.mem_append_left _ (List.mem_append_left _ (List.mem_append_right _ h))))) gw_wsL_call)
theorem gL_lays_L_has : GoodIn wsL_lays (va_wsS RL 148 yL_has wsL_has) := goodIn_app (goodIn_of _ (by decide +kernel)) (goodIn_sub (fun _ h => List.mem_cons_of_mem _ (List.mem_append_left _ (List.mem_append_left _ (List.mem_append_right _ h)))) gw_wsL_has)
theorem gL_lays_L_count : GoodIn wsL_lays (va_wsS RL 166 yL_count wsL_count) := goodIn_app (goodIn_of _ (by decide +kernel)) (goodIn_sub (fun _ h => List.mem_cons_of_mem _ (List.mem_append_left _ (List.mem_append_right _ h))) gw_wsL_count)
theorem gL_lays_L_thrown : GoodIn wsL_lays (va_wsS RL 211 yL_thrown wsL_thrown) := goodIn_app (goodIn_of _ (by decide +kernel)) (goodIn_sub (fun _ h => List.mem_cons_of_mem _ (List.mem_append_right _ h)) gw_wsL_thrown)
theorem gL_chases_L_call : GoodIn wsL_chases (va_wsS RL 144 yL_call wsL_call) := goodIn_app (goodIn_of _ (by decide +kernel)) (goodIn_sub (fun _ h => List.mem_cons_of_mem _ (List.mem_append_left _ (List.mem_append_left _ (List.mem_append_right _ h)))) gw_wsL_call)
theorem gL_chases_L_groups : GoodIn wsL_chases (va_wsS RL 152 yL_groups wsL_groups) := goodIn_app (goodIn_of _ (by decide +kernel)) (goodIn_sub (fun _ h => List.mem_cons_of_mem _ (List.mem_append_left _ (List.mem_append_right _ h))) gw_wsL_groups)
theorem gL_chases_L_thrown : GoodIn wsL_chases (va_wsS RL 211 yL_thrown wsL_thrown) := goodIn_app (goodIn_of _ (by decide +kernel)) (goodIn_sub (fun _ h => List.mem_cons_of_mem _ (List.mem_append_right _ h)) gw_wsL_thrown)
theorem gL_law_X7_init : GoodIn wsL_law wsX7_init := (goodIn_sub (fun _ h => (List.mem_append_left _ (List.mem_append_left _ (List.mem_append_left _ (List.mem_append_left _ (List.mem_append_left _ (List.mem_append_left _ (List.mem_append_left _ (List.mem_append_right _ h))))))))) gw_wsX7_init)
theorem gL_law_L_cell : GoodIn wsL_law (va_wsS RL 185 yL_cell wsL_cell) := goodIn_app (goodIn_of _ (by decide +kernel)) (goodIn_sub (fun _ h => (List.mem_append_left _ (List.mem_append_left _ (List.mem_append_left _ (List.mem_append_left _ (List.mem_append_left _ (List.mem_append_left _ (List.mem_append_right _ h)))))))) gw_wsL_cell)
theorem gL_law_L_act : GoodIn wsL_law (va_wsS RL 189 yL_act wsL_act) := goodIn_app (goodIn_of _ (by decide +kernel)) (goodIn_sub (fun _ h => (List.mem_append_left _ (List.mem_append_left _ (List.mem_append_left _ (List.mem_append_left _ (List.mem_append_left _ (List.mem_append_right _ h))))))) gw_wsL_act)
theorem gL_law_L_refuses : GoodIn wsL_law (va_wsS RL 193 yL_refuses wsL_refuses) := goodIn_app (goodIn_of _ (by decide +kernel)) (goodIn_sub (fun _ h => (List.mem_append_left _ (List.mem_append_left _ (List.mem_append_left _ (List.mem_append_left _ (List.mem_append_right _ h)))))) gw_wsL_refuses)
theorem gL_law_L_alike : GoodIn wsL_law (va_wsS RL 197 yL_alike wsL_alike) := goodIn_app (goodIn_of _ (by decide +kernel)) (goodIn_sub (fun _ h => (List.mem_append_left _ (List.mem_append_left _ (List.mem_append_left _ (List.mem_append_right _ h))))) gw_wsL_alike)
theorem gL_law_L_holds : GoodIn wsL_law (va_wsS RL 201 yL_holds wsL_holds) := goodIn_app (goodIn_of _ (by decide +kernel)) (goodIn_sub (fun _ h => (List.mem_append_left _ (List.mem_append_left _ (List.mem_append_right _ h)))) gw_wsL_holds)
theorem gL_law_L_lays : GoodIn wsL_law (va_wsS RL 205 yL_lays wsL_lays) := goodIn_app (goodIn_of _ (by decide +kernel)) (goodIn_sub (fun _ h => (List.mem_append_left _ (List.mem_append_right _ h))) gw_wsL_lays)
theorem gL_law_L_chases : GoodIn wsL_law (va_wsS RL 208 yL_chases wsL_chases) := goodIn_app (goodIn_of _ (by decide +kernel)) (goodIn_sub (fun _ h => (List.mem_append_right _ h)) gw_wsL_chases)
