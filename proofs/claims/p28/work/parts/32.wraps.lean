theorem OB.at0 {K : Nat → ClassId} {ad : Nat → Nat} {σ : mwm} {s : OSt} (h : OB K ad σ s) : σ (ad 0) = some (cl5 (ad 1) (ad 49) (ad 52) (ad 3) (ad 5) (ad 6)) := by
  obtain ⟨hi, gr, rg, hB, hG, hD, hr⟩ := h
  exact hB.1
theorem bnd_ex {α : Type} {β : Type} {x : α} {f : α → β} {v : β} (h : bnd x f = v) : ∃ y, y = x ∧ f y = v := ⟨x, rfl, h⟩
def shrL (x : Int64) (y : Int32) : Int64 := x >>> (y.toInt64 &&& 63)
section MYS
variable {p : Program} {l : Launch} {e : Env} {R : Room} {s : State} {m : MethodId} {args : Array Value} {below : List Frame} {meth : Method} {c : Code} {H : Heap} {locs : List Loc} {cells slots : Nat} {Q : State → Prop}
variable {cc : ByteArray} {pc : Nat} {ls : Array Slot} {rest st0 As : List Value} {z : Nat} {D : va_G} {K : Nat → ClassId} {σ : mwm} {b : Nat} {Ts : List Cond} {own : String} {nL : Nat}
variable {y : MethodName} {bytes : ByteArray} {maxL n index mc ms : Nat} {ret : Option FieldType} {ws ws' : List Cond} {rm : Room} {Qc : Array Value → State → Outcome → State → Prop} {free : Addr → Prop}
theorem my_runS (hC : CF p m c cc nL s args Ts own z D K) (hX : SX z s) (hM : MW z D σ H) (hS : va_S (zA z) s.heap H locs) (hc : Met l y ws rm (PCx z D K As σ) Qc mc ms free) (gg : GoodIn Ts (va_wsS own index y ws)) (hw : ws = Cond.code y bytes maxL ret :: ws') (hrc : rm.cells = mc) (hrs : rm.slots = ms)
    (hd : y.cls ≠ "java/lang/invoke/MethodHandle" ∧ y.cls ≠ "java/lang/invoke/VarHandle" ∧ (parseMethodDescriptor y.desc).map (fun d => d.parameters.length) = some n) (hR : rm.frames + 1 ≤ R.frames ∧ 8 + (maxL + 11) + rm.locals ≤ R.locals) (hn : As.length = n) (hst : st0 = As.reverse ++ rest) (hrest : (rest.map fun v => v.category).sum ≤ 8) (hls : ls.size = nL) (hdg : decode cc pc = .ok (.invokestatic index, 3)) (hf : cells + mc ≤ R.cells ∧ slots + ms ≤ R.slots) :
    va_Run p l e R s m args below meth c H locs cells slots mc ms (F0 m pc ls st0) rest (Qc As.toArray) free :=
  va_runS hC.1 hc (va_cwS n hC.1.2.2.2.2 gg hw hrc hrs hd hR) ⟨PCx_blind, PCx_of hC.2.1 hC.2.2 hX hM hS⟩ rfl hn hls hst (lv_room (rest := st0) (pc := pc) (ls := ls) hrest) hdg hf
end MYS
theorem q_L_has : yL_has.cls ≠ "java/lang/invoke/MethodHandle" ∧ yL_has.cls ≠ "java/lang/invoke/VarHandle" ∧ (parseMethodDescriptor yL_has.desc).map (fun d => d.parameters.length) = some 2 := by decide +kernel
theorem l_L_has_0 : Cond.classLink RL 13 "java/lang/IndexOutOfBoundsException" ∈ wsL_has := (List.mem_cons_of_mem _ (List.mem_append_left _ (List.mem_append_left _ (List.mem_append_left _ (List.mem_of_getElem? (i := 0) rfl)))))
theorem l_L_has_1 : Cond.constantLong RL 15 (-9999001) ∈ wsL_has := (List.mem_cons_of_mem _ (List.mem_append_left _ (List.mem_append_left _ (List.mem_append_left _ (List.mem_of_getElem? (i := 1) rfl)))))
def fL_has (s_p0 : OSt) (p1 : Int32) : Option (Int64) := (aStones s_p0 p1).bind fun r1 => rsum r1 (fun E3 => if E3 = "java/lang/IndexOutOfBoundsException" then (some ((-9999001) : Int64)) else (none)) (fun w5 => some w5)
set_option maxHeartbeats 8000000 in
set_option maxRecDepth 100000 in
theorem c_L_has {l : Launch} {z : Nat} {D : va_G} {K : Nat → ClassId} {σ : mwm} {ad_p0 : Nat → Nat} {s_p0 : OSt} {p1 : Int32} (hO_p0 : OB K ad_p0 σ s_p0) (hlt : l.stackTraces = false) {v : Int64} (h : fL_has s_p0 p1 = some v) : Met l yL_has wsL_has ({ frames := 7, cells := 1, slots := 6, locals := 120 } : Room) (PCx z D K [.ref (ad_p0 0), .int p1] σ) (qwL z D (fun r σ2 => r = v ∧ OB K ad_p0 σ2 s_p0 ∧ KEO ad_p0 σ σ2)) 1 6 (zA z) := by
  refine mh_enter (cc := cL_has) (maxL := 3) (ret := (some .long)) (own := RL) (lv := [(0, .ref (ad_p0 0)), (1, .int p1)]) (by decide) rfl rfl (Nat.le_of_ble_eq_true rfl) rfl ?_
  intro p e s m below meth c ls hC hx hb hown hts hK hr hlocks hnm hz hM hS hl hX hex
  unfold fL_has at h
  refine lv_aload_n hx hb dL_has_0 rfl (lv_at hl 0 rfl) ?_
  refine lv_iload_n hx hb dL_has_1 rfl (lv_at hl 1 rfl) ?_
  obtain ⟨r1, hr1, h⟩ := ob_some h
  refine mx_cl (mx_runV (As := [.int p1]) (rest := []) (ci := 5) (C := RX7) (T := TX7) (N := 6) hC hX hM hS (hO_p0.at0) rfl (o_X7_stones hO_p0 hlt hr1) gL_has_X7_stones rfl rfl rfl rfl q_X7_stones ⟨(Nat.le_of_ble_eq_true rfl), (Nat.le_of_ble_eq_true rfl)⟩ rfl rfl (Nat.le_of_ble_eq_true rfl) hl.1 dL_has_2 ⟨(Nat.le_of_ble_eq_true rfl), (Nat.le_of_ble_eq_true rfl)⟩) hS (fun E3 ce a_e4 H locs hvE hM hS hce hcv hcl => ?_) (fun r9 H locs σ1 hp2 hM hS => ?_)
  · subst hvE
    replace h := rsum_inl h
    by_cases c6 : E3 = "java/lang/IndexOutOfBoundsException"
    · replace h := it_pos c6 h
      subst c6
      refine vx_catch (name := "java/lang/IndexOutOfBoundsException") hown [] ⟨0, 5, 6, 13⟩ [] hex (fun _ h9 => by cases h9) (by decide) (by decide) (hts _ l_L_has_0) (va_Nw.use rfl (xc_O hX)) hce hcv hcl ?_
      refine W.eq (g2 := F0 m 6 ls [.ref a_e4]) rfl ?_
      refine lv_astore_n (lv' := [(2, .ref a_e4), (0, .ref (ad_p0 0)), (1, .int p1)]) hx hb dL_has_6 rfl hl (by decide) rfl (fun ls hl => ?_)
      refine lv_ldc2 (v := -9999001) hx hb hown (hts _ l_L_has_1) dL_has_7 ?_
      replace h := Option.some.inj h
      subst h
      exact W.lret hx hb hr (fun t ht hW => ⟨⟨_, _, rfl, ⟨rfl, hO_p0, (KEO.rf _ _)⟩, by show MW z D _ t.heap; rw [ht]; exact hM⟩, hS.F ht⟩) hS.2.2 dL_has_10 hlocks
    replace h := it_neg c6 h
    cases h
  · obtain ⟨w5, hw9, hr9, hO9, hk7⟩ := hp2
    replace hr9 := hr9.symm
    subst hr9
    subst hw9
    replace h := rsum_inr h
    replace hO_p0 := hO9
    refine W.eq (g2 := F0 m 5 ls [.long w5]) rfl ?_
    replace h := Option.some.inj h
    subst h
    exact W.lret hx hb hr (fun t ht hW => ⟨⟨_, _, rfl, ⟨rfl, hO_p0, hk7⟩, by show MW z D _ t.heap; rw [ht]; exact hM⟩, hS.F ht⟩) hS.2.2 dL_has_5 hlocks
theorem q_L_groups : yL_groups.cls ≠ "java/lang/invoke/MethodHandle" ∧ yL_groups.cls ≠ "java/lang/invoke/VarHandle" ∧ (parseMethodDescriptor yL_groups.desc).map (fun d => d.parameters.length) = some 3 := by decide +kernel
theorem l_L_groups_0 : Cond.classLink RL 13 "java/lang/IndexOutOfBoundsException" ∈ wsL_groups := (List.mem_cons_of_mem _ (List.mem_append_left _ (List.mem_append_left _ (List.mem_append_left _ (List.mem_append_left _ (List.mem_append_left _ (List.mem_append_left _ (List.mem_of_getElem? (i := 0) rfl))))))))
theorem l_L_groups_1 : Cond.classLink RL 21 "java/lang/IllegalArgumentException" ∈ wsL_groups := (List.mem_cons_of_mem _ (List.mem_append_left _ (List.mem_append_left _ (List.mem_append_left _ (List.mem_append_left _ (List.mem_append_left _ (List.mem_append_left _ (List.mem_of_getElem? (i := 1) rfl))))))))
theorem l_L_groups_2 : Cond.constantLong RL 15 (-9999001) ∈ wsL_groups := (List.mem_cons_of_mem _ (List.mem_append_left _ (List.mem_append_left _ (List.mem_append_left _ (List.mem_append_left _ (List.mem_append_left _ (List.mem_append_left _ (List.mem_of_getElem? (i := 2) rfl))))))))
theorem l_L_groups_3 : Cond.constantLong RL 23 (-9999002) ∈ wsL_groups := (List.mem_cons_of_mem _ (List.mem_append_left _ (List.mem_append_left _ (List.mem_append_left _ (List.mem_append_left _ (List.mem_append_left _ (List.mem_append_left _ (List.mem_of_getElem? (i := 3) rfl))))))))
def fL_groups (s_p0 : OSt) (p1 : Int32) (p2 : Int32) : Option (Int64) := (aGroup s_p0 p1 p2).bind fun r1 => rsum r1 (fun E3 => if E3 = "java/lang/IndexOutOfBoundsException" then (some ((-9999001) : Int64)) else (if E3 = "java/lang/IllegalArgumentException" then (some ((-9999002) : Int64)) else (none))) (fun w5 => some w5)
set_option maxHeartbeats 8000000 in
set_option maxRecDepth 100000 in
theorem c_L_groups {l : Launch} {z : Nat} {D : va_G} {K : Nat → ClassId} {σ : mwm} {ad_p0 : Nat → Nat} {s_p0 : OSt} {p1 : Int32} {p2 : Int32} (hO_p0 : OB K ad_p0 σ s_p0) (hlt : l.stackTraces = false) {v : Int64} (h : fL_groups s_p0 p1 p2 = some v) : Met l yL_groups wsL_groups ({ frames := 7, cells := 1, slots := 6, locals := 121 } : Room) (PCx z D K [.ref (ad_p0 0), .int p1, .int p2] σ) (qwL z D (fun r σ2 => r = v ∧ OB K ad_p0 σ2 s_p0 ∧ KEO ad_p0 σ σ2)) 1 6 (zA z) := by
  refine mh_enter (cc := cL_groups) (maxL := 4) (ret := (some .long)) (own := RL) (lv := [(0, .ref (ad_p0 0)), (1, .int p1), (2, .int p2)]) (by decide) rfl rfl (Nat.le_of_ble_eq_true rfl) rfl ?_
  intro p e s m below meth c ls hC hx hb hown hts hK hr hlocks hnm hz hM hS hl hX hex
  unfold fL_groups at h
  refine lv_aload_n hx hb dL_groups_0 rfl (lv_at hl 0 rfl) ?_
  refine lv_iload_n hx hb dL_groups_1 rfl (lv_at hl 1 rfl) ?_
  refine lv_iload_n hx hb dL_groups_2 rfl (lv_at hl 2 rfl) ?_
  obtain ⟨r1, hr1, h⟩ := ob_some h
  refine mx_cl (mx_runV (As := [.int p1, .int p2]) (rest := []) (ci := 5) (C := RX7) (T := TX7) (N := 6) hC hX hM hS (hO_p0.at0) rfl (o_X7_group hO_p0 hlt hr1) gL_groups_X7_group rfl rfl rfl rfl q_X7_group ⟨(Nat.le_of_ble_eq_true rfl), (Nat.le_of_ble_eq_true rfl)⟩ rfl rfl (Nat.le_of_ble_eq_true rfl) hl.1 dL_groups_3 ⟨(Nat.le_of_ble_eq_true rfl), (Nat.le_of_ble_eq_true rfl)⟩) hS (fun E3 ce a_e4 H locs hvE hM hS hce hcv hcl => ?_) (fun r9 H locs σ1 hp2 hM hS => ?_)
  · subst hvE
    replace h := rsum_inl h
    by_cases c6 : E3 = "java/lang/IndexOutOfBoundsException"
    · replace h := it_pos c6 h
      subst c6
      refine vx_catch (name := "java/lang/IndexOutOfBoundsException") hown [] ⟨0, 6, 7, 13⟩ [⟨0, 6, 12, 21⟩] hex (fun _ h9 => by cases h9) (by decide) (by decide) (hts _ l_L_groups_0) (va_Nw.use rfl (xc_O hX)) hce hcv hcl ?_
      refine W.eq (g2 := F0 m 7 ls [.ref a_e4]) rfl ?_
      refine lv_astore_n (lv' := [(3, .ref a_e4), (0, .ref (ad_p0 0)), (1, .int p1), (2, .int p2)]) hx hb dL_groups_7 rfl hl (by decide) rfl (fun ls hl => ?_)
      refine lv_ldc2 (v := -9999001) hx hb hown (hts _ l_L_groups_2) dL_groups_8 ?_
      replace h := Option.some.inj h
      subst h
      exact W.lret hx hb hr (fun t ht hW => ⟨⟨_, _, rfl, ⟨rfl, hO_p0, (KEO.rf _ _)⟩, by show MW z D _ t.heap; rw [ht]; exact hM⟩, hS.F ht⟩) hS.2.2 dL_groups_11 hlocks
    replace h := it_neg c6 h
    by_cases c7 : E3 = "java/lang/IllegalArgumentException"
    · replace h := it_pos c7 h
      subst c7
      refine vx_catch (name := "java/lang/IllegalArgumentException") hown [⟨0, 6, 7, 13⟩] ⟨0, 6, 12, 21⟩ [] hex (fun x9 h9 => by rw [List.mem_singleton.mp h9]; exact Or.inr ⟨(by decide), _, hts _ l_L_groups_0, hX.2.2.2.2.2.1⟩) (by decide) (by decide) (hts _ l_L_groups_1) (va_Nw.use rfl (xc_A hX)) hce hcv hcl ?_
      refine W.eq (g2 := F0 m 12 ls [.ref a_e4]) rfl ?_
      refine lv_astore_n (lv' := [(3, .ref a_e4), (0, .ref (ad_p0 0)), (1, .int p1), (2, .int p2)]) hx hb dL_groups_12 rfl hl (by decide) rfl (fun ls hl => ?_)
      refine lv_ldc2 (v := -9999002) hx hb hown (hts _ l_L_groups_3) dL_groups_13 ?_
      replace h := Option.some.inj h
      subst h
      exact W.lret hx hb hr (fun t ht hW => ⟨⟨_, _, rfl, ⟨rfl, hO_p0, (KEO.rf _ _)⟩, by show MW z D _ t.heap; rw [ht]; exact hM⟩, hS.F ht⟩) hS.2.2 dL_groups_16 hlocks
    replace h := it_neg c7 h
    cases h
  · obtain ⟨w5, hw9, hr9, hO9, hk8⟩ := hp2
    replace hr9 := hr9.symm
    subst hr9
    subst hw9
    replace h := rsum_inr h
    replace hO_p0 := hO9
    refine W.eq (g2 := F0 m 6 ls [.long w5]) rfl ?_
    replace h := Option.some.inj h
    subst h
    exact W.lret hx hb hr (fun t ht hW => ⟨⟨_, _, rfl, ⟨rfl, hO_p0, hk8⟩, by show MW z D _ t.heap; rw [ht]; exact hM⟩, hS.F ht⟩) hS.2.2 dL_groups_6 hlocks
theorem q_L_doScript : yL_doScript.cls ≠ "java/lang/invoke/MethodHandle" ∧ yL_doScript.cls ≠ "java/lang/invoke/VarHandle" ∧ (parseMethodDescriptor yL_doScript.desc).map (fun d => d.parameters.length) = some 3 := by decide +kernel
theorem l_L_doScript_0 : Cond.classLink RL 21 "java/lang/IllegalArgumentException" ∈ wsL_doScript := (List.mem_cons_of_mem _ (List.mem_append_left _ (List.mem_append_left _ (List.mem_append_left _ (List.mem_append_left _ (List.mem_append_left _ (List.mem_of_getElem? (i := 0) rfl)))))))
theorem l_L_doScript_1 : Cond.constant RL 29 (-9999002) ∈ wsL_doScript := (List.mem_cons_of_mem _ (List.mem_append_left _ (List.mem_append_left _ (List.mem_append_left _ (List.mem_append_left _ (List.mem_append_left _ (List.mem_of_getElem? (i := 1) rfl)))))))
def fL_doScript (s_p0 : OSt) (p1 : Int32) (p2 : Int64) : Option (Int32 × OSt) := (aRunScript s_p0 p1 p2).bind fun r1 => rsum r1 (fun E3 => if E3 = "java/lang/IllegalArgumentException" then (some (((-9999002) : Int32), s_p0)) else (none)) (fun w5 => some (w5.1, w5.2))
set_option maxHeartbeats 8000000 in
set_option maxRecDepth 100000 in
theorem c_L_doScript {l : Launch} {z : Nat} {D : va_G} {K : Nat → ClassId} {σ : mwm} {ad_p0 : Nat → Nat} {s_p0 : OSt} {p1 : Int32} {p2 : Int64} (hO_p0 : OB K ad_p0 σ s_p0) (hlt : l.stackTraces = false) {v : Int32 × OSt} (h : fL_doScript s_p0 p1 p2 = some v) : Met l yL_doScript wsL_doScript ({ frames := 74, cells := 1, slots := 6, locals := 3107 } : Room) (PCx z D K [.ref (ad_p0 0), .int p1, .long p2] σ) (qwI z D (fun r σ2 => r = v.1 ∧ OB K ad_p0 σ2 v.2 ∧ KEO ad_p0 σ σ2)) 1 6 (zA z) := by
  refine mh_enter (cc := cL_doScript) (maxL := 5) (ret := (some .int)) (own := RL) (lv := [(0, .ref (ad_p0 0)), (1, .int p1), (2, .long p2)]) (by decide) rfl rfl (Nat.le_of_ble_eq_true rfl) rfl ?_
  intro p e s m below meth c ls hC hx hb hown hts hK hr hlocks hnm hz hM hS hl hX hex
  unfold fL_doScript at h
  refine lv_aload_n hx hb dL_doScript_0 rfl (lv_at hl 0 rfl) ?_
  refine lv_iload_n hx hb dL_doScript_1 rfl (lv_at hl 1 rfl) ?_
  refine lv_lload_n hx hb dL_doScript_2 rfl (lv_at hl 2 rfl) ?_
  obtain ⟨r1, hr1, h⟩ := ob_some h
  refine mx_ci (mx_runV (As := [.int p1, .long p2]) (rest := []) (ci := 5) (C := RX7) (T := TX7) (N := 6) hC hX hM hS (hO_p0.at0) rfl (o_X7_runScript hO_p0 hlt hr1) gL_doScript_X7_runScript rfl rfl rfl rfl q_X7_runScript ⟨(Nat.le_of_ble_eq_true rfl), (Nat.le_of_ble_eq_true rfl)⟩ rfl rfl (Nat.le_of_ble_eq_true rfl) hl.1 dL_doScript_3 ⟨(Nat.le_of_ble_eq_true rfl), (Nat.le_of_ble_eq_true rfl)⟩) hS (fun E3 ce a_e4 H locs hvE hM hS hce hcv hcl => ?_) (fun r9 H locs σ1 hp2 hM hS => ?_)
  · subst hvE
    replace h := rsum_inl h
    by_cases c6 : E3 = "java/lang/IllegalArgumentException"
    · replace h := it_pos c6 h
      subst c6
      refine vx_catch (name := "java/lang/IllegalArgumentException") hown [] ⟨0, 6, 7, 21⟩ [] hex (fun _ h9 => by cases h9) (by decide) (by decide) (hts _ l_L_doScript_0) (va_Nw.use rfl (xc_A hX)) hce hcv hcl ?_
      refine W.eq (g2 := F0 m 7 ls [.ref a_e4]) rfl ?_
      refine lv_astore (lv' := [(4, .ref a_e4), (0, .ref (ad_p0 0)), (1, .int p1), (2, .long p2)]) hx hb dL_doScript_7 hl (by decide) rfl (fun ls hl => ?_)
      refine lv_ldc (v := -9999002) hx hb hown (hts _ l_L_doScript_1) dL_doScript_9 ?_
      replace h := Option.some.inj h
      subst h
      exact W.iret hx hb hr (fun t ht hW => ⟨⟨_, _, rfl, ⟨rfl, hO_p0, (KEO.rf _ _)⟩, by show MW z D _ t.heap; rw [ht]; exact hM⟩, hS.F ht⟩) hS.2.2 dL_doScript_11 hlocks
    replace h := it_neg c6 h
    cases h
  · obtain ⟨w5, hw9, hr9, hO9, hk7⟩ := hp2
    replace hr9 := hr9.symm
    subst hr9
    subst hw9
    replace h := rsum_inr h
    replace hO_p0 := hO9
    refine W.eq (g2 := F0 m 6 ls [.int w5.1]) rfl ?_
    replace h := Option.some.inj h
    subst h
    exact W.iret hx hb hr (fun t ht hW => ⟨⟨_, _, rfl, ⟨rfl, hO_p0, hk7⟩, by show MW z D _ t.heap; rw [ht]; exact hM⟩, hS.F ht⟩) hS.2.2 dL_doScript_6 hlocks
theorem q_L_doSimulate : yL_doSimulate.cls ≠ "java/lang/invoke/MethodHandle" ∧ yL_doSimulate.cls ≠ "java/lang/invoke/VarHandle" ∧ (parseMethodDescriptor yL_doSimulate.desc).map (fun d => d.parameters.length) = some 3 := by decide +kernel
theorem l_L_doSimulate_0 : Cond.classLink RL 21 "java/lang/IllegalArgumentException" ∈ wsL_doSimulate := (List.mem_cons_of_mem _ (List.mem_append_left _ (List.mem_append_left _ (List.mem_append_left _ (List.mem_append_left _ (List.mem_append_left _ (List.mem_of_getElem? (i := 0) rfl)))))))
theorem l_L_doSimulate_1 : Cond.constant RL 29 (-9999002) ∈ wsL_doSimulate := (List.mem_cons_of_mem _ (List.mem_append_left _ (List.mem_append_left _ (List.mem_append_left _ (List.mem_append_left _ (List.mem_append_left _ (List.mem_of_getElem? (i := 1) rfl)))))))
def fL_doSimulate (s_p0 : OSt) (p1 : Int64) (p2 : Int32) : Option (Int32 × OSt) := (aSimulate s_p0 p1 p2).bind fun r1 => rsum r1 (fun E3 => if E3 = "java/lang/IllegalArgumentException" then (some (((-9999002) : Int32), s_p0)) else (none)) (fun w5 => some (w5.1, w5.2))
set_option maxHeartbeats 8000000 in
set_option maxRecDepth 100000 in
theorem c_L_doSimulate {l : Launch} {z : Nat} {D : va_G} {K : Nat → ClassId} {σ : mwm} {ad_p0 : Nat → Nat} {s_p0 : OSt} {p1 : Int64} {p2 : Int32} (hO_p0 : OB K ad_p0 σ s_p0) (hlt : l.stackTraces = false) {v : Int32 × OSt} (h : fL_doSimulate s_p0 p1 p2 = some v) : Met l yL_doSimulate wsL_doSimulate ({ frames := 7, cells := 1, slots := 6, locals := 155 } : Room) (PCx z D K [.ref (ad_p0 0), .long p1, .int p2] σ) (qwI z D (fun r σ2 => r = v.1 ∧ OB K ad_p0 σ2 v.2 ∧ KEO ad_p0 σ σ2)) 1 6 (zA z) := by
  refine mh_enter (cc := cL_doSimulate) (maxL := 5) (ret := (some .int)) (own := RL) (lv := [(0, .ref (ad_p0 0)), (1, .long p1), (3, .int p2)]) (by decide) rfl rfl (Nat.le_of_ble_eq_true rfl) rfl ?_
  intro p e s m below meth c ls hC hx hb hown hts hK hr hlocks hnm hz hM hS hl hX hex
  unfold fL_doSimulate at h
  refine lv_aload_n hx hb dL_doSimulate_0 rfl (lv_at hl 0 rfl) ?_
  refine lv_lload_n hx hb dL_doSimulate_1 rfl (lv_at hl 1 rfl) ?_
  refine lv_iload_n hx hb dL_doSimulate_2 rfl (lv_at hl 2 rfl) ?_
  obtain ⟨r1, hr1, h⟩ := ob_some h
  refine mx_ci (mx_runV (As := [.long p1, .int p2]) (rest := []) (ci := 5) (C := RX7) (T := TX7) (N := 6) hC hX hM hS (hO_p0.at0) rfl (o_X7_simulate hO_p0 hlt hr1) gL_doSimulate_X7_simulate rfl rfl rfl rfl q_X7_simulate ⟨(Nat.le_of_ble_eq_true rfl), (Nat.le_of_ble_eq_true rfl)⟩ rfl rfl (Nat.le_of_ble_eq_true rfl) hl.1 dL_doSimulate_3 ⟨(Nat.le_of_ble_eq_true rfl), (Nat.le_of_ble_eq_true rfl)⟩) hS (fun E3 ce a_e4 H locs hvE hM hS hce hcv hcl => ?_) (fun r9 H locs σ1 hp2 hM hS => ?_)
  · subst hvE
    replace h := rsum_inl h
    by_cases c6 : E3 = "java/lang/IllegalArgumentException"
    · replace h := it_pos c6 h
      subst c6
      refine vx_catch (name := "java/lang/IllegalArgumentException") hown [] ⟨0, 6, 7, 21⟩ [] hex (fun _ h9 => by cases h9) (by decide) (by decide) (hts _ l_L_doSimulate_0) (va_Nw.use rfl (xc_A hX)) hce hcv hcl ?_
      refine W.eq (g2 := F0 m 7 ls [.ref a_e4]) rfl ?_
      refine lv_astore (lv' := [(4, .ref a_e4), (0, .ref (ad_p0 0)), (1, .long p1), (3, .int p2)]) hx hb dL_doSimulate_7 hl (by decide) rfl (fun ls hl => ?_)
      refine lv_ldc (v := -9999002) hx hb hown (hts _ l_L_doSimulate_1) dL_doSimulate_9 ?_
      replace h := Option.some.inj h
      subst h
      exact W.iret hx hb hr (fun t ht hW => ⟨⟨_, _, rfl, ⟨rfl, hO_p0, (KEO.rf _ _)⟩, by show MW z D _ t.heap; rw [ht]; exact hM⟩, hS.F ht⟩) hS.2.2 dL_doSimulate_11 hlocks
    replace h := it_neg c6 h
    cases h
  · obtain ⟨w5, hw9, hr9, hO9, hk7⟩ := hp2
    replace hr9 := hr9.symm
    subst hr9
    subst hw9
    replace h := rsum_inr h
    replace hO_p0 := hO9
    refine W.eq (g2 := F0 m 6 ls [.int w5.1]) rfl ?_
    replace h := Option.some.inj h
    subst h
    exact W.iret hx hb hr (fun t ht hW => ⟨⟨_, _, rfl, ⟨rfl, hO_p0, hk7⟩, by show MW z D _ t.heap; rw [ht]; exact hM⟩, hS.F ht⟩) hS.2.2 dL_doSimulate_6 hlocks
theorem q_L_tryAppend : yL_tryAppend.cls ≠ "java/lang/invoke/MethodHandle" ∧ yL_tryAppend.cls ≠ "java/lang/invoke/VarHandle" ∧ (parseMethodDescriptor yL_tryAppend.desc).map (fun d => d.parameters.length) = some 2 := by decide +kernel
theorem l_L_tryAppend_0 : Cond.classLink RL 21 "java/lang/IllegalArgumentException" ∈ wsL_tryAppend := (List.mem_cons_of_mem _ (List.mem_append_left _ (List.mem_append_left _ (List.mem_append_left _ (List.mem_append_left _ (List.mem_append_left _ (List.mem_of_getElem? (i := 0) rfl)))))))
theorem l_L_tryAppend_1 : Cond.classLink RL 38 "java/lang/IllegalStateException" ∈ wsL_tryAppend := (List.mem_cons_of_mem _ (List.mem_append_left _ (List.mem_append_left _ (List.mem_append_left _ (List.mem_append_left _ (List.mem_append_left _ (List.mem_of_getElem? (i := 1) rfl)))))))
theorem l_L_tryAppend_2 : Cond.constant RL 29 (-9999002) ∈ wsL_tryAppend := (List.mem_cons_of_mem _ (List.mem_append_left _ (List.mem_append_left _ (List.mem_append_left _ (List.mem_append_left _ (List.mem_append_left _ (List.mem_of_getElem? (i := 2) rfl)))))))
theorem l_L_tryAppend_3 : Cond.constant RL 40 (-9999003) ∈ wsL_tryAppend := (List.mem_cons_of_mem _ (List.mem_append_left _ (List.mem_append_left _ (List.mem_append_left _ (List.mem_append_left _ (List.mem_append_left _ (List.mem_of_getElem? (i := 3) rfl)))))))
def fL_tryAppend (s_p0 : OSt) (p1 : Int32) : Option (Int32 × OSt) := (aAppend s_p0 p1).bind fun r1 => rsum r1 (fun E3 => if E3 = "java/lang/IllegalArgumentException" then (some (((-9999002) : Int32), s_p0)) else (if E3 = "java/lang/IllegalStateException" then (some (((-9999003) : Int32), s_p0)) else (none))) (fun w5 => some (w5.1, w5.2))
set_option maxHeartbeats 8000000 in
set_option maxRecDepth 100000 in
theorem c_L_tryAppend {l : Launch} {z : Nat} {D : va_G} {K : Nat → ClassId} {σ : mwm} {ad_p0 : Nat → Nat} {s_p0 : OSt} {p1 : Int32} (hO_p0 : OB K ad_p0 σ s_p0) (hlt : l.stackTraces = false) {v : Int32 × OSt} (h : fL_tryAppend s_p0 p1 = some v) : Met l yL_tryAppend wsL_tryAppend ({ frames := 7, cells := 1, slots := 6, locals := 120 } : Room) (PCx z D K [.ref (ad_p0 0), .int p1] σ) (qwI z D (fun r σ2 => r = v.1 ∧ OB K ad_p0 σ2 v.2 ∧ KEO ad_p0 σ σ2)) 1 6 (zA z) := by
  refine mh_enter (cc := cL_tryAppend) (maxL := 3) (ret := (some .int)) (own := RL) (lv := [(0, .ref (ad_p0 0)), (1, .int p1)]) (by decide) rfl rfl (Nat.le_of_ble_eq_true rfl) rfl ?_
  intro p e s m below meth c ls hC hx hb hown hts hK hr hlocks hnm hz hM hS hl hX hex
  unfold fL_tryAppend at h
  refine lv_aload_n hx hb dL_tryAppend_0 rfl (lv_at hl 0 rfl) ?_
  refine lv_iload_n hx hb dL_tryAppend_1 rfl (lv_at hl 1 rfl) ?_
  obtain ⟨r1, hr1, h⟩ := ob_some h
  refine mx_ci (mx_runV (As := [.int p1]) (rest := []) (ci := 5) (C := RX7) (T := TX7) (N := 6) hC hX hM hS (hO_p0.at0) rfl (o_X7_append hO_p0 hlt hr1) gL_tryAppend_X7_append rfl rfl rfl rfl q_X7_append ⟨(Nat.le_of_ble_eq_true rfl), (Nat.le_of_ble_eq_true rfl)⟩ rfl rfl (Nat.le_of_ble_eq_true rfl) hl.1 dL_tryAppend_2 ⟨(Nat.le_of_ble_eq_true rfl), (Nat.le_of_ble_eq_true rfl)⟩) hS (fun E3 ce a_e4 H locs hvE hM hS hce hcv hcl => ?_) (fun r9 H locs σ1 hp2 hM hS => ?_)
  · subst hvE
    replace h := rsum_inl h
    by_cases c6 : E3 = "java/lang/IllegalArgumentException"
    · replace h := it_pos c6 h
      subst c6
      refine vx_catch (name := "java/lang/IllegalArgumentException") hown [] ⟨0, 5, 6, 21⟩ [⟨0, 5, 10, 38⟩] hex (fun _ h9 => by cases h9) (by decide) (by decide) (hts _ l_L_tryAppend_0) (va_Nw.use rfl (xc_A hX)) hce hcv hcl ?_
      refine W.eq (g2 := F0 m 6 ls [.ref a_e4]) rfl ?_
      refine lv_astore_n (lv' := [(2, .ref a_e4), (0, .ref (ad_p0 0)), (1, .int p1)]) hx hb dL_tryAppend_6 rfl hl (by decide) rfl (fun ls hl => ?_)
      refine lv_ldc (v := -9999002) hx hb hown (hts _ l_L_tryAppend_2) dL_tryAppend_7 ?_
      replace h := Option.some.inj h
      subst h
      exact W.iret hx hb hr (fun t ht hW => ⟨⟨_, _, rfl, ⟨rfl, hO_p0, (KEO.rf _ _)⟩, by show MW z D _ t.heap; rw [ht]; exact hM⟩, hS.F ht⟩) hS.2.2 dL_tryAppend_9 hlocks
    replace h := it_neg c6 h
    by_cases c7 : E3 = "java/lang/IllegalStateException"
    · replace h := it_pos c7 h
      subst c7
      refine vx_catch (name := "java/lang/IllegalStateException") hown [⟨0, 5, 6, 21⟩] ⟨0, 5, 10, 38⟩ [] hex (fun x9 h9 => by rw [List.mem_singleton.mp h9]; exact Or.inr ⟨(by decide), _, hts _ l_L_tryAppend_0, hX.2.2.2.2.2.2.1⟩) (by decide) (by decide) (hts _ l_L_tryAppend_1) (va_Nw.use rfl (xc_S hX)) hce hcv hcl ?_
      refine W.eq (g2 := F0 m 10 ls [.ref a_e4]) rfl ?_
      refine lv_astore_n (lv' := [(2, .ref a_e4), (0, .ref (ad_p0 0)), (1, .int p1)]) hx hb dL_tryAppend_10 rfl hl (by decide) rfl (fun ls hl => ?_)
      refine lv_ldc (v := -9999003) hx hb hown (hts _ l_L_tryAppend_3) dL_tryAppend_11 ?_
      replace h := Option.some.inj h
      subst h
      exact W.iret hx hb hr (fun t ht hW => ⟨⟨_, _, rfl, ⟨rfl, hO_p0, (KEO.rf _ _)⟩, by show MW z D _ t.heap; rw [ht]; exact hM⟩, hS.F ht⟩) hS.2.2 dL_tryAppend_13 hlocks
    replace h := it_neg c7 h
    cases h
  · obtain ⟨w5, hw9, hr9, hO9, hk8⟩ := hp2
    replace hr9 := hr9.symm
    subst hr9
    subst hw9
    replace h := rsum_inr h
    replace hO_p0 := hO9
    refine W.eq (g2 := F0 m 5 ls [.int w5.1]) rfl ?_
    replace h := Option.some.inj h
    subst h
    exact W.iret hx hb hr (fun t ht hW => ⟨⟨_, _, rfl, ⟨rfl, hO_p0, hk8⟩, by show MW z D _ t.heap; rw [ht]; exact hM⟩, hS.F ht⟩) hS.2.2 dL_tryAppend_5 hlocks
theorem q_L_tryAbout : yL_tryAbout.cls ≠ "java/lang/invoke/MethodHandle" ∧ yL_tryAbout.cls ≠ "java/lang/invoke/VarHandle" ∧ (parseMethodDescriptor yL_tryAbout.desc).map (fun d => d.parameters.length) = some 2 := by decide +kernel
theorem l_L_tryAbout_0 : Cond.classLink RL 21 "java/lang/IllegalArgumentException" ∈ wsL_tryAbout := (List.mem_cons_of_mem _ (List.mem_append_left _ (List.mem_append_left _ (List.mem_append_left _ (List.mem_append_left _ (List.mem_append_left _ (List.mem_of_getElem? (i := 0) rfl)))))))
theorem l_L_tryAbout_1 : Cond.constant RL 29 (-9999002) ∈ wsL_tryAbout := (List.mem_cons_of_mem _ (List.mem_append_left _ (List.mem_append_left _ (List.mem_append_left _ (List.mem_append_left _ (List.mem_append_left _ (List.mem_of_getElem? (i := 1) rfl)))))))
def fL_tryAbout (s_p0 : OSt) (p1 : Int32) : Option (Int32) := (aAbout s_p0 p1).bind fun r1 => rsum r1 (fun E3 => if E3 = "java/lang/IllegalArgumentException" then (some ((-9999002) : Int32)) else (none)) (fun w5 => some w5)
set_option maxHeartbeats 8000000 in
set_option maxRecDepth 100000 in
theorem c_L_tryAbout {l : Launch} {z : Nat} {D : va_G} {K : Nat → ClassId} {σ : mwm} {ad_p0 : Nat → Nat} {s_p0 : OSt} {p1 : Int32} (hO_p0 : OB K ad_p0 σ s_p0) (hlt : l.stackTraces = false) {v : Int32} (h : fL_tryAbout s_p0 p1 = some v) : Met l yL_tryAbout wsL_tryAbout ({ frames := 7, cells := 1, slots := 6, locals := 148 } : Room) (PCx z D K [.ref (ad_p0 0), .int p1] σ) (qwI z D (fun r σ2 => r = v ∧ OB K ad_p0 σ2 s_p0 ∧ KEO ad_p0 σ σ2)) 1 6 (zA z) := by
  refine mh_enter (cc := cL_tryAbout) (maxL := 3) (ret := (some .int)) (own := RL) (lv := [(0, .ref (ad_p0 0)), (1, .int p1)]) (by decide) rfl rfl (Nat.le_of_ble_eq_true rfl) rfl ?_
  intro p e s m below meth c ls hC hx hb hown hts hK hr hlocks hnm hz hM hS hl hX hex
  unfold fL_tryAbout at h
  refine lv_aload_n hx hb dL_tryAbout_0 rfl (lv_at hl 0 rfl) ?_
  refine lv_iload_n hx hb dL_tryAbout_1 rfl (lv_at hl 1 rfl) ?_
  obtain ⟨r1, hr1, h⟩ := ob_some h
  refine mx_ci (mx_runV (As := [.int p1]) (rest := []) (ci := 5) (C := RX7) (T := TX7) (N := 6) hC hX hM hS (hO_p0.at0) rfl (o_X7_about hO_p0 hlt hr1) gL_tryAbout_X7_about rfl rfl rfl rfl q_X7_about ⟨(Nat.le_of_ble_eq_true rfl), (Nat.le_of_ble_eq_true rfl)⟩ rfl rfl (Nat.le_of_ble_eq_true rfl) hl.1 dL_tryAbout_2 ⟨(Nat.le_of_ble_eq_true rfl), (Nat.le_of_ble_eq_true rfl)⟩) hS (fun E3 ce a_e4 H locs hvE hM hS hce hcv hcl => ?_) (fun r9 H locs σ1 hp2 hM hS => ?_)
  · subst hvE
    replace h := rsum_inl h
    by_cases c6 : E3 = "java/lang/IllegalArgumentException"
    · replace h := it_pos c6 h
      subst c6
      refine vx_catch (name := "java/lang/IllegalArgumentException") hown [] ⟨0, 5, 6, 21⟩ [] hex (fun _ h9 => by cases h9) (by decide) (by decide) (hts _ l_L_tryAbout_0) (va_Nw.use rfl (xc_A hX)) hce hcv hcl ?_
      refine W.eq (g2 := F0 m 6 ls [.ref a_e4]) rfl ?_
      refine lv_astore_n (lv' := [(2, .ref a_e4), (0, .ref (ad_p0 0)), (1, .int p1)]) hx hb dL_tryAbout_6 rfl hl (by decide) rfl (fun ls hl => ?_)
      refine lv_ldc (v := -9999002) hx hb hown (hts _ l_L_tryAbout_1) dL_tryAbout_7 ?_
      replace h := Option.some.inj h
      subst h
      exact W.iret hx hb hr (fun t ht hW => ⟨⟨_, _, rfl, ⟨rfl, hO_p0, (KEO.rf _ _)⟩, by show MW z D _ t.heap; rw [ht]; exact hM⟩, hS.F ht⟩) hS.2.2 dL_tryAbout_9 hlocks
    replace h := it_neg c6 h
    cases h
  · obtain ⟨w5, hw9, hr9, hO9, hk7⟩ := hp2
    replace hr9 := hr9.symm
    subst hr9
    subst hw9
    replace h := rsum_inr h
    replace hO_p0 := hO9
    refine W.eq (g2 := F0 m 5 ls [.int w5]) rfl ?_
    replace h := Option.some.inj h
    subst h
    exact W.iret hx hb hr (fun t ht hW => ⟨⟨_, _, rfl, ⟨rfl, hO_p0, hk7⟩, by show MW z D _ t.heap; rw [ht]; exact hM⟩, hS.F ht⟩) hS.2.2 dL_tryAbout_5 hlocks
theorem q_L_tryColour : yL_tryColour.cls ≠ "java/lang/invoke/MethodHandle" ∧ yL_tryColour.cls ≠ "java/lang/invoke/VarHandle" ∧ (parseMethodDescriptor yL_tryColour.desc).map (fun d => d.parameters.length) = some 3 := by decide +kernel
theorem l_L_tryColour_0 : Cond.classLink RL 13 "java/lang/IndexOutOfBoundsException" ∈ wsL_tryColour := (List.mem_cons_of_mem _ (List.mem_append_left _ (List.mem_append_left _ (List.mem_append_left _ (List.mem_append_left _ (List.mem_append_left _ (List.mem_append_left _ (List.mem_of_getElem? (i := 0) rfl))))))))
theorem l_L_tryColour_1 : Cond.classLink RL 21 "java/lang/IllegalArgumentException" ∈ wsL_tryColour := (List.mem_cons_of_mem _ (List.mem_append_left _ (List.mem_append_left _ (List.mem_append_left _ (List.mem_append_left _ (List.mem_append_left _ (List.mem_append_left _ (List.mem_of_getElem? (i := 1) rfl))))))))
theorem l_L_tryColour_2 : Cond.constant RL 52 (-9999001) ∈ wsL_tryColour := (List.mem_cons_of_mem _ (List.mem_append_left _ (List.mem_append_left _ (List.mem_append_left _ (List.mem_append_left _ (List.mem_append_left _ (List.mem_append_left _ (List.mem_of_getElem? (i := 2) rfl))))))))
theorem l_L_tryColour_3 : Cond.constant RL 29 (-9999002) ∈ wsL_tryColour := (List.mem_cons_of_mem _ (List.mem_append_left _ (List.mem_append_left _ (List.mem_append_left _ (List.mem_append_left _ (List.mem_append_left _ (List.mem_append_left _ (List.mem_of_getElem? (i := 3) rfl))))))))
def fL_tryColour (s_p0 : OSt) (p1 : Int32) (p2 : Int32) : Option (Int32) := (aColour s_p0 p1 p2).bind fun r1 => rsum r1 (fun E3 => if E3 = "java/lang/IndexOutOfBoundsException" then (some ((-9999001) : Int32)) else (if E3 = "java/lang/IllegalArgumentException" then (some ((-9999002) : Int32)) else (none))) (fun w5 => some w5)
set_option maxHeartbeats 8000000 in
set_option maxRecDepth 100000 in
theorem c_L_tryColour {l : Launch} {z : Nat} {D : va_G} {K : Nat → ClassId} {σ : mwm} {ad_p0 : Nat → Nat} {s_p0 : OSt} {p1 : Int32} {p2 : Int32} (hO_p0 : OB K ad_p0 σ s_p0) (hlt : l.stackTraces = false) {v : Int32} (h : fL_tryColour s_p0 p1 p2 = some v) : Met l yL_tryColour wsL_tryColour ({ frames := 7, cells := 1, slots := 6, locals := 121 } : Room) (PCx z D K [.ref (ad_p0 0), .int p1, .int p2] σ) (qwI z D (fun r σ2 => r = v ∧ OB K ad_p0 σ2 s_p0 ∧ KEO ad_p0 σ σ2)) 1 6 (zA z) := by
  refine mh_enter (cc := cL_tryColour) (maxL := 4) (ret := (some .int)) (own := RL) (lv := [(0, .ref (ad_p0 0)), (1, .int p1), (2, .int p2)]) (by decide) rfl rfl (Nat.le_of_ble_eq_true rfl) rfl ?_
  intro p e s m below meth c ls hC hx hb hown hts hK hr hlocks hnm hz hM hS hl hX hex
  unfold fL_tryColour at h
  refine lv_aload_n hx hb dL_tryColour_0 rfl (lv_at hl 0 rfl) ?_
  refine lv_iload_n hx hb dL_tryColour_1 rfl (lv_at hl 1 rfl) ?_
  refine lv_iload_n hx hb dL_tryColour_2 rfl (lv_at hl 2 rfl) ?_
  obtain ⟨r1, hr1, h⟩ := ob_some h
  refine mx_ci (mx_runV (As := [.int p1, .int p2]) (rest := []) (ci := 5) (C := RX7) (T := TX7) (N := 6) hC hX hM hS (hO_p0.at0) rfl (o_X7_colour hO_p0 hlt hr1) gL_tryColour_X7_colour rfl rfl rfl rfl q_X7_colour ⟨(Nat.le_of_ble_eq_true rfl), (Nat.le_of_ble_eq_true rfl)⟩ rfl rfl (Nat.le_of_ble_eq_true rfl) hl.1 dL_tryColour_3 ⟨(Nat.le_of_ble_eq_true rfl), (Nat.le_of_ble_eq_true rfl)⟩) hS (fun E3 ce a_e4 H locs hvE hM hS hce hcv hcl => ?_) (fun r9 H locs σ1 hp2 hM hS => ?_)
  · subst hvE
    replace h := rsum_inl h
    by_cases c6 : E3 = "java/lang/IndexOutOfBoundsException"
    · replace h := it_pos c6 h
      subst c6
      refine vx_catch (name := "java/lang/IndexOutOfBoundsException") hown [] ⟨0, 6, 7, 13⟩ [⟨0, 6, 11, 21⟩] hex (fun _ h9 => by cases h9) (by decide) (by decide) (hts _ l_L_tryColour_0) (va_Nw.use rfl (xc_O hX)) hce hcv hcl ?_
      refine W.eq (g2 := F0 m 7 ls [.ref a_e4]) rfl ?_
      refine lv_astore_n (lv' := [(3, .ref a_e4), (0, .ref (ad_p0 0)), (1, .int p1), (2, .int p2)]) hx hb dL_tryColour_7 rfl hl (by decide) rfl (fun ls hl => ?_)
      refine lv_ldc (v := -9999001) hx hb hown (hts _ l_L_tryColour_2) dL_tryColour_8 ?_
      replace h := Option.some.inj h
      subst h
      exact W.iret hx hb hr (fun t ht hW => ⟨⟨_, _, rfl, ⟨rfl, hO_p0, (KEO.rf _ _)⟩, by show MW z D _ t.heap; rw [ht]; exact hM⟩, hS.F ht⟩) hS.2.2 dL_tryColour_10 hlocks
    replace h := it_neg c6 h
    by_cases c7 : E3 = "java/lang/IllegalArgumentException"
    · replace h := it_pos c7 h
      subst c7
      refine vx_catch (name := "java/lang/IllegalArgumentException") hown [⟨0, 6, 7, 13⟩] ⟨0, 6, 11, 21⟩ [] hex (fun x9 h9 => by rw [List.mem_singleton.mp h9]; exact Or.inr ⟨(by decide), _, hts _ l_L_tryColour_0, hX.2.2.2.2.2.1⟩) (by decide) (by decide) (hts _ l_L_tryColour_1) (va_Nw.use rfl (xc_A hX)) hce hcv hcl ?_
      refine W.eq (g2 := F0 m 11 ls [.ref a_e4]) rfl ?_
      refine lv_astore_n (lv' := [(3, .ref a_e4), (0, .ref (ad_p0 0)), (1, .int p1), (2, .int p2)]) hx hb dL_tryColour_11 rfl hl (by decide) rfl (fun ls hl => ?_)
      refine lv_ldc (v := -9999002) hx hb hown (hts _ l_L_tryColour_3) dL_tryColour_12 ?_
      replace h := Option.some.inj h
      subst h
      exact W.iret hx hb hr (fun t ht hW => ⟨⟨_, _, rfl, ⟨rfl, hO_p0, (KEO.rf _ _)⟩, by show MW z D _ t.heap; rw [ht]; exact hM⟩, hS.F ht⟩) hS.2.2 dL_tryColour_14 hlocks
    replace h := it_neg c7 h
    cases h
  · obtain ⟨w5, hw9, hr9, hO9, hk8⟩ := hp2
    replace hr9 := hr9.symm
    subst hr9
    subst hw9
    replace h := rsum_inr h
    replace hO_p0 := hO9
    refine W.eq (g2 := F0 m 6 ls [.int w5]) rfl ?_
    replace h := Option.some.inj h
    subst h
    exact W.iret hx hb hr (fun t ht hW => ⟨⟨_, _, rfl, ⟨rfl, hO_p0, hk8⟩, by show MW z D _ t.heap; rw [ht]; exact hM⟩, hS.F ht⟩) hS.2.2 dL_tryColour_6 hlocks
theorem q_L_tryPoint : yL_tryPoint.cls ≠ "java/lang/invoke/MethodHandle" ∧ yL_tryPoint.cls ≠ "java/lang/invoke/VarHandle" ∧ (parseMethodDescriptor yL_tryPoint.desc).map (fun d => d.parameters.length) = some 3 := by decide +kernel
theorem l_L_tryPoint_0 : Cond.classLink RL 13 "java/lang/IndexOutOfBoundsException" ∈ wsL_tryPoint := (List.mem_cons_of_mem _ (List.mem_append_left _ (List.mem_append_left _ (List.mem_append_left _ (List.mem_append_left _ (List.mem_append_left _ (List.mem_append_left _ (List.mem_of_getElem? (i := 0) rfl))))))))
theorem l_L_tryPoint_1 : Cond.classLink RL 21 "java/lang/IllegalArgumentException" ∈ wsL_tryPoint := (List.mem_cons_of_mem _ (List.mem_append_left _ (List.mem_append_left _ (List.mem_append_left _ (List.mem_append_left _ (List.mem_append_left _ (List.mem_append_left _ (List.mem_of_getElem? (i := 1) rfl))))))))
theorem l_L_tryPoint_2 : Cond.constant RL 52 (-9999001) ∈ wsL_tryPoint := (List.mem_cons_of_mem _ (List.mem_append_left _ (List.mem_append_left _ (List.mem_append_left _ (List.mem_append_left _ (List.mem_append_left _ (List.mem_append_left _ (List.mem_of_getElem? (i := 2) rfl))))))))
theorem l_L_tryPoint_3 : Cond.constant RL 29 (-9999002) ∈ wsL_tryPoint := (List.mem_cons_of_mem _ (List.mem_append_left _ (List.mem_append_left _ (List.mem_append_left _ (List.mem_append_left _ (List.mem_append_left _ (List.mem_append_left _ (List.mem_of_getElem? (i := 3) rfl))))))))
def fL_tryPoint (s_p0 : OSt) (p1 : Int32) (p2 : Int32) : Option (Int32) := (aPoint s_p0 p1 p2).bind fun r1 => rsum r1 (fun E3 => if E3 = "java/lang/IndexOutOfBoundsException" then (some ((-9999001) : Int32)) else (if E3 = "java/lang/IllegalArgumentException" then (some ((-9999002) : Int32)) else (none))) (fun w5 => some w5)
set_option maxHeartbeats 8000000 in
set_option maxRecDepth 100000 in
theorem c_L_tryPoint {l : Launch} {z : Nat} {D : va_G} {K : Nat → ClassId} {σ : mwm} {ad_p0 : Nat → Nat} {s_p0 : OSt} {p1 : Int32} {p2 : Int32} (hO_p0 : OB K ad_p0 σ s_p0) (hlt : l.stackTraces = false) {v : Int32} (h : fL_tryPoint s_p0 p1 p2 = some v) : Met l yL_tryPoint wsL_tryPoint ({ frames := 7, cells := 1, slots := 6, locals := 143 } : Room) (PCx z D K [.ref (ad_p0 0), .int p1, .int p2] σ) (qwI z D (fun r σ2 => r = v ∧ OB K ad_p0 σ2 s_p0 ∧ KEO ad_p0 σ σ2)) 1 6 (zA z) := by
  refine mh_enter (cc := cL_tryPoint) (maxL := 4) (ret := (some .int)) (own := RL) (lv := [(0, .ref (ad_p0 0)), (1, .int p1), (2, .int p2)]) (by decide) rfl rfl (Nat.le_of_ble_eq_true rfl) rfl ?_
  intro p e s m below meth c ls hC hx hb hown hts hK hr hlocks hnm hz hM hS hl hX hex
  unfold fL_tryPoint at h
  refine lv_aload_n hx hb dL_tryPoint_0 rfl (lv_at hl 0 rfl) ?_
  refine lv_iload_n hx hb dL_tryPoint_1 rfl (lv_at hl 1 rfl) ?_
  refine lv_iload_n hx hb dL_tryPoint_2 rfl (lv_at hl 2 rfl) ?_
  obtain ⟨r1, hr1, h⟩ := ob_some h
  refine mx_ci (mx_runV (As := [.int p1, .int p2]) (rest := []) (ci := 5) (C := RX7) (T := TX7) (N := 6) hC hX hM hS (hO_p0.at0) rfl (o_X7_point hO_p0 hlt hr1) gL_tryPoint_X7_point rfl rfl rfl rfl q_X7_point ⟨(Nat.le_of_ble_eq_true rfl), (Nat.le_of_ble_eq_true rfl)⟩ rfl rfl (Nat.le_of_ble_eq_true rfl) hl.1 dL_tryPoint_3 ⟨(Nat.le_of_ble_eq_true rfl), (Nat.le_of_ble_eq_true rfl)⟩) hS (fun E3 ce a_e4 H locs hvE hM hS hce hcv hcl => ?_) (fun r9 H locs σ1 hp2 hM hS => ?_)
  · subst hvE
    replace h := rsum_inl h
    by_cases c6 : E3 = "java/lang/IndexOutOfBoundsException"
    · replace h := it_pos c6 h
      subst c6
      refine vx_catch (name := "java/lang/IndexOutOfBoundsException") hown [] ⟨0, 6, 7, 13⟩ [⟨0, 6, 11, 21⟩] hex (fun _ h9 => by cases h9) (by decide) (by decide) (hts _ l_L_tryPoint_0) (va_Nw.use rfl (xc_O hX)) hce hcv hcl ?_
      refine W.eq (g2 := F0 m 7 ls [.ref a_e4]) rfl ?_
      refine lv_astore_n (lv' := [(3, .ref a_e4), (0, .ref (ad_p0 0)), (1, .int p1), (2, .int p2)]) hx hb dL_tryPoint_7 rfl hl (by decide) rfl (fun ls hl => ?_)
      refine lv_ldc (v := -9999001) hx hb hown (hts _ l_L_tryPoint_2) dL_tryPoint_8 ?_
      replace h := Option.some.inj h
      subst h
      exact W.iret hx hb hr (fun t ht hW => ⟨⟨_, _, rfl, ⟨rfl, hO_p0, (KEO.rf _ _)⟩, by show MW z D _ t.heap; rw [ht]; exact hM⟩, hS.F ht⟩) hS.2.2 dL_tryPoint_10 hlocks
    replace h := it_neg c6 h
    by_cases c7 : E3 = "java/lang/IllegalArgumentException"
    · replace h := it_pos c7 h
      subst c7
      refine vx_catch (name := "java/lang/IllegalArgumentException") hown [⟨0, 6, 7, 13⟩] ⟨0, 6, 11, 21⟩ [] hex (fun x9 h9 => by rw [List.mem_singleton.mp h9]; exact Or.inr ⟨(by decide), _, hts _ l_L_tryPoint_0, hX.2.2.2.2.2.1⟩) (by decide) (by decide) (hts _ l_L_tryPoint_1) (va_Nw.use rfl (xc_A hX)) hce hcv hcl ?_
      refine W.eq (g2 := F0 m 11 ls [.ref a_e4]) rfl ?_
      refine lv_astore_n (lv' := [(3, .ref a_e4), (0, .ref (ad_p0 0)), (1, .int p1), (2, .int p2)]) hx hb dL_tryPoint_11 rfl hl (by decide) rfl (fun ls hl => ?_)
      refine lv_ldc (v := -9999002) hx hb hown (hts _ l_L_tryPoint_3) dL_tryPoint_12 ?_
      replace h := Option.some.inj h
      subst h
      exact W.iret hx hb hr (fun t ht hW => ⟨⟨_, _, rfl, ⟨rfl, hO_p0, (KEO.rf _ _)⟩, by show MW z D _ t.heap; rw [ht]; exact hM⟩, hS.F ht⟩) hS.2.2 dL_tryPoint_14 hlocks
    replace h := it_neg c7 h
    cases h
  · obtain ⟨w5, hw9, hr9, hO9, hk8⟩ := hp2
    replace hr9 := hr9.symm
    subst hr9
    subst hw9
    replace h := rsum_inr h
    replace hO_p0 := hO9
    refine W.eq (g2 := F0 m 6 ls [.int w5]) rfl ?_
    replace h := Option.some.inj h
    subst h
    exact W.iret hx hb hr (fun t ht hW => ⟨⟨_, _, rfl, ⟨rfl, hO_p0, hk8⟩, by show MW z D _ t.heap; rw [ht]; exact hM⟩, hS.F ht⟩) hS.2.2 dL_tryPoint_6 hlocks
theorem q_L_tryWhy : yL_tryWhy.cls ≠ "java/lang/invoke/MethodHandle" ∧ yL_tryWhy.cls ≠ "java/lang/invoke/VarHandle" ∧ (parseMethodDescriptor yL_tryWhy.desc).map (fun d => d.parameters.length) = some 2 := by decide +kernel
theorem l_L_tryWhy_0 : Cond.classLink RL 13 "java/lang/IndexOutOfBoundsException" ∈ wsL_tryWhy := (List.mem_cons_of_mem _ (List.mem_append_left _ (List.mem_append_left _ (List.mem_append_left _ (List.mem_append_left _ (List.mem_append_left _ (List.mem_of_getElem? (i := 0) rfl)))))))
theorem l_L_tryWhy_1 : Cond.constant RL 52 (-9999001) ∈ wsL_tryWhy := (List.mem_cons_of_mem _ (List.mem_append_left _ (List.mem_append_left _ (List.mem_append_left _ (List.mem_append_left _ (List.mem_append_left _ (List.mem_of_getElem? (i := 1) rfl)))))))
def fL_tryWhy (s_p0 : OSt) (p1 : Int32) : Option (Int32) := (aWhy s_p0 p1).bind fun r1 => rsum r1 (fun E3 => if E3 = "java/lang/IndexOutOfBoundsException" then (some ((-9999001) : Int32)) else (none)) (fun w5 => some w5)
set_option maxHeartbeats 8000000 in
set_option maxRecDepth 100000 in
theorem c_L_tryWhy {l : Launch} {z : Nat} {D : va_G} {K : Nat → ClassId} {σ : mwm} {ad_p0 : Nat → Nat} {s_p0 : OSt} {p1 : Int32} (hO_p0 : OB K ad_p0 σ s_p0) (hlt : l.stackTraces = false) {v : Int32} (h : fL_tryWhy s_p0 p1 = some v) : Met l yL_tryWhy wsL_tryWhy ({ frames := 7, cells := 1, slots := 6, locals := 127 } : Room) (PCx z D K [.ref (ad_p0 0), .int p1] σ) (qwI z D (fun r σ2 => r = v ∧ OB K ad_p0 σ2 s_p0 ∧ KEO ad_p0 σ σ2)) 1 6 (zA z) := by
  refine mh_enter (cc := cL_tryWhy) (maxL := 3) (ret := (some .int)) (own := RL) (lv := [(0, .ref (ad_p0 0)), (1, .int p1)]) (by decide) rfl rfl (Nat.le_of_ble_eq_true rfl) rfl ?_
  intro p e s m below meth c ls hC hx hb hown hts hK hr hlocks hnm hz hM hS hl hX hex
  unfold fL_tryWhy at h
  refine lv_aload_n hx hb dL_tryWhy_0 rfl (lv_at hl 0 rfl) ?_
  refine lv_iload_n hx hb dL_tryWhy_1 rfl (lv_at hl 1 rfl) ?_
  obtain ⟨r1, hr1, h⟩ := ob_some h
  refine mx_ci (mx_runV (As := [.int p1]) (rest := []) (ci := 5) (C := RX7) (T := TX7) (N := 6) hC hX hM hS (hO_p0.at0) rfl (o_X7_why hO_p0 hlt hr1) gL_tryWhy_X7_why rfl rfl rfl rfl q_X7_why ⟨(Nat.le_of_ble_eq_true rfl), (Nat.le_of_ble_eq_true rfl)⟩ rfl rfl (Nat.le_of_ble_eq_true rfl) hl.1 dL_tryWhy_2 ⟨(Nat.le_of_ble_eq_true rfl), (Nat.le_of_ble_eq_true rfl)⟩) hS (fun E3 ce a_e4 H locs hvE hM hS hce hcv hcl => ?_) (fun r9 H locs σ1 hp2 hM hS => ?_)
  · subst hvE
    replace h := rsum_inl h
    by_cases c6 : E3 = "java/lang/IndexOutOfBoundsException"
    · replace h := it_pos c6 h
      subst c6
      refine vx_catch (name := "java/lang/IndexOutOfBoundsException") hown [] ⟨0, 5, 6, 13⟩ [] hex (fun _ h9 => by cases h9) (by decide) (by decide) (hts _ l_L_tryWhy_0) (va_Nw.use rfl (xc_O hX)) hce hcv hcl ?_
      refine W.eq (g2 := F0 m 6 ls [.ref a_e4]) rfl ?_
      refine lv_astore_n (lv' := [(2, .ref a_e4), (0, .ref (ad_p0 0)), (1, .int p1)]) hx hb dL_tryWhy_6 rfl hl (by decide) rfl (fun ls hl => ?_)
      refine lv_ldc (v := -9999001) hx hb hown (hts _ l_L_tryWhy_1) dL_tryWhy_7 ?_
      replace h := Option.some.inj h
      subst h
      exact W.iret hx hb hr (fun t ht hW => ⟨⟨_, _, rfl, ⟨rfl, hO_p0, (KEO.rf _ _)⟩, by show MW z D _ t.heap; rw [ht]; exact hM⟩, hS.F ht⟩) hS.2.2 dL_tryWhy_9 hlocks
    replace h := it_neg c6 h
    cases h
  · obtain ⟨w5, hw9, hr9, hO9, hk7⟩ := hp2
    replace hr9 := hr9.symm
    subst hr9
    subst hw9
    replace h := rsum_inr h
    replace hO_p0 := hO9
    refine W.eq (g2 := F0 m 5 ls [.int w5]) rfl ?_
    replace h := Option.some.inj h
    subst h
    exact W.iret hx hb hr (fun t ht hW => ⟨⟨_, _, rfl, ⟨rfl, hO_p0, hk7⟩, by show MW z D _ t.heap; rw [ht]; exact hM⟩, hS.F ht⟩) hS.2.2 dL_tryWhy_5 hlocks
theorem q_L_tryBoard : yL_tryBoard.cls ≠ "java/lang/invoke/MethodHandle" ∧ yL_tryBoard.cls ≠ "java/lang/invoke/VarHandle" ∧ (parseMethodDescriptor yL_tryBoard.desc).map (fun d => d.parameters.length) = some 2 := by decide +kernel
theorem l_L_tryBoard_0 : Cond.classLink RL 21 "java/lang/IllegalArgumentException" ∈ wsL_tryBoard := (List.mem_cons_of_mem _ (List.mem_append_left _ (List.mem_append_left _ (List.mem_append_left _ (List.mem_append_left _ (List.mem_append_left _ (List.mem_append_left _ (List.mem_of_getElem? (i := 0) rfl))))))))
theorem l_L_tryBoard_1 : Cond.constant RL 29 (-9999002) ∈ wsL_tryBoard := (List.mem_cons_of_mem _ (List.mem_append_left _ (List.mem_append_left _ (List.mem_append_left _ (List.mem_append_left _ (List.mem_append_left _ (List.mem_append_left _ (List.mem_of_getElem? (i := 1) rfl))))))))
def fL_tryBoard (s_p0 : OSt) (p1 : Int32) : Option (Int32 × OSt) := (aBoard s_p0 p1).bind fun r1 => rsum r1 (fun E3 => if E3 = "java/lang/IllegalArgumentException" then (some (((-9999002) : Int32), s_p0)) else (none)) (fun w5 => some (w5.1, w5.2))
set_option maxHeartbeats 8000000 in
set_option maxRecDepth 100000 in
theorem c_L_tryBoard {l : Launch} {z : Nat} {D : va_G} {K : Nat → ClassId} {σ : mwm} {ad_p0 : Nat → Nat} {s_p0 : OSt} {p1 : Int32} (hO_p0 : OB K ad_p0 σ s_p0) (hlt : l.stackTraces = false) {v : Int32 × OSt} (h : fL_tryBoard s_p0 p1 = some v) : Met l yL_tryBoard wsL_tryBoard ({ frames := 7, cells := 1, slots := 6, locals := 120 } : Room) (PCx z D K [.ref (ad_p0 0), .int p1] σ) (qwI z D (fun r σ2 => r = v.1 ∧ OB K ad_p0 σ2 v.2 ∧ KEO ad_p0 σ σ2)) 1 6 (zA z) := by
  refine mh_enter (cc := cL_tryBoard) (maxL := 3) (ret := (some .int)) (own := RL) (lv := [(0, .ref (ad_p0 0)), (1, .int p1)]) (by decide) rfl rfl (Nat.le_of_ble_eq_true rfl) rfl ?_
  intro p e s m below meth c ls hC hx hb hown hts hK hr hlocks hnm hz hM hS hl hX hex
  unfold fL_tryBoard at h
  refine lv_aload_n hx hb dL_tryBoard_0 rfl (lv_at hl 0 rfl) ?_
  refine lv_iload_n hx hb dL_tryBoard_1 rfl (lv_at hl 1 rfl) ?_
  obtain ⟨r1, hr1, h⟩ := ob_some h
  refine mx_ci (mx_runV (As := [.int p1]) (rest := []) (ci := 5) (C := RX7) (T := TX7) (N := 6) hC hX hM hS (hO_p0.at0) rfl (o_X7_board hO_p0 hlt hr1) gL_tryBoard_X7_board rfl rfl rfl rfl q_X7_board ⟨(Nat.le_of_ble_eq_true rfl), (Nat.le_of_ble_eq_true rfl)⟩ rfl rfl (Nat.le_of_ble_eq_true rfl) hl.1 dL_tryBoard_2 ⟨(Nat.le_of_ble_eq_true rfl), (Nat.le_of_ble_eq_true rfl)⟩) hS (fun E3 ce a_e4 H locs hvE hM hS hce hcv hcl => ?_) (fun r9 H locs σ1 hp2 hM hS => ?_)
  · subst hvE
    replace h := rsum_inl h
    by_cases c6 : E3 = "java/lang/IllegalArgumentException"
    · replace h := it_pos c6 h
      subst c6
      refine vx_catch (name := "java/lang/IllegalArgumentException") hown [] ⟨0, 5, 6, 21⟩ [] hex (fun _ h9 => by cases h9) (by decide) (by decide) (hts _ l_L_tryBoard_0) (va_Nw.use rfl (xc_A hX)) hce hcv hcl ?_
      refine W.eq (g2 := F0 m 6 ls [.ref a_e4]) rfl ?_
      refine lv_astore_n (lv' := [(2, .ref a_e4), (0, .ref (ad_p0 0)), (1, .int p1)]) hx hb dL_tryBoard_6 rfl hl (by decide) rfl (fun ls hl => ?_)
      refine lv_ldc (v := -9999002) hx hb hown (hts _ l_L_tryBoard_1) dL_tryBoard_7 ?_
      replace h := Option.some.inj h
      subst h
      exact W.iret hx hb hr (fun t ht hW => ⟨⟨_, _, rfl, ⟨rfl, hO_p0, (KEO.rf _ _)⟩, by show MW z D _ t.heap; rw [ht]; exact hM⟩, hS.F ht⟩) hS.2.2 dL_tryBoard_9 hlocks
    replace h := it_neg c6 h
    cases h
  · obtain ⟨w5, hw9, hr9, hO9, hk7⟩ := hp2
    replace hr9 := hr9.symm
    subst hr9
    subst hw9
    replace h := rsum_inr h
    replace hO_p0 := hO9
    refine W.eq (g2 := F0 m 5 ls [.int w5.1]) rfl ?_
    replace h := Option.some.inj h
    subst h
    exact W.iret hx hb hr (fun t ht hW => ⟨⟨_, _, rfl, ⟨rfl, hO_p0, hk7⟩, by show MW z D _ t.heap; rw [ht]; exact hM⟩, hS.F ht⟩) hS.2.2 dL_tryBoard_5 hlocks
theorem q_L_tryPlay : yL_tryPlay.cls ≠ "java/lang/invoke/MethodHandle" ∧ yL_tryPlay.cls ≠ "java/lang/invoke/VarHandle" ∧ (parseMethodDescriptor yL_tryPlay.desc).map (fun d => d.parameters.length) = some 2 := by decide +kernel
theorem l_L_tryPlay_0 : Cond.classLink RL 13 "java/lang/IndexOutOfBoundsException" ∈ wsL_tryPlay := (List.mem_cons_of_mem _ (List.mem_append_left _ (List.mem_append_left _ (List.mem_append_left _ (List.mem_append_left _ (List.mem_append_left _ (List.mem_append_left _ (List.mem_append_left _ (List.mem_of_getElem? (i := 0) rfl)))))))))
theorem l_L_tryPlay_1 : Cond.classLink RL 38 "java/lang/IllegalStateException" ∈ wsL_tryPlay := (List.mem_cons_of_mem _ (List.mem_append_left _ (List.mem_append_left _ (List.mem_append_left _ (List.mem_append_left _ (List.mem_append_left _ (List.mem_append_left _ (List.mem_append_left _ (List.mem_of_getElem? (i := 1) rfl)))))))))
theorem l_L_tryPlay_2 : Cond.constant RL 52 (-9999001) ∈ wsL_tryPlay := (List.mem_cons_of_mem _ (List.mem_append_left _ (List.mem_append_left _ (List.mem_append_left _ (List.mem_append_left _ (List.mem_append_left _ (List.mem_append_left _ (List.mem_append_left _ (List.mem_of_getElem? (i := 2) rfl)))))))))
theorem l_L_tryPlay_3 : Cond.constant RL 40 (-9999003) ∈ wsL_tryPlay := (List.mem_cons_of_mem _ (List.mem_append_left _ (List.mem_append_left _ (List.mem_append_left _ (List.mem_append_left _ (List.mem_append_left _ (List.mem_append_left _ (List.mem_append_left _ (List.mem_of_getElem? (i := 3) rfl)))))))))
def fL_tryPlay (s_p0 : OSt) (p1 : Int32) : Option (Int32 × OSt) := (aPlay s_p0 p1).bind fun r1 => rsum r1 (fun E3 => if E3 = "java/lang/IndexOutOfBoundsException" then (some (((-9999001) : Int32), s_p0)) else (if E3 = "java/lang/IllegalStateException" then (some (((-9999003) : Int32), s_p0)) else (none))) (fun w5 => some (w5.1, w5.2))
set_option maxHeartbeats 8000000 in
set_option maxRecDepth 100000 in
theorem c_L_tryPlay {l : Launch} {z : Nat} {D : va_G} {K : Nat → ClassId} {σ : mwm} {ad_p0 : Nat → Nat} {s_p0 : OSt} {p1 : Int32} (hO_p0 : OB K ad_p0 σ s_p0) (hlt : l.stackTraces = false) {v : Int32 × OSt} (h : fL_tryPlay s_p0 p1 = some v) : Met l yL_tryPlay wsL_tryPlay ({ frames := 7, cells := 1, slots := 6, locals := 127 } : Room) (PCx z D K [.ref (ad_p0 0), .int p1] σ) (qwI z D (fun r σ2 => r = v.1 ∧ OB K ad_p0 σ2 v.2 ∧ KEO ad_p0 σ σ2)) 1 6 (zA z) := by
  refine mh_enter (cc := cL_tryPlay) (maxL := 3) (ret := (some .int)) (own := RL) (lv := [(0, .ref (ad_p0 0)), (1, .int p1)]) (by decide) rfl rfl (Nat.le_of_ble_eq_true rfl) rfl ?_
  intro p e s m below meth c ls hC hx hb hown hts hK hr hlocks hnm hz hM hS hl hX hex
  unfold fL_tryPlay at h
  refine lv_aload_n hx hb dL_tryPlay_0 rfl (lv_at hl 0 rfl) ?_
  refine lv_iload_n hx hb dL_tryPlay_1 rfl (lv_at hl 1 rfl) ?_
  obtain ⟨r1, hr1, h⟩ := ob_some h
  refine mx_ci (mx_runV (As := [.int p1]) (rest := []) (ci := 5) (C := RX7) (T := TX7) (N := 6) hC hX hM hS (hO_p0.at0) rfl (o_X7_play hO_p0 hlt hr1) gL_tryPlay_X7_play rfl rfl rfl rfl q_X7_play ⟨(Nat.le_of_ble_eq_true rfl), (Nat.le_of_ble_eq_true rfl)⟩ rfl rfl (Nat.le_of_ble_eq_true rfl) hl.1 dL_tryPlay_2 ⟨(Nat.le_of_ble_eq_true rfl), (Nat.le_of_ble_eq_true rfl)⟩) hS (fun E3 ce a_e4 H locs hvE hM hS hce hcv hcl => ?_) (fun r9 H locs σ1 hp2 hM hS => ?_)
  · subst hvE
    replace h := rsum_inl h
    by_cases c6 : E3 = "java/lang/IndexOutOfBoundsException"
    · replace h := it_pos c6 h
      subst c6
      refine vx_catch (name := "java/lang/IndexOutOfBoundsException") hown [] ⟨0, 5, 6, 13⟩ [⟨0, 5, 10, 38⟩] hex (fun _ h9 => by cases h9) (by decide) (by decide) (hts _ l_L_tryPlay_0) (va_Nw.use rfl (xc_O hX)) hce hcv hcl ?_
      refine W.eq (g2 := F0 m 6 ls [.ref a_e4]) rfl ?_
      refine lv_astore_n (lv' := [(2, .ref a_e4), (0, .ref (ad_p0 0)), (1, .int p1)]) hx hb dL_tryPlay_6 rfl hl (by decide) rfl (fun ls hl => ?_)
      refine lv_ldc (v := -9999001) hx hb hown (hts _ l_L_tryPlay_2) dL_tryPlay_7 ?_
      replace h := Option.some.inj h
      subst h
      exact W.iret hx hb hr (fun t ht hW => ⟨⟨_, _, rfl, ⟨rfl, hO_p0, (KEO.rf _ _)⟩, by show MW z D _ t.heap; rw [ht]; exact hM⟩, hS.F ht⟩) hS.2.2 dL_tryPlay_9 hlocks
    replace h := it_neg c6 h
    by_cases c7 : E3 = "java/lang/IllegalStateException"
    · replace h := it_pos c7 h
      subst c7
      refine vx_catch (name := "java/lang/IllegalStateException") hown [⟨0, 5, 6, 13⟩] ⟨0, 5, 10, 38⟩ [] hex (fun x9 h9 => by rw [List.mem_singleton.mp h9]; exact Or.inr ⟨(by decide), _, hts _ l_L_tryPlay_0, hX.2.2.2.2.2.2.2.1⟩) (by decide) (by decide) (hts _ l_L_tryPlay_1) (va_Nw.use rfl (xc_S hX)) hce hcv hcl ?_
      refine W.eq (g2 := F0 m 10 ls [.ref a_e4]) rfl ?_
      refine lv_astore_n (lv' := [(2, .ref a_e4), (0, .ref (ad_p0 0)), (1, .int p1)]) hx hb dL_tryPlay_10 rfl hl (by decide) rfl (fun ls hl => ?_)
      refine lv_ldc (v := -9999003) hx hb hown (hts _ l_L_tryPlay_3) dL_tryPlay_11 ?_
      replace h := Option.some.inj h
      subst h
      exact W.iret hx hb hr (fun t ht hW => ⟨⟨_, _, rfl, ⟨rfl, hO_p0, (KEO.rf _ _)⟩, by show MW z D _ t.heap; rw [ht]; exact hM⟩, hS.F ht⟩) hS.2.2 dL_tryPlay_13 hlocks
    replace h := it_neg c7 h
    cases h
  · obtain ⟨w5, hw9, hr9, hO9, hk8⟩ := hp2
    replace hr9 := hr9.symm
    subst hr9
    subst hw9
    replace h := rsum_inr h
    replace hO_p0 := hO9
    refine W.eq (g2 := F0 m 5 ls [.int w5.1]) rfl ?_
    replace h := Option.some.inj h
    subst h
    exact W.iret hx hb hr (fun t ht hW => ⟨⟨_, _, rfl, ⟨rfl, hO_p0, hk8⟩, by show MW z D _ t.heap; rw [ht]; exact hM⟩, hS.F ht⟩) hS.2.2 dL_tryPlay_5 hlocks
theorem q_L_tryPass : yL_tryPass.cls ≠ "java/lang/invoke/MethodHandle" ∧ yL_tryPass.cls ≠ "java/lang/invoke/VarHandle" ∧ (parseMethodDescriptor yL_tryPass.desc).map (fun d => d.parameters.length) = some 1 := by decide +kernel
theorem l_L_tryPass_0 : Cond.classLink RL 38 "java/lang/IllegalStateException" ∈ wsL_tryPass := (List.mem_cons_of_mem _ (List.mem_append_left _ (List.mem_append_left _ (List.mem_append_left _ (List.mem_append_left _ (List.mem_append_left _ (List.mem_of_getElem? (i := 0) rfl)))))))
theorem l_L_tryPass_1 : Cond.constant RL 40 (-9999003) ∈ wsL_tryPass := (List.mem_cons_of_mem _ (List.mem_append_left _ (List.mem_append_left _ (List.mem_append_left _ (List.mem_append_left _ (List.mem_append_left _ (List.mem_of_getElem? (i := 1) rfl)))))))
def fL_tryPass (s_p0 : OSt) : Option (Int32 × OSt) := (aPass s_p0).bind fun r1 => rsum r1 (fun E3 => if E3 = "java/lang/IllegalStateException" then (some (((-9999003) : Int32), s_p0)) else (none)) (fun w5 => some (w5.1, w5.2))
set_option maxHeartbeats 8000000 in
set_option maxRecDepth 100000 in
theorem c_L_tryPass {l : Launch} {z : Nat} {D : va_G} {K : Nat → ClassId} {σ : mwm} {ad_p0 : Nat → Nat} {s_p0 : OSt} (hO_p0 : OB K ad_p0 σ s_p0) (hlt : l.stackTraces = false) {v : Int32 × OSt} (h : fL_tryPass s_p0 = some v) : Met l yL_tryPass wsL_tryPass ({ frames := 7, cells := 1, slots := 6, locals := 119 } : Room) (PCx z D K [.ref (ad_p0 0)] σ) (qwI z D (fun r σ2 => r = v.1 ∧ OB K ad_p0 σ2 v.2 ∧ KEO ad_p0 σ σ2)) 1 6 (zA z) := by
  refine mh_enter (cc := cL_tryPass) (maxL := 2) (ret := (some .int)) (own := RL) (lv := [(0, .ref (ad_p0 0))]) (by decide) rfl rfl (Nat.le_of_ble_eq_true rfl) rfl ?_
  intro p e s m below meth c ls hC hx hb hown hts hK hr hlocks hnm hz hM hS hl hX hex
  unfold fL_tryPass at h
  refine lv_aload_n hx hb dL_tryPass_0 rfl (lv_at hl 0 rfl) ?_
  obtain ⟨r1, hr1, h⟩ := ob_some h
  refine mx_ci (mx_runV (As := []) (rest := []) (ci := 5) (C := RX7) (T := TX7) (N := 6) hC hX hM hS (hO_p0.at0) rfl (o_X7_pass hO_p0 hlt hr1) gL_tryPass_X7_pass rfl rfl rfl rfl q_X7_pass ⟨(Nat.le_of_ble_eq_true rfl), (Nat.le_of_ble_eq_true rfl)⟩ rfl rfl (Nat.le_of_ble_eq_true rfl) hl.1 dL_tryPass_1 ⟨(Nat.le_of_ble_eq_true rfl), (Nat.le_of_ble_eq_true rfl)⟩) hS (fun E3 ce a_e4 H locs hvE hM hS hce hcv hcl => ?_) (fun r9 H locs σ1 hp2 hM hS => ?_)
  · subst hvE
    replace h := rsum_inl h
    by_cases c6 : E3 = "java/lang/IllegalStateException"
    · replace h := it_pos c6 h
      subst c6
      refine vx_catch (name := "java/lang/IllegalStateException") hown [] ⟨0, 4, 5, 38⟩ [] hex (fun _ h9 => by cases h9) (by decide) (by decide) (hts _ l_L_tryPass_0) (va_Nw.use rfl (xc_S hX)) hce hcv hcl ?_
      refine W.eq (g2 := F0 m 5 ls [.ref a_e4]) rfl ?_
      refine lv_astore_n (lv' := [(1, .ref a_e4), (0, .ref (ad_p0 0))]) hx hb dL_tryPass_5 rfl hl (by decide) rfl (fun ls hl => ?_)
      refine lv_ldc (v := -9999003) hx hb hown (hts _ l_L_tryPass_1) dL_tryPass_6 ?_
      replace h := Option.some.inj h
      subst h
      exact W.iret hx hb hr (fun t ht hW => ⟨⟨_, _, rfl, ⟨rfl, hO_p0, (KEO.rf _ _)⟩, by show MW z D _ t.heap; rw [ht]; exact hM⟩, hS.F ht⟩) hS.2.2 dL_tryPass_8 hlocks
    replace h := it_neg c6 h
    cases h
  · obtain ⟨w5, hw9, hr9, hO9, hk7⟩ := hp2
    replace hr9 := hr9.symm
    subst hr9
    subst hw9
    replace h := rsum_inr h
    replace hO_p0 := hO9
    refine W.eq (g2 := F0 m 4 ls [.int w5.1]) rfl ?_
    replace h := Option.some.inj h
    subst h
    exact W.iret hx hb hr (fun t ht hW => ⟨⟨_, _, rfl, ⟨rfl, hO_p0, hk7⟩, by show MW z D _ t.heap; rw [ht]; exact hM⟩, hS.F ht⟩) hS.2.2 dL_tryPass_4 hlocks
theorem q_L_tryLay : yL_tryLay.cls ≠ "java/lang/invoke/MethodHandle" ∧ yL_tryLay.cls ≠ "java/lang/invoke/VarHandle" ∧ (parseMethodDescriptor yL_tryLay.desc).map (fun d => d.parameters.length) = some 2 := by decide +kernel
theorem l_L_tryLay_0 : Cond.classLink RL 21 "java/lang/IllegalArgumentException" ∈ wsL_tryLay := (List.mem_cons_of_mem _ (List.mem_append_left _ (List.mem_append_left _ (List.mem_append_left _ (List.mem_append_left _ (List.mem_append_left _ (List.mem_of_getElem? (i := 0) rfl)))))))
theorem l_L_tryLay_1 : Cond.constant RL 29 (-9999002) ∈ wsL_tryLay := (List.mem_cons_of_mem _ (List.mem_append_left _ (List.mem_append_left _ (List.mem_append_left _ (List.mem_append_left _ (List.mem_append_left _ (List.mem_of_getElem? (i := 1) rfl)))))))
def fL_tryLay (s_p0 : OSt) (p1 : Int32) : Option (Int32 × OSt) := (aSet s_p0 p1).bind fun r1 => rsum r1 (fun E3 => if E3 = "java/lang/IllegalArgumentException" then (some (((-9999002) : Int32), s_p0)) else (none)) (fun w5 => some (w5.1, w5.2))
set_option maxHeartbeats 8000000 in
set_option maxRecDepth 100000 in
theorem c_L_tryLay {l : Launch} {z : Nat} {D : va_G} {K : Nat → ClassId} {σ : mwm} {ad_p0 : Nat → Nat} {s_p0 : OSt} {p1 : Int32} (hO_p0 : OB K ad_p0 σ s_p0) (hlt : l.stackTraces = false) {v : Int32 × OSt} (h : fL_tryLay s_p0 p1 = some v) : Met l yL_tryLay wsL_tryLay ({ frames := 7, cells := 1, slots := 6, locals := 121 } : Room) (PCx z D K [.ref (ad_p0 0), .int p1] σ) (qwI z D (fun r σ2 => r = v.1 ∧ OB K ad_p0 σ2 v.2 ∧ KEO ad_p0 σ σ2)) 1 6 (zA z) := by
  refine mh_enter (cc := cL_tryLay) (maxL := 3) (ret := (some .int)) (own := RL) (lv := [(0, .ref (ad_p0 0)), (1, .int p1)]) (by decide) rfl rfl (Nat.le_of_ble_eq_true rfl) rfl ?_
  intro p e s m below meth c ls hC hx hb hown hts hK hr hlocks hnm hz hM hS hl hX hex
  unfold fL_tryLay at h
  refine lv_aload_n hx hb dL_tryLay_0 rfl (lv_at hl 0 rfl) ?_
  refine lv_iload_n hx hb dL_tryLay_1 rfl (lv_at hl 1 rfl) ?_
  obtain ⟨r1, hr1, h⟩ := ob_some h
  refine mx_ci (mx_runV (As := [.int p1]) (rest := []) (ci := 5) (C := RX7) (T := TX7) (N := 6) hC hX hM hS (hO_p0.at0) rfl (o_X7_set hO_p0 hlt hr1) gL_tryLay_X7_set rfl rfl rfl rfl q_X7_set ⟨(Nat.le_of_ble_eq_true rfl), (Nat.le_of_ble_eq_true rfl)⟩ rfl rfl (Nat.le_of_ble_eq_true rfl) hl.1 dL_tryLay_2 ⟨(Nat.le_of_ble_eq_true rfl), (Nat.le_of_ble_eq_true rfl)⟩) hS (fun E3 ce a_e4 H locs hvE hM hS hce hcv hcl => ?_) (fun r9 H locs σ1 hp2 hM hS => ?_)
  · subst hvE
    replace h := rsum_inl h
    by_cases c6 : E3 = "java/lang/IllegalArgumentException"
    · replace h := it_pos c6 h
      subst c6
      refine vx_catch (name := "java/lang/IllegalArgumentException") hown [] ⟨0, 5, 6, 21⟩ [] hex (fun _ h9 => by cases h9) (by decide) (by decide) (hts _ l_L_tryLay_0) (va_Nw.use rfl (xc_A hX)) hce hcv hcl ?_
      refine W.eq (g2 := F0 m 6 ls [.ref a_e4]) rfl ?_
      refine lv_astore_n (lv' := [(2, .ref a_e4), (0, .ref (ad_p0 0)), (1, .int p1)]) hx hb dL_tryLay_6 rfl hl (by decide) rfl (fun ls hl => ?_)
      refine lv_ldc (v := -9999002) hx hb hown (hts _ l_L_tryLay_1) dL_tryLay_7 ?_
      replace h := Option.some.inj h
      subst h
      exact W.iret hx hb hr (fun t ht hW => ⟨⟨_, _, rfl, ⟨rfl, hO_p0, (KEO.rf _ _)⟩, by show MW z D _ t.heap; rw [ht]; exact hM⟩, hS.F ht⟩) hS.2.2 dL_tryLay_9 hlocks
    replace h := it_neg c6 h
    cases h
  · obtain ⟨w5, hw9, hr9, hO9, hk7⟩ := hp2
    replace hr9 := hr9.symm
    subst hr9
    subst hw9
    replace h := rsum_inr h
    replace hO_p0 := hO9
    refine W.eq (g2 := F0 m 5 ls [.int w5.1]) rfl ?_
    replace h := Option.some.inj h
    subst h
    exact W.iret hx hb hr (fun t ht hW => ⟨⟨_, _, rfl, ⟨rfl, hO_p0, hk7⟩, by show MW z D _ t.heap; rw [ht]; exact hM⟩, hS.F ht⟩) hS.2.2 dL_tryLay_5 hlocks
theorem q_L_tryUndo : yL_tryUndo.cls ≠ "java/lang/invoke/MethodHandle" ∧ yL_tryUndo.cls ≠ "java/lang/invoke/VarHandle" ∧ (parseMethodDescriptor yL_tryUndo.desc).map (fun d => d.parameters.length) = some 1 := by decide +kernel
theorem l_L_tryUndo_0 : Cond.classLink RL 38 "java/lang/IllegalStateException" ∈ wsL_tryUndo := (List.mem_cons_of_mem _ (List.mem_append_left _ (List.mem_append_left _ (List.mem_append_left _ (List.mem_append_left _ (List.mem_append_left _ (List.mem_of_getElem? (i := 0) rfl)))))))
theorem l_L_tryUndo_1 : Cond.constant RL 40 (-9999003) ∈ wsL_tryUndo := (List.mem_cons_of_mem _ (List.mem_append_left _ (List.mem_append_left _ (List.mem_append_left _ (List.mem_append_left _ (List.mem_append_left _ (List.mem_of_getElem? (i := 1) rfl)))))))
def fL_tryUndo (s_p0 : OSt) : Option (Int32 × OSt) := (aUndo s_p0).bind fun r1 => rsum r1 (fun E3 => if E3 = "java/lang/IllegalStateException" then (some (((-9999003) : Int32), s_p0)) else (none)) (fun w5 => some (w5.1, w5.2))
set_option maxHeartbeats 8000000 in
set_option maxRecDepth 100000 in
theorem c_L_tryUndo {l : Launch} {z : Nat} {D : va_G} {K : Nat → ClassId} {σ : mwm} {ad_p0 : Nat → Nat} {s_p0 : OSt} (hO_p0 : OB K ad_p0 σ s_p0) (hlt : l.stackTraces = false) {v : Int32 × OSt} (h : fL_tryUndo s_p0 = some v) : Met l yL_tryUndo wsL_tryUndo ({ frames := 7, cells := 1, slots := 6, locals := 119 } : Room) (PCx z D K [.ref (ad_p0 0)] σ) (qwI z D (fun r σ2 => r = v.1 ∧ OB K ad_p0 σ2 v.2 ∧ KEO ad_p0 σ σ2)) 1 6 (zA z) := by
  refine mh_enter (cc := cL_tryUndo) (maxL := 2) (ret := (some .int)) (own := RL) (lv := [(0, .ref (ad_p0 0))]) (by decide) rfl rfl (Nat.le_of_ble_eq_true rfl) rfl ?_
  intro p e s m below meth c ls hC hx hb hown hts hK hr hlocks hnm hz hM hS hl hX hex
  unfold fL_tryUndo at h
  refine lv_aload_n hx hb dL_tryUndo_0 rfl (lv_at hl 0 rfl) ?_
  obtain ⟨r1, hr1, h⟩ := ob_some h
  refine mx_ci (mx_runV (As := []) (rest := []) (ci := 5) (C := RX7) (T := TX7) (N := 6) hC hX hM hS (hO_p0.at0) rfl (o_X7_undo hO_p0 hlt hr1) gL_tryUndo_X7_undo rfl rfl rfl rfl q_X7_undo ⟨(Nat.le_of_ble_eq_true rfl), (Nat.le_of_ble_eq_true rfl)⟩ rfl rfl (Nat.le_of_ble_eq_true rfl) hl.1 dL_tryUndo_1 ⟨(Nat.le_of_ble_eq_true rfl), (Nat.le_of_ble_eq_true rfl)⟩) hS (fun E3 ce a_e4 H locs hvE hM hS hce hcv hcl => ?_) (fun r9 H locs σ1 hp2 hM hS => ?_)
  · subst hvE
    replace h := rsum_inl h
    by_cases c6 : E3 = "java/lang/IllegalStateException"
    · replace h := it_pos c6 h
      subst c6
      refine vx_catch (name := "java/lang/IllegalStateException") hown [] ⟨0, 4, 5, 38⟩ [] hex (fun _ h9 => by cases h9) (by decide) (by decide) (hts _ l_L_tryUndo_0) (va_Nw.use rfl (xc_S hX)) hce hcv hcl ?_
      refine W.eq (g2 := F0 m 5 ls [.ref a_e4]) rfl ?_
      refine lv_astore_n (lv' := [(1, .ref a_e4), (0, .ref (ad_p0 0))]) hx hb dL_tryUndo_5 rfl hl (by decide) rfl (fun ls hl => ?_)
      refine lv_ldc (v := -9999003) hx hb hown (hts _ l_L_tryUndo_1) dL_tryUndo_6 ?_
      replace h := Option.some.inj h
      subst h
      exact W.iret hx hb hr (fun t ht hW => ⟨⟨_, _, rfl, ⟨rfl, hO_p0, (KEO.rf _ _)⟩, by show MW z D _ t.heap; rw [ht]; exact hM⟩, hS.F ht⟩) hS.2.2 dL_tryUndo_8 hlocks
    replace h := it_neg c6 h
    cases h
  · obtain ⟨w5, hw9, hr9, hO9, hk7⟩ := hp2
    replace hr9 := hr9.symm
    subst hr9
    subst hw9
    replace h := rsum_inr h
    replace hO_p0 := hO9
    refine W.eq (g2 := F0 m 4 ls [.int w5.1]) rfl ?_
    replace h := Option.some.inj h
    subst h
    exact W.iret hx hb hr (fun t ht hW => ⟨⟨_, _, rfl, ⟨rfl, hO_p0, hk7⟩, by show MW z D _ t.heap; rw [ht]; exact hM⟩, hS.F ht⟩) hS.2.2 dL_tryUndo_4 hlocks
theorem q_L_tryIf : yL_tryIf.cls ≠ "java/lang/invoke/MethodHandle" ∧ yL_tryIf.cls ≠ "java/lang/invoke/VarHandle" ∧ (parseMethodDescriptor yL_tryIf.desc).map (fun d => d.parameters.length) = some 3 := by decide +kernel
theorem l_L_tryIf_0 : Cond.classLink RL 13 "java/lang/IndexOutOfBoundsException" ∈ wsL_tryIf := (List.mem_cons_of_mem _ (List.mem_append_left _ (List.mem_append_left _ (List.mem_append_left _ (List.mem_append_left _ (List.mem_append_left _ (List.mem_append_left _ (List.mem_of_getElem? (i := 0) rfl))))))))
theorem l_L_tryIf_1 : Cond.classLink RL 21 "java/lang/IllegalArgumentException" ∈ wsL_tryIf := (List.mem_cons_of_mem _ (List.mem_append_left _ (List.mem_append_left _ (List.mem_append_left _ (List.mem_append_left _ (List.mem_append_left _ (List.mem_append_left _ (List.mem_of_getElem? (i := 1) rfl))))))))
theorem l_L_tryIf_2 : Cond.constant RL 52 (-9999001) ∈ wsL_tryIf := (List.mem_cons_of_mem _ (List.mem_append_left _ (List.mem_append_left _ (List.mem_append_left _ (List.mem_append_left _ (List.mem_append_left _ (List.mem_append_left _ (List.mem_of_getElem? (i := 2) rfl))))))))
theorem l_L_tryIf_3 : Cond.constant RL 29 (-9999002) ∈ wsL_tryIf := (List.mem_cons_of_mem _ (List.mem_append_left _ (List.mem_append_left _ (List.mem_append_left _ (List.mem_append_left _ (List.mem_append_left _ (List.mem_append_left _ (List.mem_of_getElem? (i := 3) rfl))))))))
def fL_tryIf (s_p0 : OSt) (p1 : Int32) (p2 : Int32) : Option (Int32) := (aIfPlayed s_p0 p1 p2).bind fun r1 => rsum r1 (fun E3 => if E3 = "java/lang/IndexOutOfBoundsException" then (some ((-9999001) : Int32)) else (if E3 = "java/lang/IllegalArgumentException" then (some ((-9999002) : Int32)) else (none))) (fun w5 => some w5)
set_option maxHeartbeats 8000000 in
set_option maxRecDepth 100000 in
theorem c_L_tryIf {l : Launch} {z : Nat} {D : va_G} {K : Nat → ClassId} {σ : mwm} {ad_p0 : Nat → Nat} {s_p0 : OSt} {p1 : Int32} {p2 : Int32} (hO_p0 : OB K ad_p0 σ s_p0) (hlt : l.stackTraces = false) {v : Int32} (h : fL_tryIf s_p0 p1 p2 = some v) : Met l yL_tryIf wsL_tryIf ({ frames := 7, cells := 1, slots := 6, locals := 159 } : Room) (PCx z D K [.ref (ad_p0 0), .int p1, .int p2] σ) (qwI z D (fun r σ2 => r = v ∧ OB K ad_p0 σ2 s_p0 ∧ KEO ad_p0 σ σ2)) 1 6 (zA z) := by
  refine mh_enter (cc := cL_tryIf) (maxL := 4) (ret := (some .int)) (own := RL) (lv := [(0, .ref (ad_p0 0)), (1, .int p1), (2, .int p2)]) (by decide) rfl rfl (Nat.le_of_ble_eq_true rfl) rfl ?_
  intro p e s m below meth c ls hC hx hb hown hts hK hr hlocks hnm hz hM hS hl hX hex
  unfold fL_tryIf at h
  refine lv_aload_n hx hb dL_tryIf_0 rfl (lv_at hl 0 rfl) ?_
  refine lv_iload_n hx hb dL_tryIf_1 rfl (lv_at hl 1 rfl) ?_
  refine lv_iload_n hx hb dL_tryIf_2 rfl (lv_at hl 2 rfl) ?_
  obtain ⟨r1, hr1, h⟩ := ob_some h
  refine mx_ci (mx_runV (As := [.int p1, .int p2]) (rest := []) (ci := 5) (C := RX7) (T := TX7) (N := 6) hC hX hM hS (hO_p0.at0) rfl (o_X7_ifPlayed hO_p0 hlt hr1) gL_tryIf_X7_ifPlayed rfl rfl rfl rfl q_X7_ifPlayed ⟨(Nat.le_of_ble_eq_true rfl), (Nat.le_of_ble_eq_true rfl)⟩ rfl rfl (Nat.le_of_ble_eq_true rfl) hl.1 dL_tryIf_3 ⟨(Nat.le_of_ble_eq_true rfl), (Nat.le_of_ble_eq_true rfl)⟩) hS (fun E3 ce a_e4 H locs hvE hM hS hce hcv hcl => ?_) (fun r9 H locs σ1 hp2 hM hS => ?_)
  · subst hvE
    replace h := rsum_inl h
    by_cases c6 : E3 = "java/lang/IndexOutOfBoundsException"
    · replace h := it_pos c6 h
      subst c6
      refine vx_catch (name := "java/lang/IndexOutOfBoundsException") hown [] ⟨0, 6, 7, 13⟩ [⟨0, 6, 11, 21⟩] hex (fun _ h9 => by cases h9) (by decide) (by decide) (hts _ l_L_tryIf_0) (va_Nw.use rfl (xc_O hX)) hce hcv hcl ?_
      refine W.eq (g2 := F0 m 7 ls [.ref a_e4]) rfl ?_
      refine lv_astore_n (lv' := [(3, .ref a_e4), (0, .ref (ad_p0 0)), (1, .int p1), (2, .int p2)]) hx hb dL_tryIf_7 rfl hl (by decide) rfl (fun ls hl => ?_)
      refine lv_ldc (v := -9999001) hx hb hown (hts _ l_L_tryIf_2) dL_tryIf_8 ?_
      replace h := Option.some.inj h
      subst h
      exact W.iret hx hb hr (fun t ht hW => ⟨⟨_, _, rfl, ⟨rfl, hO_p0, (KEO.rf _ _)⟩, by show MW z D _ t.heap; rw [ht]; exact hM⟩, hS.F ht⟩) hS.2.2 dL_tryIf_10 hlocks
    replace h := it_neg c6 h
    by_cases c7 : E3 = "java/lang/IllegalArgumentException"
    · replace h := it_pos c7 h
      subst c7
      refine vx_catch (name := "java/lang/IllegalArgumentException") hown [⟨0, 6, 7, 13⟩] ⟨0, 6, 11, 21⟩ [] hex (fun x9 h9 => by rw [List.mem_singleton.mp h9]; exact Or.inr ⟨(by decide), _, hts _ l_L_tryIf_0, hX.2.2.2.2.2.1⟩) (by decide) (by decide) (hts _ l_L_tryIf_1) (va_Nw.use rfl (xc_A hX)) hce hcv hcl ?_
      refine W.eq (g2 := F0 m 11 ls [.ref a_e4]) rfl ?_
      refine lv_astore_n (lv' := [(3, .ref a_e4), (0, .ref (ad_p0 0)), (1, .int p1), (2, .int p2)]) hx hb dL_tryIf_11 rfl hl (by decide) rfl (fun ls hl => ?_)
      refine lv_ldc (v := -9999002) hx hb hown (hts _ l_L_tryIf_3) dL_tryIf_12 ?_
      replace h := Option.some.inj h
      subst h
      exact W.iret hx hb hr (fun t ht hW => ⟨⟨_, _, rfl, ⟨rfl, hO_p0, (KEO.rf _ _)⟩, by show MW z D _ t.heap; rw [ht]; exact hM⟩, hS.F ht⟩) hS.2.2 dL_tryIf_14 hlocks
    replace h := it_neg c7 h
    cases h
  · obtain ⟨w5, hw9, hr9, hO9, hk8⟩ := hp2
    replace hr9 := hr9.symm
    subst hr9
    subst hw9
    replace h := rsum_inr h
    replace hO_p0 := hO9
    refine W.eq (g2 := F0 m 6 ls [.int w5]) rfl ?_
    replace h := Option.some.inj h
    subst h
    exact W.iret hx hb hr (fun t ht hW => ⟨⟨_, _, rfl, ⟨rfl, hO_p0, hk8⟩, by show MW z D _ t.heap; rw [ht]; exact hM⟩, hS.F ht⟩) hS.2.2 dL_tryIf_6 hlocks
theorem q_L_tryLadder : yL_tryLadder.cls ≠ "java/lang/invoke/MethodHandle" ∧ yL_tryLadder.cls ≠ "java/lang/invoke/VarHandle" ∧ (parseMethodDescriptor yL_tryLadder.desc).map (fun d => d.parameters.length) = some 3 := by decide +kernel
theorem l_L_tryLadder_0 : Cond.classLink RL 13 "java/lang/IndexOutOfBoundsException" ∈ wsL_tryLadder := (List.mem_cons_of_mem _ (List.mem_append_left _ (List.mem_append_left _ (List.mem_append_left _ (List.mem_append_left _ (List.mem_append_left _ (List.mem_append_left _ (List.mem_of_getElem? (i := 0) rfl))))))))
theorem l_L_tryLadder_1 : Cond.classLink RL 21 "java/lang/IllegalArgumentException" ∈ wsL_tryLadder := (List.mem_cons_of_mem _ (List.mem_append_left _ (List.mem_append_left _ (List.mem_append_left _ (List.mem_append_left _ (List.mem_append_left _ (List.mem_append_left _ (List.mem_of_getElem? (i := 1) rfl))))))))
theorem l_L_tryLadder_2 : Cond.constant RL 52 (-9999001) ∈ wsL_tryLadder := (List.mem_cons_of_mem _ (List.mem_append_left _ (List.mem_append_left _ (List.mem_append_left _ (List.mem_append_left _ (List.mem_append_left _ (List.mem_append_left _ (List.mem_of_getElem? (i := 2) rfl))))))))
theorem l_L_tryLadder_3 : Cond.constant RL 29 (-9999002) ∈ wsL_tryLadder := (List.mem_cons_of_mem _ (List.mem_append_left _ (List.mem_append_left _ (List.mem_append_left _ (List.mem_append_left _ (List.mem_append_left _ (List.mem_append_left _ (List.mem_of_getElem? (i := 3) rfl))))))))
def fL_tryLadder (s_p0 : OSt) (p1 : Int32) (p2 : Int32) : Option (Int32) := (aLadder s_p0 p1 p2).bind fun r1 => rsum r1 (fun E3 => if E3 = "java/lang/IndexOutOfBoundsException" then (some ((-9999001) : Int32)) else (if E3 = "java/lang/IllegalArgumentException" then (some ((-9999002) : Int32)) else (none))) (fun w5 => some w5)
set_option maxHeartbeats 8000000 in
set_option maxRecDepth 100000 in
theorem c_L_tryLadder {l : Launch} {z : Nat} {D : va_G} {K : Nat → ClassId} {σ : mwm} {ad_p0 : Nat → Nat} {s_p0 : OSt} {p1 : Int32} {p2 : Int32} (hO_p0 : OB K ad_p0 σ s_p0) (hlt : l.stackTraces = false) {v : Int32} (h : fL_tryLadder s_p0 p1 p2 = some v) : Met l yL_tryLadder wsL_tryLadder ({ frames := 72, cells := 1, slots := 6, locals := 3060 } : Room) (PCx z D K [.ref (ad_p0 0), .int p1, .int p2] σ) (qwI z D (fun r σ2 => r = v ∧ OB K ad_p0 σ2 s_p0 ∧ KEO ad_p0 σ σ2)) 1 6 (zA z) := by
  refine mh_enter (cc := cL_tryLadder) (maxL := 4) (ret := (some .int)) (own := RL) (lv := [(0, .ref (ad_p0 0)), (1, .int p1), (2, .int p2)]) (by decide) rfl rfl (Nat.le_of_ble_eq_true rfl) rfl ?_
  intro p e s m below meth c ls hC hx hb hown hts hK hr hlocks hnm hz hM hS hl hX hex
  unfold fL_tryLadder at h
  refine lv_aload_n hx hb dL_tryLadder_0 rfl (lv_at hl 0 rfl) ?_
  refine lv_iload_n hx hb dL_tryLadder_1 rfl (lv_at hl 1 rfl) ?_
  refine lv_iload_n hx hb dL_tryLadder_2 rfl (lv_at hl 2 rfl) ?_
  obtain ⟨r1, hr1, h⟩ := ob_some h
  refine mx_ci (mx_runV (As := [.int p1, .int p2]) (rest := []) (ci := 5) (C := RX7) (T := TX7) (N := 6) hC hX hM hS (hO_p0.at0) rfl (o_X7_ladder hO_p0 hlt hr1) gL_tryLadder_X7_ladder rfl rfl rfl rfl q_X7_ladder ⟨(Nat.le_of_ble_eq_true rfl), (Nat.le_of_ble_eq_true rfl)⟩ rfl rfl (Nat.le_of_ble_eq_true rfl) hl.1 dL_tryLadder_3 ⟨(Nat.le_of_ble_eq_true rfl), (Nat.le_of_ble_eq_true rfl)⟩) hS (fun E3 ce a_e4 H locs hvE hM hS hce hcv hcl => ?_) (fun r9 H locs σ1 hp2 hM hS => ?_)
  · subst hvE
    replace h := rsum_inl h
    by_cases c6 : E3 = "java/lang/IndexOutOfBoundsException"
    · replace h := it_pos c6 h
      subst c6
      refine vx_catch (name := "java/lang/IndexOutOfBoundsException") hown [] ⟨0, 6, 7, 13⟩ [⟨0, 6, 11, 21⟩] hex (fun _ h9 => by cases h9) (by decide) (by decide) (hts _ l_L_tryLadder_0) (va_Nw.use rfl (xc_O hX)) hce hcv hcl ?_
      refine W.eq (g2 := F0 m 7 ls [.ref a_e4]) rfl ?_
      refine lv_astore_n (lv' := [(3, .ref a_e4), (0, .ref (ad_p0 0)), (1, .int p1), (2, .int p2)]) hx hb dL_tryLadder_7 rfl hl (by decide) rfl (fun ls hl => ?_)
      refine lv_ldc (v := -9999001) hx hb hown (hts _ l_L_tryLadder_2) dL_tryLadder_8 ?_
      replace h := Option.some.inj h
      subst h
      exact W.iret hx hb hr (fun t ht hW => ⟨⟨_, _, rfl, ⟨rfl, hO_p0, (KEO.rf _ _)⟩, by show MW z D _ t.heap; rw [ht]; exact hM⟩, hS.F ht⟩) hS.2.2 dL_tryLadder_10 hlocks
    replace h := it_neg c6 h
    by_cases c7 : E3 = "java/lang/IllegalArgumentException"
    · replace h := it_pos c7 h
      subst c7
      refine vx_catch (name := "java/lang/IllegalArgumentException") hown [⟨0, 6, 7, 13⟩] ⟨0, 6, 11, 21⟩ [] hex (fun x9 h9 => by rw [List.mem_singleton.mp h9]; exact Or.inr ⟨(by decide), _, hts _ l_L_tryLadder_0, hX.2.2.2.2.2.1⟩) (by decide) (by decide) (hts _ l_L_tryLadder_1) (va_Nw.use rfl (xc_A hX)) hce hcv hcl ?_
      refine W.eq (g2 := F0 m 11 ls [.ref a_e4]) rfl ?_
      refine lv_astore_n (lv' := [(3, .ref a_e4), (0, .ref (ad_p0 0)), (1, .int p1), (2, .int p2)]) hx hb dL_tryLadder_11 rfl hl (by decide) rfl (fun ls hl => ?_)
      refine lv_ldc (v := -9999002) hx hb hown (hts _ l_L_tryLadder_3) dL_tryLadder_12 ?_
      replace h := Option.some.inj h
      subst h
      exact W.iret hx hb hr (fun t ht hW => ⟨⟨_, _, rfl, ⟨rfl, hO_p0, (KEO.rf _ _)⟩, by show MW z D _ t.heap; rw [ht]; exact hM⟩, hS.F ht⟩) hS.2.2 dL_tryLadder_14 hlocks
    replace h := it_neg c7 h
    cases h
  · obtain ⟨w5, hw9, hr9, hO9, hk8⟩ := hp2
    replace hr9 := hr9.symm
    subst hr9
    subst hw9
    replace h := rsum_inr h
    replace hO_p0 := hO9
    refine W.eq (g2 := F0 m 6 ls [.int w5]) rfl ?_
    replace h := Option.some.inj h
    subst h
    exact W.iret hx hb hr (fun t ht hW => ⟨⟨_, _, rfl, ⟨rfl, hO_p0, hk8⟩, by show MW z D _ t.heap; rw [ht]; exact hM⟩, hS.F ht⟩) hS.2.2 dL_tryLadder_6 hlocks
theorem q_L_tryChase : yL_tryChase.cls ≠ "java/lang/invoke/MethodHandle" ∧ yL_tryChase.cls ≠ "java/lang/invoke/VarHandle" ∧ (parseMethodDescriptor yL_tryChase.desc).map (fun d => d.parameters.length) = some 2 := by decide +kernel
theorem l_L_tryChase_0 : Cond.classLink RL 13 "java/lang/IndexOutOfBoundsException" ∈ wsL_tryChase := (List.mem_cons_of_mem _ (List.mem_append_left _ (List.mem_append_left _ (List.mem_append_left _ (List.mem_append_left _ (List.mem_append_left _ (List.mem_of_getElem? (i := 0) rfl)))))))
theorem l_L_tryChase_1 : Cond.constant RL 52 (-9999001) ∈ wsL_tryChase := (List.mem_cons_of_mem _ (List.mem_append_left _ (List.mem_append_left _ (List.mem_append_left _ (List.mem_append_left _ (List.mem_append_left _ (List.mem_of_getElem? (i := 1) rfl)))))))
def fL_tryChase (s_p0 : OSt) (p1 : Int32) : Option (Int32) := (aChase s_p0 p1).bind fun r1 => rsum r1 (fun E3 => if E3 = "java/lang/IndexOutOfBoundsException" then (some ((-9999001) : Int32)) else (none)) (fun w5 => some w5)
set_option maxHeartbeats 8000000 in
set_option maxRecDepth 100000 in
theorem c_L_tryChase {l : Launch} {z : Nat} {D : va_G} {K : Nat → ClassId} {σ : mwm} {ad_p0 : Nat → Nat} {s_p0 : OSt} {p1 : Int32} (hO_p0 : OB K ad_p0 σ s_p0) (hlt : l.stackTraces = false) {v : Int32} (h : fL_tryChase s_p0 p1 = some v) : Met l yL_tryChase wsL_tryChase ({ frames := 72, cells := 1, slots := 6, locals := 3060 } : Room) (PCx z D K [.ref (ad_p0 0), .int p1] σ) (qwI z D (fun r σ2 => r = v ∧ OB K ad_p0 σ2 s_p0 ∧ KEO ad_p0 σ σ2)) 1 6 (zA z) := by
  refine mh_enter (cc := cL_tryChase) (maxL := 3) (ret := (some .int)) (own := RL) (lv := [(0, .ref (ad_p0 0)), (1, .int p1)]) (by decide) rfl rfl (Nat.le_of_ble_eq_true rfl) rfl ?_
  intro p e s m below meth c ls hC hx hb hown hts hK hr hlocks hnm hz hM hS hl hX hex
  unfold fL_tryChase at h
  refine lv_aload_n hx hb dL_tryChase_0 rfl (lv_at hl 0 rfl) ?_
  refine lv_iload_n hx hb dL_tryChase_1 rfl (lv_at hl 1 rfl) ?_
  obtain ⟨r1, hr1, h⟩ := ob_some h
  refine mx_ci (mx_runV (As := [.int p1]) (rest := []) (ci := 5) (C := RX7) (T := TX7) (N := 6) hC hX hM hS (hO_p0.at0) rfl (o_X7_chase hO_p0 hlt hr1) gL_tryChase_X7_chase rfl rfl rfl rfl q_X7_chase ⟨(Nat.le_of_ble_eq_true rfl), (Nat.le_of_ble_eq_true rfl)⟩ rfl rfl (Nat.le_of_ble_eq_true rfl) hl.1 dL_tryChase_2 ⟨(Nat.le_of_ble_eq_true rfl), (Nat.le_of_ble_eq_true rfl)⟩) hS (fun E3 ce a_e4 H locs hvE hM hS hce hcv hcl => ?_) (fun r9 H locs σ1 hp2 hM hS => ?_)
  · subst hvE
    replace h := rsum_inl h
    by_cases c6 : E3 = "java/lang/IndexOutOfBoundsException"
    · replace h := it_pos c6 h
      subst c6
      refine vx_catch (name := "java/lang/IndexOutOfBoundsException") hown [] ⟨0, 5, 6, 13⟩ [] hex (fun _ h9 => by cases h9) (by decide) (by decide) (hts _ l_L_tryChase_0) (va_Nw.use rfl (xc_O hX)) hce hcv hcl ?_
      refine W.eq (g2 := F0 m 6 ls [.ref a_e4]) rfl ?_
      refine lv_astore_n (lv' := [(2, .ref a_e4), (0, .ref (ad_p0 0)), (1, .int p1)]) hx hb dL_tryChase_6 rfl hl (by decide) rfl (fun ls hl => ?_)
      refine lv_ldc (v := -9999001) hx hb hown (hts _ l_L_tryChase_1) dL_tryChase_7 ?_
      replace h := Option.some.inj h
      subst h
      exact W.iret hx hb hr (fun t ht hW => ⟨⟨_, _, rfl, ⟨rfl, hO_p0, (KEO.rf _ _)⟩, by show MW z D _ t.heap; rw [ht]; exact hM⟩, hS.F ht⟩) hS.2.2 dL_tryChase_9 hlocks
    replace h := it_neg c6 h
    cases h
  · obtain ⟨w5, hw9, hr9, hO9, hk7⟩ := hp2
    replace hr9 := hr9.symm
    subst hr9
    subst hw9
    replace h := rsum_inr h
    replace hO_p0 := hO9
    refine W.eq (g2 := F0 m 5 ls [.int w5]) rfl ?_
    replace h := Option.some.inj h
    subst h
    exact W.iret hx hb hr (fun t ht hW => ⟨⟨_, _, rfl, ⟨rfl, hO_p0, hk7⟩, by show MW z D _ t.heap; rw [ht]; exact hM⟩, hS.F ht⟩) hS.2.2 dL_tryChase_5 hlocks
theorem q_L_tryKeep : yL_tryKeep.cls ≠ "java/lang/invoke/MethodHandle" ∧ yL_tryKeep.cls ≠ "java/lang/invoke/VarHandle" ∧ (parseMethodDescriptor yL_tryKeep.desc).map (fun d => d.parameters.length) = some 2 := by decide +kernel
theorem l_L_tryKeep_0 : Cond.classLink RL 13 "java/lang/IndexOutOfBoundsException" ∈ wsL_tryKeep := (List.mem_cons_of_mem _ (List.mem_append_left _ (List.mem_append_left _ (List.mem_append_left _ (List.mem_append_left _ (List.mem_append_left _ (List.mem_of_getElem? (i := 0) rfl)))))))
theorem l_L_tryKeep_1 : Cond.constant RL 52 (-9999001) ∈ wsL_tryKeep := (List.mem_cons_of_mem _ (List.mem_append_left _ (List.mem_append_left _ (List.mem_append_left _ (List.mem_append_left _ (List.mem_append_left _ (List.mem_of_getElem? (i := 1) rfl)))))))
def fL_tryKeep (s_p0 : OSt) (p1 : Int32) : Option (Int32 × OSt) := (aSave s_p0 p1).bind fun r1 => rsum r1 (fun E3 => if E3 = "java/lang/IndexOutOfBoundsException" then (some (((-9999001) : Int32), s_p0)) else (none)) (fun w5 => some (w5.1, w5.2))
set_option maxHeartbeats 8000000 in
set_option maxRecDepth 100000 in
theorem c_L_tryKeep {l : Launch} {z : Nat} {D : va_G} {K : Nat → ClassId} {σ : mwm} {ad_p0 : Nat → Nat} {s_p0 : OSt} {p1 : Int32} (hO_p0 : OB K ad_p0 σ s_p0) (hlt : l.stackTraces = false) {v : Int32 × OSt} (h : fL_tryKeep s_p0 p1 = some v) : Met l yL_tryKeep wsL_tryKeep ({ frames := 7, cells := 1, slots := 6, locals := 121 } : Room) (PCx z D K [.ref (ad_p0 0), .int p1] σ) (qwI z D (fun r σ2 => r = v.1 ∧ OB K ad_p0 σ2 v.2 ∧ KEO ad_p0 σ σ2)) 1 6 (zA z) := by
  refine mh_enter (cc := cL_tryKeep) (maxL := 3) (ret := (some .int)) (own := RL) (lv := [(0, .ref (ad_p0 0)), (1, .int p1)]) (by decide) rfl rfl (Nat.le_of_ble_eq_true rfl) rfl ?_
  intro p e s m below meth c ls hC hx hb hown hts hK hr hlocks hnm hz hM hS hl hX hex
  unfold fL_tryKeep at h
  refine lv_aload_n hx hb dL_tryKeep_0 rfl (lv_at hl 0 rfl) ?_
  refine lv_iload_n hx hb dL_tryKeep_1 rfl (lv_at hl 1 rfl) ?_
  obtain ⟨r1, hr1, h⟩ := ob_some h
  refine mx_ci (mx_runV (As := [.int p1]) (rest := []) (ci := 5) (C := RX7) (T := TX7) (N := 6) hC hX hM hS (hO_p0.at0) rfl (o_X7_save hO_p0 hlt hr1) gL_tryKeep_X7_save rfl rfl rfl rfl q_X7_save ⟨(Nat.le_of_ble_eq_true rfl), (Nat.le_of_ble_eq_true rfl)⟩ rfl rfl (Nat.le_of_ble_eq_true rfl) hl.1 dL_tryKeep_2 ⟨(Nat.le_of_ble_eq_true rfl), (Nat.le_of_ble_eq_true rfl)⟩) hS (fun E3 ce a_e4 H locs hvE hM hS hce hcv hcl => ?_) (fun r9 H locs σ1 hp2 hM hS => ?_)
  · subst hvE
    replace h := rsum_inl h
    by_cases c6 : E3 = "java/lang/IndexOutOfBoundsException"
    · replace h := it_pos c6 h
      subst c6
      refine vx_catch (name := "java/lang/IndexOutOfBoundsException") hown [] ⟨0, 5, 6, 13⟩ [] hex (fun _ h9 => by cases h9) (by decide) (by decide) (hts _ l_L_tryKeep_0) (va_Nw.use rfl (xc_O hX)) hce hcv hcl ?_
      refine W.eq (g2 := F0 m 6 ls [.ref a_e4]) rfl ?_
      refine lv_astore_n (lv' := [(2, .ref a_e4), (0, .ref (ad_p0 0)), (1, .int p1)]) hx hb dL_tryKeep_6 rfl hl (by decide) rfl (fun ls hl => ?_)
      refine lv_ldc (v := -9999001) hx hb hown (hts _ l_L_tryKeep_1) dL_tryKeep_7 ?_
      replace h := Option.some.inj h
      subst h
      exact W.iret hx hb hr (fun t ht hW => ⟨⟨_, _, rfl, ⟨rfl, hO_p0, (KEO.rf _ _)⟩, by show MW z D _ t.heap; rw [ht]; exact hM⟩, hS.F ht⟩) hS.2.2 dL_tryKeep_9 hlocks
    replace h := it_neg c6 h
    cases h
  · obtain ⟨w5, hw9, hr9, hO9, hk7⟩ := hp2
    replace hr9 := hr9.symm
    subst hr9
    subst hw9
    replace h := rsum_inr h
    replace hO_p0 := hO9
    refine W.eq (g2 := F0 m 5 ls [.int w5.1]) rfl ?_
    replace h := Option.some.inj h
    subst h
    exact W.iret hx hb hr (fun t ht hW => ⟨⟨_, _, rfl, ⟨rfl, hO_p0, hk7⟩, by show MW z D _ t.heap; rw [ht]; exact hM⟩, hS.F ht⟩) hS.2.2 dL_tryKeep_5 hlocks
theorem q_L_tryBack : yL_tryBack.cls ≠ "java/lang/invoke/MethodHandle" ∧ yL_tryBack.cls ≠ "java/lang/invoke/VarHandle" ∧ (parseMethodDescriptor yL_tryBack.desc).map (fun d => d.parameters.length) = some 2 := by decide +kernel
theorem l_L_tryBack_0 : Cond.classLink RL 13 "java/lang/IndexOutOfBoundsException" ∈ wsL_tryBack := (List.mem_cons_of_mem _ (List.mem_append_left _ (List.mem_append_left _ (List.mem_append_left _ (List.mem_append_left _ (List.mem_append_left _ (List.mem_append_left _ (List.mem_append_left _ (List.mem_of_getElem? (i := 0) rfl)))))))))
theorem l_L_tryBack_1 : Cond.classLink RL 38 "java/lang/IllegalStateException" ∈ wsL_tryBack := (List.mem_cons_of_mem _ (List.mem_append_left _ (List.mem_append_left _ (List.mem_append_left _ (List.mem_append_left _ (List.mem_append_left _ (List.mem_append_left _ (List.mem_append_left _ (List.mem_of_getElem? (i := 1) rfl)))))))))
theorem l_L_tryBack_2 : Cond.constant RL 52 (-9999001) ∈ wsL_tryBack := (List.mem_cons_of_mem _ (List.mem_append_left _ (List.mem_append_left _ (List.mem_append_left _ (List.mem_append_left _ (List.mem_append_left _ (List.mem_append_left _ (List.mem_append_left _ (List.mem_of_getElem? (i := 2) rfl)))))))))
theorem l_L_tryBack_3 : Cond.constant RL 40 (-9999003) ∈ wsL_tryBack := (List.mem_cons_of_mem _ (List.mem_append_left _ (List.mem_append_left _ (List.mem_append_left _ (List.mem_append_left _ (List.mem_append_left _ (List.mem_append_left _ (List.mem_append_left _ (List.mem_of_getElem? (i := 3) rfl)))))))))
def fL_tryBack (s_p0 : OSt) (p1 : Int32) : Option (Int32 × OSt) := (aRestore s_p0 p1).bind fun r1 => rsum r1 (fun E3 => if E3 = "java/lang/IndexOutOfBoundsException" then (some (((-9999001) : Int32), s_p0)) else (if E3 = "java/lang/IllegalStateException" then (some (((-9999003) : Int32), s_p0)) else (none))) (fun w5 => some (w5.1, w5.2))
set_option maxHeartbeats 8000000 in
set_option maxRecDepth 100000 in
theorem c_L_tryBack {l : Launch} {z : Nat} {D : va_G} {K : Nat → ClassId} {σ : mwm} {ad_p0 : Nat → Nat} {s_p0 : OSt} {p1 : Int32} (hO_p0 : OB K ad_p0 σ s_p0) (hlt : l.stackTraces = false) {v : Int32 × OSt} (h : fL_tryBack s_p0 p1 = some v) : Met l yL_tryBack wsL_tryBack ({ frames := 7, cells := 1, slots := 6, locals := 121 } : Room) (PCx z D K [.ref (ad_p0 0), .int p1] σ) (qwI z D (fun r σ2 => r = v.1 ∧ OB K ad_p0 σ2 v.2 ∧ KEO ad_p0 σ σ2)) 1 6 (zA z) := by
  refine mh_enter (cc := cL_tryBack) (maxL := 3) (ret := (some .int)) (own := RL) (lv := [(0, .ref (ad_p0 0)), (1, .int p1)]) (by decide) rfl rfl (Nat.le_of_ble_eq_true rfl) rfl ?_
  intro p e s m below meth c ls hC hx hb hown hts hK hr hlocks hnm hz hM hS hl hX hex
  unfold fL_tryBack at h
  refine lv_aload_n hx hb dL_tryBack_0 rfl (lv_at hl 0 rfl) ?_
  refine lv_iload_n hx hb dL_tryBack_1 rfl (lv_at hl 1 rfl) ?_
  obtain ⟨r1, hr1, h⟩ := ob_some h
  refine mx_ci (mx_runV (As := [.int p1]) (rest := []) (ci := 5) (C := RX7) (T := TX7) (N := 6) hC hX hM hS (hO_p0.at0) rfl (o_X7_restore hO_p0 hlt hr1) gL_tryBack_X7_restore rfl rfl rfl rfl q_X7_restore ⟨(Nat.le_of_ble_eq_true rfl), (Nat.le_of_ble_eq_true rfl)⟩ rfl rfl (Nat.le_of_ble_eq_true rfl) hl.1 dL_tryBack_2 ⟨(Nat.le_of_ble_eq_true rfl), (Nat.le_of_ble_eq_true rfl)⟩) hS (fun E3 ce a_e4 H locs hvE hM hS hce hcv hcl => ?_) (fun r9 H locs σ1 hp2 hM hS => ?_)
  · subst hvE
    replace h := rsum_inl h
    by_cases c6 : E3 = "java/lang/IndexOutOfBoundsException"
    · replace h := it_pos c6 h
      subst c6
      refine vx_catch (name := "java/lang/IndexOutOfBoundsException") hown [] ⟨0, 5, 6, 13⟩ [⟨0, 5, 10, 38⟩] hex (fun _ h9 => by cases h9) (by decide) (by decide) (hts _ l_L_tryBack_0) (va_Nw.use rfl (xc_O hX)) hce hcv hcl ?_
      refine W.eq (g2 := F0 m 6 ls [.ref a_e4]) rfl ?_
      refine lv_astore_n (lv' := [(2, .ref a_e4), (0, .ref (ad_p0 0)), (1, .int p1)]) hx hb dL_tryBack_6 rfl hl (by decide) rfl (fun ls hl => ?_)
      refine lv_ldc (v := -9999001) hx hb hown (hts _ l_L_tryBack_2) dL_tryBack_7 ?_
      replace h := Option.some.inj h
      subst h
      exact W.iret hx hb hr (fun t ht hW => ⟨⟨_, _, rfl, ⟨rfl, hO_p0, (KEO.rf _ _)⟩, by show MW z D _ t.heap; rw [ht]; exact hM⟩, hS.F ht⟩) hS.2.2 dL_tryBack_9 hlocks
    replace h := it_neg c6 h
    by_cases c7 : E3 = "java/lang/IllegalStateException"
    · replace h := it_pos c7 h
      subst c7
      refine vx_catch (name := "java/lang/IllegalStateException") hown [⟨0, 5, 6, 13⟩] ⟨0, 5, 10, 38⟩ [] hex (fun x9 h9 => by rw [List.mem_singleton.mp h9]; exact Or.inr ⟨(by decide), _, hts _ l_L_tryBack_0, hX.2.2.2.2.2.2.2.1⟩) (by decide) (by decide) (hts _ l_L_tryBack_1) (va_Nw.use rfl (xc_S hX)) hce hcv hcl ?_
      refine W.eq (g2 := F0 m 10 ls [.ref a_e4]) rfl ?_
      refine lv_astore_n (lv' := [(2, .ref a_e4), (0, .ref (ad_p0 0)), (1, .int p1)]) hx hb dL_tryBack_10 rfl hl (by decide) rfl (fun ls hl => ?_)
      refine lv_ldc (v := -9999003) hx hb hown (hts _ l_L_tryBack_3) dL_tryBack_11 ?_
      replace h := Option.some.inj h
      subst h
      exact W.iret hx hb hr (fun t ht hW => ⟨⟨_, _, rfl, ⟨rfl, hO_p0, (KEO.rf _ _)⟩, by show MW z D _ t.heap; rw [ht]; exact hM⟩, hS.F ht⟩) hS.2.2 dL_tryBack_13 hlocks
    replace h := it_neg c7 h
    cases h
  · obtain ⟨w5, hw9, hr9, hO9, hk8⟩ := hp2
    replace hr9 := hr9.symm
    subst hr9
    subst hw9
    replace h := rsum_inr h
    replace hO_p0 := hO9
    refine W.eq (g2 := F0 m 5 ls [.int w5.1]) rfl ?_
    replace h := Option.some.inj h
    subst h
    exact W.iret hx hb hr (fun t ht hW => ⟨⟨_, _, rfl, ⟨rfl, hO_p0, hk8⟩, by show MW z D _ t.heap; rw [ht]; exact hM⟩, hS.F ht⟩) hS.2.2 dL_tryBack_5 hlocks
