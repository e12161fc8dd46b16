theorem q_L_call : yL_call.cls ≠ "java/lang/invoke/MethodHandle" ∧ yL_call.cls ≠ "java/lang/invoke/VarHandle" ∧ (parseMethodDescriptor yL_call.desc).map (fun d => d.parameters.length) = some 5 := by decide +kernel
def fL_call_0 (s_p0 : OSt) (p2 : Int32) (p3 : Int32) (p4 : Int32) : Option (Int32 × OSt) := (fL_tryAppend s_p0 p2).bind fun r1 => some (r1.1, r1.2)
set_option maxHeartbeats 8000000 in
set_option maxRecDepth 100000 in
theorem c_L_call_0 {l : Launch} {z : Nat} {D : va_G} {K : Nat → ClassId} {σ : mwm} {ad_p0 : Nat → Nat} {s_p0 : OSt} {p2 : Int32} {p3 : Int32} {p4 : Int32} (hO_p0 : OB K ad_p0 σ s_p0) (hlt : l.stackTraces = false) {v : Int32 × OSt} (h : fL_call_0 s_p0 p2 p3 p4 = some v) : Met l yL_call wsL_call ({ frames := 8, cells := 1, slots := 6, locals := 142 } : Room) (PCx z D K [.ref (ad_p0 0), .int 0, .int p2, .int p3, .int p4] σ) (qwI z D (fun r σ2 => r = v.1 ∧ OB K ad_p0 σ2 v.2 ∧ KEO ad_p0 σ σ2)) 1 6 (zA z) := by
  refine my_enter (cc := cL_call) (maxL := 5) (ret := (some .int)) (own := RL) (lv := [(0, .ref (ad_p0 0)), (1, .int 0), (2, .int p2), (3, .int p3), (4, .int p4)]) (by decide) rfl rfl (Nat.le_of_ble_eq_true rfl) rfl ?_
  intro p e s m below meth c ls hC hx hb hown hts hK hr hlocks hnm hz hM hS hl hX
  unfold fL_call_0 at h
  refine lv_iload_n hx hb dL_call_0 rfl (lv_at hl 1 rfl) ?_
  refine lv_tableIn (tgt := 76) hx hb dL_call_1 (by decide) (by decide) rfl (by decide) ?_
  refine lv_aload_n hx hb dL_call_76 rfl (lv_at hl 0 rfl) ?_
  refine lv_iload_n hx hb dL_call_77 rfl (lv_at hl 2 rfl) ?_
  obtain ⟨r1, hr1, h⟩ := ob_some h
  refine mw_wi (mw_runSW (As := [.ref (ad_p0 0), .int p2]) (rest := []) hC hX hM hS (c_L_tryAppend (ad_p0 := ad_p0) (s_p0 := s_p0) (hO_p0 := hO_p0) (hlt := hlt) (v := r1) hr1) gL_call_L_tryAppend rfl rfl rfl q_L_tryAppend ⟨(Nat.le_of_ble_eq_true rfl), (Nat.le_of_ble_eq_true rfl)⟩ rfl rfl (Nat.le_of_ble_eq_true rfl) hl.1 dL_call_78 ⟨(Nat.le_of_ble_eq_true rfl), (Nat.le_of_ble_eq_true rfl)⟩) hS (fun r9 H locs σ1 hp2 hM hS => ?_)
  obtain ⟨hr9, hO9, hk3⟩ := hp2
  replace hr9 := hr9.symm
  subst hr9
  replace hO_p0 := hO9
  refine W.eq (g2 := F0 m 81 ls [.int r1.1]) rfl ?_
  replace h := Option.some.inj h
  subst h
  exact W.iret hx hb hr (fun t ht hW => ⟨⟨_, _, rfl, ⟨rfl, hO_p0, hk3⟩, by show MW z D _ t.heap; rw [ht]; exact hM⟩, hS.F ht⟩) hS.2.2 dL_call_81 hlocks
def fL_call_2 (s_p0 : OSt) (p2 : Int32) (p3 : Int32) (p4 : Int32) : Option (Int32) := (fL_tryAbout s_p0 p2).bind fun r1 => some r1
set_option maxHeartbeats 8000000 in
set_option maxRecDepth 100000 in
theorem c_L_call_2 {l : Launch} {z : Nat} {D : va_G} {K : Nat → ClassId} {σ : mwm} {ad_p0 : Nat → Nat} {s_p0 : OSt} {p2 : Int32} {p3 : Int32} {p4 : Int32} (hO_p0 : OB K ad_p0 σ s_p0) (hlt : l.stackTraces = false) {v : Int32} (h : fL_call_2 s_p0 p2 p3 p4 = some v) : Met l yL_call wsL_call ({ frames := 8, cells := 1, slots := 6, locals := 170 } : Room) (PCx z D K [.ref (ad_p0 0), .int 2, .int p2, .int p3, .int p4] σ) (qwI z D (fun r σ2 => r = v ∧ OB K ad_p0 σ2 s_p0 ∧ KEO ad_p0 σ σ2)) 1 6 (zA z) := by
  refine my_enter (cc := cL_call) (maxL := 5) (ret := (some .int)) (own := RL) (lv := [(0, .ref (ad_p0 0)), (1, .int 2), (2, .int p2), (3, .int p3), (4, .int p4)]) (by decide) rfl rfl (Nat.le_of_ble_eq_true rfl) rfl ?_
  intro p e s m below meth c ls hC hx hb hown hts hK hr hlocks hnm hz hM hS hl hX
  unfold fL_call_2 at h
  refine lv_iload_n hx hb dL_call_0 rfl (lv_at hl 1 rfl) ?_
  refine lv_tableIn (tgt := 87) hx hb dL_call_1 (by decide) (by decide) rfl (by decide) ?_
  refine lv_aload_n hx hb dL_call_87 rfl (lv_at hl 0 rfl) ?_
  refine lv_iload_n hx hb dL_call_88 rfl (lv_at hl 2 rfl) ?_
  obtain ⟨r1, hr1, h⟩ := ob_some h
  refine mw_wi (mw_runSW (As := [.ref (ad_p0 0), .int p2]) (rest := []) hC hX hM hS (c_L_tryAbout (ad_p0 := ad_p0) (s_p0 := s_p0) (hO_p0 := hO_p0) (hlt := hlt) (v := r1) hr1) gL_call_L_tryAbout rfl rfl rfl q_L_tryAbout ⟨(Nat.le_of_ble_eq_true rfl), (Nat.le_of_ble_eq_true rfl)⟩ rfl rfl (Nat.le_of_ble_eq_true rfl) hl.1 dL_call_89 ⟨(Nat.le_of_ble_eq_true rfl), (Nat.le_of_ble_eq_true rfl)⟩) hS (fun r9 H locs σ1 hp2 hM hS => ?_)
  obtain ⟨hr9, hO9, hk3⟩ := hp2
  replace hr9 := hr9.symm
  subst hr9
  replace hO_p0 := hO9
  refine W.eq (g2 := F0 m 92 ls [.int r1]) rfl ?_
  replace h := Option.some.inj h
  subst h
  exact W.iret hx hb hr (fun t ht hW => ⟨⟨_, _, rfl, ⟨rfl, hO_p0, hk3⟩, by show MW z D _ t.heap; rw [ht]; exact hM⟩, hS.F ht⟩) hS.2.2 dL_call_92 hlocks
def fL_call_3 (s_p0 : OSt) (p2 : Int32) (p3 : Int32) (p4 : Int32) : Option (Int32) := (fL_tryColour s_p0 p2 p3).bind fun r1 => some r1
set_option maxHeartbeats 8000000 in
set_option maxRecDepth 100000 in
theorem c_L_call_3 {l : Launch} {z : Nat} {D : va_G} {K : Nat → ClassId} {σ : mwm} {ad_p0 : Nat → Nat} {s_p0 : OSt} {p2 : Int32} {p3 : Int32} {p4 : Int32} (hO_p0 : OB K ad_p0 σ s_p0) (hlt : l.stackTraces = false) {v : Int32} (h : fL_call_3 s_p0 p2 p3 p4 = some v) : Met l yL_call wsL_call ({ frames := 8, cells := 1, slots := 6, locals := 144 } : Room) (PCx z D K [.ref (ad_p0 0), .int 3, .int p2, .int p3, .int p4] σ) (qwI z D (fun r σ2 => r = v ∧ OB K ad_p0 σ2 s_p0 ∧ KEO ad_p0 σ σ2)) 1 6 (zA z) := by
  refine my_enter (cc := cL_call) (maxL := 5) (ret := (some .int)) (own := RL) (lv := [(0, .ref (ad_p0 0)), (1, .int 3), (2, .int p2), (3, .int p3), (4, .int p4)]) (by decide) rfl rfl (Nat.le_of_ble_eq_true rfl) rfl ?_
  intro p e s m below meth c ls hC hx hb hown hts hK hr hlocks hnm hz hM hS hl hX
  unfold fL_call_3 at h
  refine lv_iload_n hx hb dL_call_0 rfl (lv_at hl 1 rfl) ?_
  refine lv_tableIn (tgt := 93) hx hb dL_call_1 (by decide) (by decide) rfl (by decide) ?_
  refine lv_aload_n hx hb dL_call_93 rfl (lv_at hl 0 rfl) ?_
  refine lv_iload_n hx hb dL_call_94 rfl (lv_at hl 2 rfl) ?_
  refine lv_iload_n hx hb dL_call_95 rfl (lv_at hl 3 rfl) ?_
  obtain ⟨r1, hr1, h⟩ := ob_some h
  refine mw_wi (mw_runSW (As := [.ref (ad_p0 0), .int p2, .int p3]) (rest := []) hC hX hM hS (c_L_tryColour (ad_p0 := ad_p0) (s_p0 := s_p0) (hO_p0 := hO_p0) (hlt := hlt) (v := r1) hr1) gL_call_L_tryColour rfl rfl rfl q_L_tryColour ⟨(Nat.le_of_ble_eq_true rfl), (Nat.le_of_ble_eq_true rfl)⟩ rfl rfl (Nat.le_of_ble_eq_true rfl) hl.1 dL_call_96 ⟨(Nat.le_of_ble_eq_true rfl), (Nat.le_of_ble_eq_true rfl)⟩) hS (fun r9 H locs σ1 hp2 hM hS => ?_)
  obtain ⟨hr9, hO9, hk3⟩ := hp2
  replace hr9 := hr9.symm
  subst hr9
  replace hO_p0 := hO9
  refine W.eq (g2 := F0 m 99 ls [.int r1]) rfl ?_
  replace h := Option.some.inj h
  subst h
  exact W.iret hx hb hr (fun t ht hW => ⟨⟨_, _, rfl, ⟨rfl, hO_p0, hk3⟩, by show MW z D _ t.heap; rw [ht]; exact hM⟩, hS.F ht⟩) hS.2.2 dL_call_99 hlocks
def fL_call_4 (s_p0 : OSt) (p2 : Int32) (p3 : Int32) (p4 : Int32) : Option (Int32) := (fL_tryPoint s_p0 p2 p3).bind fun r1 => some r1
set_option maxHeartbeats 8000000 in
set_option maxRecDepth 100000 in
theorem c_L_call_4 {l : Launch} {z : Nat} {D : va_G} {K : Nat → ClassId} {σ : mwm} {ad_p0 : Nat → Nat} {s_p0 : OSt} {p2 : Int32} {p3 : Int32} {p4 : Int32} (hO_p0 : OB K ad_p0 σ s_p0) (hlt : l.stackTraces = false) {v : Int32} (h : fL_call_4 s_p0 p2 p3 p4 = some v) : Met l yL_call wsL_call ({ frames := 8, cells := 1, slots := 6, locals := 166 } : Room) (PCx z D K [.ref (ad_p0 0), .int 4, .int p2, .int p3, .int p4] σ) (qwI z D (fun r σ2 => r = v ∧ OB K ad_p0 σ2 s_p0 ∧ KEO ad_p0 σ σ2)) 1 6 (zA z) := by
  refine my_enter (cc := cL_call) (maxL := 5) (ret := (some .int)) (own := RL) (lv := [(0, .ref (ad_p0 0)), (1, .int 4), (2, .int p2), (3, .int p3), (4, .int p4)]) (by decide) rfl rfl (Nat.le_of_ble_eq_true rfl) rfl ?_
  intro p e s m below meth c ls hC hx hb hown hts hK hr hlocks hnm hz hM hS hl hX
  unfold fL_call_4 at h
  refine lv_iload_n hx hb dL_call_0 rfl (lv_at hl 1 rfl) ?_
  refine lv_tableIn (tgt := 100) hx hb dL_call_1 (by decide) (by decide) rfl (by decide) ?_
  refine lv_aload_n hx hb dL_call_100 rfl (lv_at hl 0 rfl) ?_
  refine lv_iload_n hx hb dL_call_101 rfl (lv_at hl 2 rfl) ?_
  refine lv_iload_n hx hb dL_call_102 rfl (lv_at hl 3 rfl) ?_
  obtain ⟨r1, hr1, h⟩ := ob_some h
  refine mw_wi (mw_runSW (As := [.ref (ad_p0 0), .int p2, .int p3]) (rest := []) hC hX hM hS (c_L_tryPoint (ad_p0 := ad_p0) (s_p0 := s_p0) (hO_p0 := hO_p0) (hlt := hlt) (v := r1) hr1) gL_call_L_tryPoint rfl rfl rfl q_L_tryPoint ⟨(Nat.le_of_ble_eq_true rfl), (Nat.le_of_ble_eq_true rfl)⟩ rfl rfl (Nat.le_of_ble_eq_true rfl) hl.1 dL_call_103 ⟨(Nat.le_of_ble_eq_true rfl), (Nat.le_of_ble_eq_true rfl)⟩) hS (fun r9 H locs σ1 hp2 hM hS => ?_)
  obtain ⟨hr9, hO9, hk3⟩ := hp2
  replace hr9 := hr9.symm
  subst hr9
  replace hO_p0 := hO9
  refine W.eq (g2 := F0 m 106 ls [.int r1]) rfl ?_
  replace h := Option.some.inj h
  subst h
  exact W.iret hx hb hr (fun t ht hW => ⟨⟨_, _, rfl, ⟨rfl, hO_p0, hk3⟩, by show MW z D _ t.heap; rw [ht]; exact hM⟩, hS.F ht⟩) hS.2.2 dL_call_106 hlocks
def fL_call_5 (s_p0 : OSt) (p2 : Int32) (p3 : Int32) (p4 : Int32) : Option (Int32) := (fL_tryWhy s_p0 p2).bind fun r1 => some r1
set_option maxHeartbeats 8000000 in
set_option maxRecDepth 100000 in
theorem c_L_call_5 {l : Launch} {z : Nat} {D : va_G} {K : Nat → ClassId} {σ : mwm} {ad_p0 : Nat → Nat} {s_p0 : OSt} {p2 : Int32} {p3 : Int32} {p4 : Int32} (hO_p0 : OB K ad_p0 σ s_p0) (hlt : l.stackTraces = false) {v : Int32} (h : fL_call_5 s_p0 p2 p3 p4 = some v) : Met l yL_call wsL_call ({ frames := 8, cells := 1, slots := 6, locals := 149 } : Room) (PCx z D K [.ref (ad_p0 0), .int 5, .int p2, .int p3, .int p4] σ) (qwI z D (fun r σ2 => r = v ∧ OB K ad_p0 σ2 s_p0 ∧ KEO ad_p0 σ σ2)) 1 6 (zA z) := by
  refine my_enter (cc := cL_call) (maxL := 5) (ret := (some .int)) (own := RL) (lv := [(0, .ref (ad_p0 0)), (1, .int 5), (2, .int p2), (3, .int p3), (4, .int p4)]) (by decide) rfl rfl (Nat.le_of_ble_eq_true rfl) rfl ?_
  intro p e s m below meth c ls hC hx hb hown hts hK hr hlocks hnm hz hM hS hl hX
  unfold fL_call_5 at h
  refine lv_iload_n hx hb dL_call_0 rfl (lv_at hl 1 rfl) ?_
  refine lv_tableIn (tgt := 107) hx hb dL_call_1 (by decide) (by decide) rfl (by decide) ?_
  refine lv_aload_n hx hb dL_call_107 rfl (lv_at hl 0 rfl) ?_
  refine lv_iload_n hx hb dL_call_108 rfl (lv_at hl 2 rfl) ?_
  obtain ⟨r1, hr1, h⟩ := ob_some h
  refine mw_wi (mw_runSW (As := [.ref (ad_p0 0), .int p2]) (rest := []) hC hX hM hS (c_L_tryWhy (ad_p0 := ad_p0) (s_p0 := s_p0) (hO_p0 := hO_p0) (hlt := hlt) (v := r1) hr1) gL_call_L_tryWhy rfl rfl rfl q_L_tryWhy ⟨(Nat.le_of_ble_eq_true rfl), (Nat.le_of_ble_eq_true rfl)⟩ rfl rfl (Nat.le_of_ble_eq_true rfl) hl.1 dL_call_109 ⟨(Nat.le_of_ble_eq_true rfl), (Nat.le_of_ble_eq_true rfl)⟩) hS (fun r9 H locs σ1 hp2 hM hS => ?_)
  obtain ⟨hr9, hO9, hk3⟩ := hp2
  replace hr9 := hr9.symm
  subst hr9
  replace hO_p0 := hO9
  refine W.eq (g2 := F0 m 112 ls [.int r1]) rfl ?_
  replace h := Option.some.inj h
  subst h
  exact W.iret hx hb hr (fun t ht hW => ⟨⟨_, _, rfl, ⟨rfl, hO_p0, hk3⟩, by show MW z D _ t.heap; rw [ht]; exact hM⟩, hS.F ht⟩) hS.2.2 dL_call_112 hlocks
def fL_call_6 (s_p0 : OSt) (p2 : Int32) (p3 : Int32) (p4 : Int32) : Option (Int32 × OSt) := (fL_tryBoard s_p0 p2).bind fun r1 => some (r1.1, r1.2)
set_option maxHeartbeats 8000000 in
set_option maxRecDepth 100000 in
theorem c_L_call_6 {l : Launch} {z : Nat} {D : va_G} {K : Nat → ClassId} {σ : mwm} {ad_p0 : Nat → Nat} {s_p0 : OSt} {p2 : Int32} {p3 : Int32} {p4 : Int32} (hO_p0 : OB K ad_p0 σ s_p0) (hlt : l.stackTraces = false) {v : Int32 × OSt} (h : fL_call_6 s_p0 p2 p3 p4 = some v) : Met l yL_call wsL_call ({ frames := 8, cells := 1, slots := 6, locals := 142 } : Room) (PCx z D K [.ref (ad_p0 0), .int 6, .int p2, .int p3, .int p4] σ) (qwI z D (fun r σ2 => r = v.1 ∧ OB K ad_p0 σ2 v.2 ∧ KEO ad_p0 σ σ2)) 1 6 (zA z) := by
  refine my_enter (cc := cL_call) (maxL := 5) (ret := (some .int)) (own := RL) (lv := [(0, .ref (ad_p0 0)), (1, .int 6), (2, .int p2), (3, .int p3), (4, .int p4)]) (by decide) rfl rfl (Nat.le_of_ble_eq_true rfl) rfl ?_
  intro p e s m below meth c ls hC hx hb hown hts hK hr hlocks hnm hz hM hS hl hX
  unfold fL_call_6 at h
  refine lv_iload_n hx hb dL_call_0 rfl (lv_at hl 1 rfl) ?_
  refine lv_tableIn (tgt := 113) hx hb dL_call_1 (by decide) (by decide) rfl (by decide) ?_
  refine lv_aload_n hx hb dL_call_113 rfl (lv_at hl 0 rfl) ?_
  refine lv_iload_n hx hb dL_call_114 rfl (lv_at hl 2 rfl) ?_
  obtain ⟨r1, hr1, h⟩ := ob_some h
  refine mw_wi (mw_runSW (As := [.ref (ad_p0 0), .int p2]) (rest := []) hC hX hM hS (c_L_tryBoard (ad_p0 := ad_p0) (s_p0 := s_p0) (hO_p0 := hO_p0) (hlt := hlt) (v := r1) hr1) gL_call_L_tryBoard rfl rfl rfl q_L_tryBoard ⟨(Nat.le_of_ble_eq_true rfl), (Nat.le_of_ble_eq_true rfl)⟩ rfl rfl (Nat.le_of_ble_eq_true rfl) hl.1 dL_call_115 ⟨(Nat.le_of_ble_eq_true rfl), (Nat.le_of_ble_eq_true rfl)⟩) hS (fun r9 H locs σ1 hp2 hM hS => ?_)
  obtain ⟨hr9, hO9, hk3⟩ := hp2
  replace hr9 := hr9.symm
  subst hr9
  replace hO_p0 := hO9
  refine W.eq (g2 := F0 m 118 ls [.int r1.1]) rfl ?_
  replace h := Option.some.inj h
  subst h
  exact W.iret hx hb hr (fun t ht hW => ⟨⟨_, _, rfl, ⟨rfl, hO_p0, hk3⟩, by show MW z D _ t.heap; rw [ht]; exact hM⟩, hS.F ht⟩) hS.2.2 dL_call_118 hlocks
def fL_call_7 (s_p0 : OSt) (p2 : Int32) (p3 : Int32) (p4 : Int32) : Option (Int32 × OSt) := (fL_tryPlay s_p0 p2).bind fun r1 => some (r1.1, r1.2)
set_option maxHeartbeats 8000000 in
set_option maxRecDepth 100000 in
theorem c_L_call_7 {l : Launch} {z : Nat} {D : va_G} {K : Nat → ClassId} {σ : mwm} {ad_p0 : Nat → Nat} {s_p0 : OSt} {p2 : Int32} {p3 : Int32} {p4 : Int32} (hO_p0 : OB K ad_p0 σ s_p0) (hlt : l.stackTraces = false) {v : Int32 × OSt} (h : fL_call_7 s_p0 p2 p3 p4 = some v) : Met l yL_call wsL_call ({ frames := 8, cells := 1, slots := 6, locals := 149 } : Room) (PCx z D K [.ref (ad_p0 0), .int 7, .int p2, .int p3, .int p4] σ) (qwI z D (fun r σ2 => r = v.1 ∧ OB K ad_p0 σ2 v.2 ∧ KEO ad_p0 σ σ2)) 1 6 (zA z) := by
  refine my_enter (cc := cL_call) (maxL := 5) (ret := (some .int)) (own := RL) (lv := [(0, .ref (ad_p0 0)), (1, .int 7), (2, .int p2), (3, .int p3), (4, .int p4)]) (by decide) rfl rfl (Nat.le_of_ble_eq_true rfl) rfl ?_
  intro p e s m below meth c ls hC hx hb hown hts hK hr hlocks hnm hz hM hS hl hX
  unfold fL_call_7 at h
  refine lv_iload_n hx hb dL_call_0 rfl (lv_at hl 1 rfl) ?_
  refine lv_tableIn (tgt := 119) hx hb dL_call_1 (by decide) (by decide) rfl (by decide) ?_
  refine lv_aload_n hx hb dL_call_119 rfl (lv_at hl 0 rfl) ?_
  refine lv_iload_n hx hb dL_call_120 rfl (lv_at hl 2 rfl) ?_
  obtain ⟨r1, hr1, h⟩ := ob_some h
  refine mw_wi (mw_runSW (As := [.ref (ad_p0 0), .int p2]) (rest := []) hC hX hM hS (c_L_tryPlay (ad_p0 := ad_p0) (s_p0 := s_p0) (hO_p0 := hO_p0) (hlt := hlt) (v := r1) hr1) gL_call_L_tryPlay rfl rfl rfl q_L_tryPlay ⟨(Nat.le_of_ble_eq_true rfl), (Nat.le_of_ble_eq_true rfl)⟩ rfl rfl (Nat.le_of_ble_eq_true rfl) hl.1 dL_call_121 ⟨(Nat.le_of_ble_eq_true rfl), (Nat.le_of_ble_eq_true rfl)⟩) hS (fun r9 H locs σ1 hp2 hM hS => ?_)
  obtain ⟨hr9, hO9, hk3⟩ := hp2
  replace hr9 := hr9.symm
  subst hr9
  replace hO_p0 := hO9
  refine W.eq (g2 := F0 m 124 ls [.int r1.1]) rfl ?_
  replace h := Option.some.inj h
  subst h
  exact W.iret hx hb hr (fun t ht hW => ⟨⟨_, _, rfl, ⟨rfl, hO_p0, hk3⟩, by show MW z D _ t.heap; rw [ht]; exact hM⟩, hS.F ht⟩) hS.2.2 dL_call_124 hlocks
def fL_call_8 (s_p0 : OSt) (p2 : Int32) (p3 : Int32) (p4 : Int32) : Option (Int32 × OSt) := (fL_tryPass s_p0).bind fun r1 => some (r1.1, r1.2)
set_option maxHeartbeats 8000000 in
set_option maxRecDepth 100000 in
theorem c_L_call_8 {l : Launch} {z : Nat} {D : va_G} {K : Nat → ClassId} {σ : mwm} {ad_p0 : Nat → Nat} {s_p0 : OSt} {p2 : Int32} {p3 : Int32} {p4 : Int32} (hO_p0 : OB K ad_p0 σ s_p0) (hlt : l.stackTraces = false) {v : Int32 × OSt} (h : fL_call_8 s_p0 p2 p3 p4 = some v) : Met l yL_call wsL_call ({ frames := 8, cells := 1, slots := 6, locals := 140 } : Room) (PCx z D K [.ref (ad_p0 0), .int 8, .int p2, .int p3, .int p4] σ) (qwI z D (fun r σ2 => r = v.1 ∧ OB K ad_p0 σ2 v.2 ∧ KEO ad_p0 σ σ2)) 1 6 (zA z) := by
  refine my_enter (cc := cL_call) (maxL := 5) (ret := (some .int)) (own := RL) (lv := [(0, .ref (ad_p0 0)), (1, .int 8), (2, .int p2), (3, .int p3), (4, .int p4)]) (by decide) rfl rfl (Nat.le_of_ble_eq_true rfl) rfl ?_
  intro p e s m below meth c ls hC hx hb hown hts hK hr hlocks hnm hz hM hS hl hX
  unfold fL_call_8 at h
  refine lv_iload_n hx hb dL_call_0 rfl (lv_at hl 1 rfl) ?_
  refine lv_tableIn (tgt := 125) hx hb dL_call_1 (by decide) (by decide) rfl (by decide) ?_
  refine lv_aload_n hx hb dL_call_125 rfl (lv_at hl 0 rfl) ?_
  obtain ⟨r1, hr1, h⟩ := ob_some h
  refine mw_wi (mw_runSW (As := [.ref (ad_p0 0)]) (rest := []) hC hX hM hS (c_L_tryPass (ad_p0 := ad_p0) (s_p0 := s_p0) (hO_p0 := hO_p0) (hlt := hlt) (v := r1) hr1) gL_call_L_tryPass rfl rfl rfl q_L_tryPass ⟨(Nat.le_of_ble_eq_true rfl), (Nat.le_of_ble_eq_true rfl)⟩ rfl rfl (Nat.le_of_ble_eq_true rfl) hl.1 dL_call_126 ⟨(Nat.le_of_ble_eq_true rfl), (Nat.le_of_ble_eq_true rfl)⟩) hS (fun r9 H locs σ1 hp2 hM hS => ?_)
  obtain ⟨hr9, hO9, hk3⟩ := hp2
  replace hr9 := hr9.symm
  subst hr9
  replace hO_p0 := hO9
  refine W.eq (g2 := F0 m 129 ls [.int r1.1]) rfl ?_
  replace h := Option.some.inj h
  subst h
  exact W.iret hx hb hr (fun t ht hW => ⟨⟨_, _, rfl, ⟨rfl, hO_p0, hk3⟩, by show MW z D _ t.heap; rw [ht]; exact hM⟩, hS.F ht⟩) hS.2.2 dL_call_129 hlocks
def fL_call_9 (s_p0 : OSt) (p2 : Int32) (p3 : Int32) (p4 : Int32) : Option (Int32 × OSt) := (fL_tryLay s_p0 p2).bind fun r1 => some (r1.1, r1.2)
set_option maxHeartbeats 8000000 in
set_option maxRecDepth 100000 in
theorem c_L_call_9 {l : Launch} {z : Nat} {D : va_G} {K : Nat → ClassId} {σ : mwm} {ad_p0 : Nat → Nat} {s_p0 : OSt} {p2 : Int32} {p3 : Int32} {p4 : Int32} (hO_p0 : OB K ad_p0 σ s_p0) (hlt : l.stackTraces = false) {v : Int32 × OSt} (h : fL_call_9 s_p0 p2 p3 p4 = some v) : Met l yL_call wsL_call ({ frames := 8, cells := 1, slots := 6, locals := 143 } : Room) (PCx z D K [.ref (ad_p0 0), .int 9, .int p2, .int p3, .int p4] σ) (qwI z D (fun r σ2 => r = v.1 ∧ OB K ad_p0 σ2 v.2 ∧ KEO ad_p0 σ σ2)) 1 6 (zA z) := by
  refine my_enter (cc := cL_call) (maxL := 5) (ret := (some .int)) (own := RL) (lv := [(0, .ref (ad_p0 0)), (1, .int 9), (2, .int p2), (3, .int p3), (4, .int p4)]) (by decide) rfl rfl (Nat.le_of_ble_eq_true rfl) rfl ?_
  intro p e s m below meth c ls hC hx hb hown hts hK hr hlocks hnm hz hM hS hl hX
  unfold fL_call_9 at h
  refine lv_iload_n hx hb dL_call_0 rfl (lv_at hl 1 rfl) ?_
  refine lv_tableIn (tgt := 130) hx hb dL_call_1 (by decide) (by decide) rfl (by decide) ?_
  refine lv_aload_n hx hb dL_call_130 rfl (lv_at hl 0 rfl) ?_
  refine lv_iload_n hx hb dL_call_131 rfl (lv_at hl 2 rfl) ?_
  obtain ⟨r1, hr1, h⟩ := ob_some h
  refine mw_wi (mw_runSW (As := [.ref (ad_p0 0), .int p2]) (rest := []) hC hX hM hS (c_L_tryLay (ad_p0 := ad_p0) (s_p0 := s_p0) (hO_p0 := hO_p0) (hlt := hlt) (v := r1) hr1) gL_call_L_tryLay rfl rfl rfl q_L_tryLay ⟨(Nat.le_of_ble_eq_true rfl), (Nat.le_of_ble_eq_true rfl)⟩ rfl rfl (Nat.le_of_ble_eq_true rfl) hl.1 dL_call_132 ⟨(Nat.le_of_ble_eq_true rfl), (Nat.le_of_ble_eq_true rfl)⟩) hS (fun r9 H locs σ1 hp2 hM hS => ?_)
  obtain ⟨hr9, hO9, hk3⟩ := hp2
  replace hr9 := hr9.symm
  subst hr9
  replace hO_p0 := hO9
  refine W.eq (g2 := F0 m 135 ls [.int r1.1]) rfl ?_
  replace h := Option.some.inj h
  subst h
  exact W.iret hx hb hr (fun t ht hW => ⟨⟨_, _, rfl, ⟨rfl, hO_p0, hk3⟩, by show MW z D _ t.heap; rw [ht]; exact hM⟩, hS.F ht⟩) hS.2.2 dL_call_135 hlocks
def fL_call_10 (s_p0 : OSt) (p2 : Int32) (p3 : Int32) (p4 : Int32) : Option (Int32 × OSt) := (fL_tryUndo s_p0).bind fun r1 => some (r1.1, r1.2)
set_option maxHeartbeats 8000000 in
set_option maxRecDepth 100000 in
theorem c_L_call_10 {l : Launch} {z : Nat} {D : va_G} {K : Nat → ClassId} {σ : mwm} {ad_p0 : Nat → Nat} {s_p0 : OSt} {p2 : Int32} {p3 : Int32} {p4 : Int32} (hO_p0 : OB K ad_p0 σ s_p0) (hlt : l.stackTraces = false) {v : Int32 × OSt} (h : fL_call_10 s_p0 p2 p3 p4 = some v) : Met l yL_call wsL_call ({ frames := 8, cells := 1, slots := 6, locals := 140 } : Room) (PCx z D K [.ref (ad_p0 0), .int 10, .int p2, .int p3, .int p4] σ) (qwI z D (fun r σ2 => r = v.1 ∧ OB K ad_p0 σ2 v.2 ∧ KEO ad_p0 σ σ2)) 1 6 (zA z) := by
  refine my_enter (cc := cL_call) (maxL := 5) (ret := (some .int)) (own := RL) (lv := [(0, .ref (ad_p0 0)), (1, .int 10), (2, .int p2), (3, .int p3), (4, .int p4)]) (by decide) rfl rfl (Nat.le_of_ble_eq_true rfl) rfl ?_
  intro p e s m below meth c ls hC hx hb hown hts hK hr hlocks hnm hz hM hS hl hX
  unfold fL_call_10 at h
  refine lv_iload_n hx hb dL_call_0 rfl (lv_at hl 1 rfl) ?_
  refine lv_tableIn (tgt := 136) hx hb dL_call_1 (by decide) (by decide) rfl (by decide) ?_
  refine lv_aload_n hx hb dL_call_136 rfl (lv_at hl 0 rfl) ?_
  obtain ⟨r1, hr1, h⟩ := ob_some h
  refine mw_wi (mw_runSW (As := [.ref (ad_p0 0)]) (rest := []) hC hX hM hS (c_L_tryUndo (ad_p0 := ad_p0) (s_p0 := s_p0) (hO_p0 := hO_p0) (hlt := hlt) (v := r1) hr1) gL_call_L_tryUndo rfl rfl rfl q_L_tryUndo ⟨(Nat.le_of_ble_eq_true rfl), (Nat.le_of_ble_eq_true rfl)⟩ rfl rfl (Nat.le_of_ble_eq_true rfl) hl.1 dL_call_137 ⟨(Nat.le_of_ble_eq_true rfl), (Nat.le_of_ble_eq_true rfl)⟩) hS (fun r9 H locs σ1 hp2 hM hS => ?_)
  obtain ⟨hr9, hO9, hk3⟩ := hp2
  replace hr9 := hr9.symm
  subst hr9
  replace hO_p0 := hO9
  refine W.eq (g2 := F0 m 140 ls [.int r1.1]) rfl ?_
  replace h := Option.some.inj h
  subst h
  exact W.iret hx hb hr (fun t ht hW => ⟨⟨_, _, rfl, ⟨rfl, hO_p0, hk3⟩, by show MW z D _ t.heap; rw [ht]; exact hM⟩, hS.F ht⟩) hS.2.2 dL_call_140 hlocks
def fL_call_11 (s_p0 : OSt) (p2 : Int32) (p3 : Int32) (p4 : Int32) : Option (Int32) := (fL_tryIf s_p0 p2 p3).bind fun r1 => some r1
set_option maxHeartbeats 8000000 in
set_option maxRecDepth 100000 in
theorem c_L_call_11 {l : Launch} {z : Nat} {D : va_G} {K : Nat → ClassId} {σ : mwm} {ad_p0 : Nat → Nat} {s_p0 : OSt} {p2 : Int32} {p3 : Int32} {p4 : Int32} (hO_p0 : OB K ad_p0 σ s_p0) (hlt : l.stackTraces = false) {v : Int32} (h : fL_call_11 s_p0 p2 p3 p4 = some v) : Met l yL_call wsL_call ({ frames := 8, cells := 1, slots := 6, locals := 182 } : Room) (PCx z D K [.ref (ad_p0 0), .int 11, .int p2, .int p3, .int p4] σ) (qwI z D (fun r σ2 => r = v ∧ OB K ad_p0 σ2 s_p0 ∧ KEO ad_p0 σ σ2)) 1 6 (zA z) := by
  refine my_enter (cc := cL_call) (maxL := 5) (ret := (some .int)) (own := RL) (lv := [(0, .ref (ad_p0 0)), (1, .int 11), (2, .int p2), (3, .int p3), (4, .int p4)]) (by decide) rfl rfl (Nat.le_of_ble_eq_true rfl) rfl ?_
  intro p e s m below meth c ls hC hx hb hown hts hK hr hlocks hnm hz hM hS hl hX
  unfold fL_call_11 at h
  refine lv_iload_n hx hb dL_call_0 rfl (lv_at hl 1 rfl) ?_
  refine lv_tableIn (tgt := 141) hx hb dL_call_1 (by decide) (by decide) rfl (by decide) ?_
  refine lv_aload_n hx hb dL_call_141 rfl (lv_at hl 0 rfl) ?_
  refine lv_iload_n hx hb dL_call_142 rfl (lv_at hl 2 rfl) ?_
  refine lv_iload_n hx hb dL_call_143 rfl (lv_at hl 3 rfl) ?_
  obtain ⟨r1, hr1, h⟩ := ob_some h
  refine mw_wi (mw_runSW (As := [.ref (ad_p0 0), .int p2, .int p3]) (rest := []) hC hX hM hS (c_L_tryIf (ad_p0 := ad_p0) (s_p0 := s_p0) (hO_p0 := hO_p0) (hlt := hlt) (v := r1) hr1) gL_call_L_tryIf rfl rfl rfl q_L_tryIf ⟨(Nat.le_of_ble_eq_true rfl), (Nat.le_of_ble_eq_true rfl)⟩ rfl rfl (Nat.le_of_ble_eq_true rfl) hl.1 dL_call_144 ⟨(Nat.le_of_ble_eq_true rfl), (Nat.le_of_ble_eq_true rfl)⟩) hS (fun r9 H locs σ1 hp2 hM hS => ?_)
  obtain ⟨hr9, hO9, hk3⟩ := hp2
  replace hr9 := hr9.symm
  subst hr9
  replace hO_p0 := hO9
  refine W.eq (g2 := F0 m 147 ls [.int r1]) rfl ?_
  replace h := Option.some.inj h
  subst h
  exact W.iret hx hb hr (fun t ht hW => ⟨⟨_, _, rfl, ⟨rfl, hO_p0, hk3⟩, by show MW z D _ t.heap; rw [ht]; exact hM⟩, hS.F ht⟩) hS.2.2 dL_call_147 hlocks
def fL_call_12 (s_p0 : OSt) (p2 : Int32) (p3 : Int32) (p4 : Int32) : Option (Int32) := (fL_tryLadder s_p0 p2 p3).bind fun r1 => some r1
set_option maxHeartbeats 8000000 in
set_option maxRecDepth 100000 in
theorem c_L_call_12 {l : Launch} {z : Nat} {D : va_G} {K : Nat → ClassId} {σ : mwm} {ad_p0 : Nat → Nat} {s_p0 : OSt} {p2 : Int32} {p3 : Int32} {p4 : Int32} (hO_p0 : OB K ad_p0 σ s_p0) (hlt : l.stackTraces = false) {v : Int32} (h : fL_call_12 s_p0 p2 p3 p4 = some v) : Met l yL_call wsL_call ({ frames := 73, cells := 1, slots := 6, locals := 3083 } : Room) (PCx z D K [.ref (ad_p0 0), .int 12, .int p2, .int p3, .int p4] σ) (qwI z D (fun r σ2 => r = v ∧ OB K ad_p0 σ2 s_p0 ∧ KEO ad_p0 σ σ2)) 1 6 (zA z) := by
  refine my_enter (cc := cL_call) (maxL := 5) (ret := (some .int)) (own := RL) (lv := [(0, .ref (ad_p0 0)), (1, .int 12), (2, .int p2), (3, .int p3), (4, .int p4)]) (by decide) rfl rfl (Nat.le_of_ble_eq_true rfl) rfl ?_
  intro p e s m below meth c ls hC hx hb hown hts hK hr hlocks hnm hz hM hS hl hX
  unfold fL_call_12 at h
  refine lv_iload_n hx hb dL_call_0 rfl (lv_at hl 1 rfl) ?_
  refine lv_tableIn (tgt := 148) hx hb dL_call_1 (by decide) (by decide) rfl (by decide) ?_
  refine lv_aload_n hx hb dL_call_148 rfl (lv_at hl 0 rfl) ?_
  refine lv_iload_n hx hb dL_call_149 rfl (lv_at hl 2 rfl) ?_
  refine lv_iload_n hx hb dL_call_150 rfl (lv_at hl 3 rfl) ?_
  obtain ⟨r1, hr1, h⟩ := ob_some h
  refine mw_wi (mw_runSW (As := [.ref (ad_p0 0), .int p2, .int p3]) (rest := []) hC hX hM hS (c_L_tryLadder (ad_p0 := ad_p0) (s_p0 := s_p0) (hO_p0 := hO_p0) (hlt := hlt) (v := r1) hr1) gL_call_L_tryLadder rfl rfl rfl q_L_tryLadder ⟨(Nat.le_of_ble_eq_true rfl), (Nat.le_of_ble_eq_true rfl)⟩ rfl rfl (Nat.le_of_ble_eq_true rfl) hl.1 dL_call_151 ⟨(Nat.le_of_ble_eq_true rfl), (Nat.le_of_ble_eq_true rfl)⟩) hS (fun r9 H locs σ1 hp2 hM hS => ?_)
  obtain ⟨hr9, hO9, hk3⟩ := hp2
  replace hr9 := hr9.symm
  subst hr9
  replace hO_p0 := hO9
  refine W.eq (g2 := F0 m 154 ls [.int r1]) rfl ?_
  replace h := Option.some.inj h
  subst h
  exact W.iret hx hb hr (fun t ht hW => ⟨⟨_, _, rfl, ⟨rfl, hO_p0, hk3⟩, by show MW z D _ t.heap; rw [ht]; exact hM⟩, hS.F ht⟩) hS.2.2 dL_call_154 hlocks
def fL_call_13 (s_p0 : OSt) (p2 : Int32) (p3 : Int32) (p4 : Int32) : Option (Int32) := (fL_tryChase s_p0 p2).bind fun r1 => some r1
set_option maxHeartbeats 8000000 in
set_option maxRecDepth 100000 in
theorem c_L_call_13 {l : Launch} {z : Nat} {D : va_G} {K : Nat → ClassId} {σ : mwm} {ad_p0 : Nat → Nat} {s_p0 : OSt} {p2 : Int32} {p3 : Int32} {p4 : Int32} (hO_p0 : OB K ad_p0 σ s_p0) (hlt : l.stackTraces = false) {v : Int32} (h : fL_call_13 s_p0 p2 p3 p4 = some v) : Met l yL_call wsL_call ({ frames := 73, cells := 1, slots := 6, locals := 3082 } : Room) (PCx z D K [.ref (ad_p0 0), .int 13, .int p2, .int p3, .int p4] σ) (qwI z D (fun r σ2 => r = v ∧ OB K ad_p0 σ2 s_p0 ∧ KEO ad_p0 σ σ2)) 1 6 (zA z) := by
  refine my_enter (cc := cL_call) (maxL := 5) (ret := (some .int)) (own := RL) (lv := [(0, .ref (ad_p0 0)), (1, .int 13), (2, .int p2), (3, .int p3), (4, .int p4)]) (by decide) rfl rfl (Nat.le_of_ble_eq_true rfl) rfl ?_
  intro p e s m below meth c ls hC hx hb hown hts hK hr hlocks hnm hz hM hS hl hX
  unfold fL_call_13 at h
  refine lv_iload_n hx hb dL_call_0 rfl (lv_at hl 1 rfl) ?_
  refine lv_tableIn (tgt := 155) hx hb dL_call_1 (by decide) (by decide) rfl (by decide) ?_
  refine lv_aload_n hx hb dL_call_155 rfl (lv_at hl 0 rfl) ?_
  refine lv_iload_n hx hb dL_call_156 rfl (lv_at hl 2 rfl) ?_
  obtain ⟨r1, hr1, h⟩ := ob_some h
  refine mw_wi (mw_runSW (As := [.ref (ad_p0 0), .int p2]) (rest := []) hC hX hM hS (c_L_tryChase (ad_p0 := ad_p0) (s_p0 := s_p0) (hO_p0 := hO_p0) (hlt := hlt) (v := r1) hr1) gL_call_L_tryChase rfl rfl rfl q_L_tryChase ⟨(Nat.le_of_ble_eq_true rfl), (Nat.le_of_ble_eq_true rfl)⟩ rfl rfl (Nat.le_of_ble_eq_true rfl) hl.1 dL_call_157 ⟨(Nat.le_of_ble_eq_true rfl), (Nat.le_of_ble_eq_true rfl)⟩) hS (fun r9 H locs σ1 hp2 hM hS => ?_)
  obtain ⟨hr9, hO9, hk3⟩ := hp2
  replace hr9 := hr9.symm
  subst hr9
  replace hO_p0 := hO9
  refine W.eq (g2 := F0 m 160 ls [.int r1]) rfl ?_
  replace h := Option.some.inj h
  subst h
  exact W.iret hx hb hr (fun t ht hW => ⟨⟨_, _, rfl, ⟨rfl, hO_p0, hk3⟩, by show MW z D _ t.heap; rw [ht]; exact hM⟩, hS.F ht⟩) hS.2.2 dL_call_160 hlocks
def fL_call_14 (s_p0 : OSt) (p2 : Int32) (p3 : Int32) (p4 : Int32) : Option (Int32 × OSt) := (fL_tryKeep s_p0 p2).bind fun r1 => some (r1.1, r1.2)
set_option maxHeartbeats 8000000 in
set_option maxRecDepth 100000 in
theorem c_L_call_14 {l : Launch} {z : Nat} {D : va_G} {K : Nat → ClassId} {σ : mwm} {ad_p0 : Nat → Nat} {s_p0 : OSt} {p2 : Int32} {p3 : Int32} {p4 : Int32} (hO_p0 : OB K ad_p0 σ s_p0) (hlt : l.stackTraces = false) {v : Int32 × OSt} (h : fL_call_14 s_p0 p2 p3 p4 = some v) : Met l yL_call wsL_call ({ frames := 8, cells := 1, slots := 6, locals := 143 } : Room) (PCx z D K [.ref (ad_p0 0), .int 14, .int p2, .int p3, .int p4] σ) (qwI z D (fun r σ2 => r = v.1 ∧ OB K ad_p0 σ2 v.2 ∧ KEO ad_p0 σ σ2)) 1 6 (zA z) := by
  refine my_enter (cc := cL_call) (maxL := 5) (ret := (some .int)) (own := RL) (lv := [(0, .ref (ad_p0 0)), (1, .int 14), (2, .int p2), (3, .int p3), (4, .int p4)]) (by decide) rfl rfl (Nat.le_of_ble_eq_true rfl) rfl ?_
  intro p e s m below meth c ls hC hx hb hown hts hK hr hlocks hnm hz hM hS hl hX
  unfold fL_call_14 at h
  refine lv_iload_n hx hb dL_call_0 rfl (lv_at hl 1 rfl) ?_
  refine lv_tableIn (tgt := 161) hx hb dL_call_1 (by decide) (by decide) rfl (by decide) ?_
  refine lv_aload_n hx hb dL_call_161 rfl (lv_at hl 0 rfl) ?_
  refine lv_iload_n hx hb dL_call_162 rfl (lv_at hl 2 rfl) ?_
  obtain ⟨r1, hr1, h⟩ := ob_some h
  refine mw_wi (mw_runSW (As := [.ref (ad_p0 0), .int p2]) (rest := []) hC hX hM hS (c_L_tryKeep (ad_p0 := ad_p0) (s_p0 := s_p0) (hO_p0 := hO_p0) (hlt := hlt) (v := r1) hr1) gL_call_L_tryKeep rfl rfl rfl q_L_tryKeep ⟨(Nat.le_of_ble_eq_true rfl), (Nat.le_of_ble_eq_true rfl)⟩ rfl rfl (Nat.le_of_ble_eq_true rfl) hl.1 dL_call_163 ⟨(Nat.le_of_ble_eq_true rfl), (Nat.le_of_ble_eq_true rfl)⟩) hS (fun r9 H locs σ1 hp2 hM hS => ?_)
  obtain ⟨hr9, hO9, hk3⟩ := hp2
  replace hr9 := hr9.symm
  subst hr9
  replace hO_p0 := hO9
  refine W.eq (g2 := F0 m 166 ls [.int r1.1]) rfl ?_
  replace h := Option.some.inj h
  subst h
  exact W.iret hx hb hr (fun t ht hW => ⟨⟨_, _, rfl, ⟨rfl, hO_p0, hk3⟩, by show MW z D _ t.heap; rw [ht]; exact hM⟩, hS.F ht⟩) hS.2.2 dL_call_166 hlocks
def fL_call_15 (s_p0 : OSt) (p2 : Int32) (p3 : Int32) (p4 : Int32) : Option (Int32 × OSt) := (fL_tryBack s_p0 p2).bind fun r1 => some (r1.1, r1.2)
set_option maxHeartbeats 8000000 in
set_option maxRecDepth 100000 in
theorem c_L_call_15 {l : Launch} {z : Nat} {D : va_G} {K : Nat → ClassId} {σ : mwm} {ad_p0 : Nat → Nat} {s_p0 : OSt} {p2 : Int32} {p3 : Int32} {p4 : Int32} (hO_p0 : OB K ad_p0 σ s_p0) (hlt : l.stackTraces = false) {v : Int32 × OSt} (h : fL_call_15 s_p0 p2 p3 p4 = some v) : Met l yL_call wsL_call ({ frames := 8, cells := 1, slots := 6, locals := 143 } : Room) (PCx z D K [.ref (ad_p0 0), .int 15, .int p2, .int p3, .int p4] σ) (qwI z D (fun r σ2 => r = v.1 ∧ OB K ad_p0 σ2 v.2 ∧ KEO ad_p0 σ σ2)) 1 6 (zA z) := by
  refine my_enter (cc := cL_call) (maxL := 5) (ret := (some .int)) (own := RL) (lv := [(0, .ref (ad_p0 0)), (1, .int 15), (2, .int p2), (3, .int p3), (4, .int p4)]) (by decide) rfl rfl (Nat.le_of_ble_eq_true rfl) rfl ?_
  intro p e s m below meth c ls hC hx hb hown hts hK hr hlocks hnm hz hM hS hl hX
  unfold fL_call_15 at h
  refine lv_iload_n hx hb dL_call_0 rfl (lv_at hl 1 rfl) ?_
  refine lv_tableOut (tgt := 167) hx hb dL_call_1 (by decide) (by decide) ?_
  refine lv_aload_n hx hb dL_call_167 rfl (lv_at hl 0 rfl) ?_
  refine lv_iload_n hx hb dL_call_168 rfl (lv_at hl 2 rfl) ?_
  obtain ⟨r1, hr1, h⟩ := ob_some h
  refine mw_wi (mw_runSW (As := [.ref (ad_p0 0), .int p2]) (rest := []) hC hX hM hS (c_L_tryBack (ad_p0 := ad_p0) (s_p0 := s_p0) (hO_p0 := hO_p0) (hlt := hlt) (v := r1) hr1) gL_call_L_tryBack rfl rfl rfl q_L_tryBack ⟨(Nat.le_of_ble_eq_true rfl), (Nat.le_of_ble_eq_true rfl)⟩ rfl rfl (Nat.le_of_ble_eq_true rfl) hl.1 dL_call_169 ⟨(Nat.le_of_ble_eq_true rfl), (Nat.le_of_ble_eq_true rfl)⟩) hS (fun r9 H locs σ1 hp2 hM hS => ?_)
  obtain ⟨hr9, hO9, hk3⟩ := hp2
  replace hr9 := hr9.symm
  subst hr9
  replace hO_p0 := hO9
  refine W.eq (g2 := F0 m 172 ls [.int r1.1]) rfl ?_
  replace h := Option.some.inj h
  subst h
  exact W.iret hx hb hr (fun t ht hW => ⟨⟨_, _, rfl, ⟨rfl, hO_p0, hk3⟩, by show MW z D _ t.heap; rw [ht]; exact hM⟩, hS.F ht⟩) hS.2.2 dL_call_172 hlocks
