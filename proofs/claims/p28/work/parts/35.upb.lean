theorem q_L_lays : yL_lays.cls ≠ "java/lang/invoke/MethodHandle" ∧ yL_lays.cls ≠ "java/lang/invoke/VarHandle" ∧ (parseMethodDescriptor yL_lays.desc).map (fun d => d.parameters.length) = some 3 := by decide +kernel
theorem l_L_lays_0 : Cond.constant RL 40 (-9999003) ∈ wsL_lays := (List.mem_cons_of_mem _ (List.mem_append_left _ (List.mem_append_left _ (List.mem_append_left _ (List.mem_append_left _ (List.mem_of_getElem? (i := 10) rfl))))))
def fL_lays (s_p0 : OSt) (s_p1 : OSt) (p2 : Int32) : Option (Bool × OSt × OSt) := (fL_call_2 s_p0 (0 : Int32) (0 : Int32) (0 : Int32)).bind fun r1 => (fL_call_2 s_p0 (0 : Int32) (0 : Int32) (0 : Int32)).bind fun r4 => if (r1 * r4) = 0 then none else bnd (p2 - p2 / (r1 * r4) * (r1 * r4)) fun v8 => (fL_call_5 s_p0 v8 (0 : Int32) (0 : Int32)).bind fun r9 => (fL_call_11 s_p0 v8 (0 : Int32) (0 : Int32)).bind fun r12 => (fL_call_11 s_p0 v8 (1 : Int32) (0 : Int32)).bind fun r15 => (fL_call_11 s_p0 v8 (2 : Int32) (0 : Int32)).bind fun r18 => (fL_call_2 s_p0 (2 : Int32) (0 : Int32) (0 : Int32)).bind fun r21 => (fL_call_3 s_p0 r21 (1 : Int32) (0 : Int32)).bind fun r24 => (fL_has s_p0 (0 : Int32)).bind fun r27 => (fL_has s_p0 (1 : Int32)).bind fun r30 => if r9 ≤ 0 then ((fL_call_7 s_p0 v8 (0 : Int32) (0 : Int32)).bind fun r34 => bnd (fun (x37_0 : Bool) (t37_p1 : OSt) => bnd (fun (x38_0 : Bool) (t38_p0 : OSt) (t38_p1 : OSt) => some (x38_0, t38_p0, t38_p1)) fun k38 => if x37_0 = true then ((fL_call_10 r34.2 (0 : Int32) (0 : Int32) (0 : Int32)).bind fun r40 => (fL_thrown r40.1).bind fun r43 => if r43 = true then (k38 false r40.2 t37_p1) else ((fL_call_10 t37_p1 (0 : Int32) (0 : Int32) (0 : Int32)).bind fun r45 => (fL_thrown r45.1).bind fun r48 => if r48 = true then (k38 false r40.2 r45.2) else ((fL_has r40.2 (0 : Int32)).bind fun r50 => if r50 = r27 then ((fL_has r40.2 (1 : Int32)).bind fun r54 => if r54 = r30 then ((fL_call_5 r40.2 v8 (0 : Int32) (0 : Int32)).bind fun r58 => if r58 = 0 then (k38 true r40.2 r45.2) else (k38 false r40.2 r45.2)) else (k38 false r40.2 r45.2)) else (k38 false r40.2 r45.2)))) else (k38 false r34.2 t37_p1)) fun k37 => if r34.1 = r12 then ((fL_call_7 s_p1 v8 (0 : Int32) (0 : Int32)).bind fun r63 => if r63.1 = r12 then ((fL_call_4 r34.2 v8 (0 : Int32) (0 : Int32)).bind fun r67 => if r67 = r21 then ((fL_call_4 r34.2 v8 (1 : Int32) (0 : Int32)).bind fun r71 => if r71 = r18 then ((fL_call_4 r34.2 v8 (2 : Int32) (0 : Int32)).bind fun r75 => if r75 = r15 then ((fL_call_3 r34.2 r21 (1 : Int32) (0 : Int32)).bind fun r79 => if r79 = (r24 + r12) then ((fL_call_3 r34.2 (1 - r21) (0 : Int32) (0 : Int32)).bind fun r83 => bnd (fun (x86_0 : Int64) => (fL_count x86_0).bind fun r87 => if r83 = (r87 - r12) then ((fL_call_5 r34.2 v8 (0 : Int32) (0 : Int32)).bind fun r89 => if r89 = 1 then (k37 true r63.2) else (k37 false r63.2)) else (k37 false r63.2)) fun k86 => if r21 = 0 then (k86 r30) else (k86 r27)) else (k37 false r63.2)) else (k37 false r63.2)) else (k37 false r63.2)) else (k37 false r63.2)) else (k37 false r63.2)) else (k37 false s_p1)) else (bnd (fun (x94_0 : Bool) (t94_p0 : OSt) (t94_p1 : OSt) => some (x94_0, t94_p0, t94_p1)) fun k94 => if r12 = (-1) then ((fL_call_7 s_p0 v8 (0 : Int32) (0 : Int32)).bind fun r96 => if r96.1 = (-9999003) then ((fL_call_7 s_p1 v8 (0 : Int32) (0 : Int32)).bind fun r100 => if r100.1 = (-9999003) then (k94 true r96.2 r100.2) else (k94 false r96.2 r100.2)) else (k94 false r96.2 s_p1)) else (k94 false s_p0 s_p1))
set_option maxHeartbeats 8000000 in
set_option maxRecDepth 100000 in
theorem c_L_lays {l : Launch} {z : Nat} {D : va_G} {K : Nat → ClassId} {σ : mwm} {ad_p0 : Nat → Nat} {ad_p1 : Nat → Nat} {s_p0 : OSt} {s_p1 : OSt} {p2 : Int32} (hO_p0 : OB K ad_p0 σ s_p0) (hO_p1 : OB K ad_p1 σ s_p1) (hap : apt ad_p0 ad_p1) (hlt : l.stackTraces = false) {v : Bool × OSt × OSt} (h : fL_lays s_p0 s_p1 p2 = some v) : Met l yL_lays wsL_lays ({ frames := 9, cells := 23, slots := 138, locals := 206 } : Room) (PCx z D K [.ref (ad_p0 0), .ref (ad_p1 0), .int p2] σ) (qwI z D (fun r σ2 => r = b2i v.1 ∧ OB K ad_p0 σ2 v.2.1 ∧ OB K ad_p1 σ2 v.2.2)) 23 138 (zA z) := by
  refine my_enter (cc := cL_lays) (maxL := 16) (ret := (some .boolean)) (own := RL) (lv := [(0, .ref (ad_p0 0)), (1, .ref (ad_p1 0)), (2, .int p2)]) (by decide) rfl rfl (Nat.le_of_ble_eq_true rfl) rfl ?_
  intro p e s m below meth c ls hC hx hb hown hts hK hr hlocks hnm hz hM hS hl hX
  unfold fL_lays at h
  refine lv_aload_n hx hb dL_lays_0 rfl (lv_at hl 0 rfl) ?_
  refine lv_iconst (v := 2) hx hb dL_lays_1 (by decide) ?_
  refine lv_iconst (v := 0) hx hb dL_lays_2 (by decide) ?_
  refine lv_iconst (v := 0) hx hb dL_lays_3 (by decide) ?_
  refine lv_iconst (v := 0) hx hb dL_lays_4 (by decide) ?_
  obtain ⟨r1, hr1, h⟩ := ob_some h
  refine mw_wi (my_runS (As := [.ref (ad_p0 0), .int 2, .int 0, .int 0, .int 0]) (rest := []) hC hX hM hS (c_L_call_2 (ad_p0 := ad_p0) (s_p0 := s_p0) (hO_p0 := hO_p0) (hlt := hlt) (v := r1) hr1) gL_lays_L_call rfl rfl rfl q_L_call ⟨(Nat.le_of_ble_eq_true rfl), (Nat.le_of_ble_eq_true rfl)⟩ rfl rfl (Nat.le_of_ble_eq_true rfl) hl.1 dL_lays_5 ⟨(Nat.le_of_ble_eq_true rfl), (Nat.le_of_ble_eq_true rfl)⟩) hS (fun r9 H locs σ1 hp2 hM hS => ?_)
  obtain ⟨hr9, hO9, hk3⟩ := hp2
  replace hr9 := hr9.symm
  subst hr9
  replace hO_p1 := OB.keep hO_p1 hO_p0 hap hk3
  replace hO_p0 := hO9
  refine W.eq (g2 := F0 m 8 ls [.int r1]) rfl ?_
  refine lv_aload_n hx hb dL_lays_8 rfl (lv_at hl 0 rfl) ?_
  refine lv_iconst (v := 2) hx hb dL_lays_9 (by decide) ?_
  refine lv_iconst (v := 0) hx hb dL_lays_10 (by decide) ?_
  refine lv_iconst (v := 0) hx hb dL_lays_11 (by decide) ?_
  refine lv_iconst (v := 0) hx hb dL_lays_12 (by decide) ?_
  obtain ⟨r4, hr4, h⟩ := ob_some h
  refine mw_wi (my_runS (As := [.ref (ad_p0 0), .int 2, .int 0, .int 0, .int 0]) (rest := [.int r1]) hC hX hM hS (c_L_call_2 (ad_p0 := ad_p0) (s_p0 := s_p0) (hO_p0 := hO_p0) (hlt := hlt) (v := r4) hr4) gL_lays_L_call rfl rfl rfl q_L_call ⟨(Nat.le_of_ble_eq_true rfl), (Nat.le_of_ble_eq_true rfl)⟩ rfl rfl (Nat.le_of_ble_eq_true rfl) hl.1 dL_lays_13 ⟨(Nat.le_of_ble_eq_true rfl), (Nat.le_of_ble_eq_true rfl)⟩) hS (fun r9 H locs σ1 hp5 hM hS => ?_)
  obtain ⟨hr9, hO9, hk6⟩ := hp5
  replace hr9 := hr9.symm
  subst hr9
  replace hO_p1 := OB.keep hO_p1 hO_p0 hap hk6
  replace hO_p0 := hO9
  refine W.eq (g2 := F0 m 16 ls [.int r4, .int r1]) rfl ?_
  refine lv_imul hx hb dL_lays_16 ?_
  refine lv_istore_n (lv' := [(3, .int (r1 * r4)), (0, .ref (ad_p0 0)), (1, .ref (ad_p1 0)), (2, .int p2)]) hx hb dL_lays_17 rfl hl (by decide) rfl (fun ls hl => ?_)
  refine lv_iload_n hx hb dL_lays_18 rfl (lv_at hl 3 rfl) ?_
  refine lv_iload_n hx hb dL_lays_19 rfl (lv_at hl 0 rfl) ?_
  by_cases c7 : (r1 * r4) = 0
  · replace h := it_pos c7 h; cases h
  replace h := it_neg c7 h
  refine lv_irem hx hb dL_lays_20 c7 ?_
  refine lv_topi (fun v8 ev8 => ?_)
  replace h := bnd_at ev8 h
  refine lv_istore (lv' := [(4, .int v8), (3, .int (r1 * r4)), (0, .ref (ad_p0 0)), (1, .ref (ad_p1 0)), (2, .int p2)]) hx hb dL_lays_21 hl (by decide) rfl (fun ls hl => ?_)
  refine lv_aload_n hx hb dL_lays_23 rfl (lv_at hl 2 rfl) ?_
  refine lv_iconst (v := 5) hx hb dL_lays_24 (by decide) ?_
  refine lv_iload hx hb dL_lays_25 (lv_at hl 0 rfl) ?_
  refine lv_iconst (v := 0) hx hb dL_lays_27 (by decide) ?_
  refine lv_iconst (v := 0) hx hb dL_lays_28 (by decide) ?_
  obtain ⟨r9, hr9, h⟩ := ob_some h
  refine mw_wi (my_runS (As := [.ref (ad_p0 0), .int 5, .int v8, .int 0, .int 0]) (rest := []) hC hX hM hS (c_L_call_5 (ad_p0 := ad_p0) (s_p0 := s_p0) (hO_p0 := hO_p0) (hlt := hlt) (v := r9) hr9) gL_lays_L_call rfl rfl rfl q_L_call ⟨(Nat.le_of_ble_eq_true rfl), (Nat.le_of_ble_eq_true rfl)⟩ rfl rfl (Nat.le_of_ble_eq_true rfl) hl.1 dL_lays_29 ⟨(Nat.le_of_ble_eq_true rfl), (Nat.le_of_ble_eq_true rfl)⟩) hS (fun r9 H locs σ1 hp10 hM hS => ?_)
  obtain ⟨hr9, hO9, hk11⟩ := hp10
  replace hr9 := hr9.symm
  subst hr9
  replace hO_p1 := OB.keep hO_p1 hO_p0 hap hk11
  replace hO_p0 := hO9
  refine W.eq (g2 := F0 m 32 ls [.int r9]) rfl ?_
  refine lv_istore (lv' := [(5, .int r9), (4, .int v8), (3, .int (r1 * r4)), (0, .ref (ad_p0 0)), (1, .ref (ad_p1 0)), (2, .int p2)]) hx hb dL_lays_32 hl (by decide) rfl (fun ls hl => ?_)
  refine lv_aload_n hx hb dL_lays_34 rfl (lv_at hl 3 rfl) ?_
  refine lv_bipush (v := 11) hx hb dL_lays_35 (by decide) ?_
  refine lv_iload hx hb dL_lays_37 (lv_at hl 1 rfl) ?_
  refine lv_iconst (v := 0) hx hb dL_lays_39 (by decide) ?_
  refine lv_iconst (v := 0) hx hb dL_lays_40 (by decide) ?_
  obtain ⟨r12, hr12, h⟩ := ob_some h
  refine mw_wi (my_runS (As := [.ref (ad_p0 0), .int 11, .int v8, .int 0, .int 0]) (rest := []) hC hX hM hS (c_L_call_11 (ad_p0 := ad_p0) (s_p0 := s_p0) (hO_p0 := hO_p0) (hlt := hlt) (v := r12) hr12) gL_lays_L_call rfl rfl rfl q_L_call ⟨(Nat.le_of_ble_eq_true rfl), (Nat.le_of_ble_eq_true rfl)⟩ rfl rfl (Nat.le_of_ble_eq_true rfl) hl.1 dL_lays_41 ⟨(Nat.le_of_ble_eq_true rfl), (Nat.le_of_ble_eq_true rfl)⟩) hS (fun r9 H locs σ1 hp13 hM hS => ?_)
  obtain ⟨hr9, hO9, hk14⟩ := hp13
  replace hr9 := hr9.symm
  subst hr9
  replace hO_p1 := OB.keep hO_p1 hO_p0 hap hk14
  replace hO_p0 := hO9
  refine W.eq (g2 := F0 m 44 ls [.int r12]) rfl ?_
  refine lv_istore (lv' := [(6, .int r12), (5, .int r9), (4, .int v8), (3, .int (r1 * r4)), (0, .ref (ad_p0 0)), (1, .ref (ad_p1 0)), (2, .int p2)]) hx hb dL_lays_44 hl (by decide) rfl (fun ls hl => ?_)
  refine lv_aload_n hx hb dL_lays_46 rfl (lv_at hl 4 rfl) ?_
  refine lv_bipush (v := 11) hx hb dL_lays_47 (by decide) ?_
  refine lv_iload hx hb dL_lays_49 (lv_at hl 2 rfl) ?_
  refine lv_iconst (v := 1) hx hb dL_lays_51 (by decide) ?_
  refine lv_iconst (v := 0) hx hb dL_lays_52 (by decide) ?_
  obtain ⟨r15, hr15, h⟩ := ob_some h
  refine mw_wi (my_runS (As := [.ref (ad_p0 0), .int 11, .int v8, .int 1, .int 0]) (rest := []) hC hX hM hS (c_L_call_11 (ad_p0 := ad_p0) (s_p0 := s_p0) (hO_p0 := hO_p0) (hlt := hlt) (v := r15) hr15) gL_lays_L_call rfl rfl rfl q_L_call ⟨(Nat.le_of_ble_eq_true rfl), (Nat.le_of_ble_eq_true rfl)⟩ rfl rfl (Nat.le_of_ble_eq_true rfl) hl.1 dL_lays_53 ⟨(Nat.le_of_ble_eq_true rfl), (Nat.le_of_ble_eq_true rfl)⟩) hS (fun r9 H locs σ1 hp16 hM hS => ?_)
  obtain ⟨hr9, hO9, hk17⟩ := hp16
  replace hr9 := hr9.symm
  subst hr9
  replace hO_p1 := OB.keep hO_p1 hO_p0 hap hk17
  replace hO_p0 := hO9
  refine W.eq (g2 := F0 m 56 ls [.int r15]) rfl ?_
  refine lv_istore (lv' := [(7, .int r15), (6, .int r12), (5, .int r9), (4, .int v8), (3, .int (r1 * r4)), (0, .ref (ad_p0 0)), (1, .ref (ad_p1 0)), (2, .int p2)]) hx hb dL_lays_56 hl (by decide) rfl (fun ls hl => ?_)
  refine lv_aload_n hx hb dL_lays_58 rfl (lv_at hl 5 rfl) ?_
  refine lv_bipush (v := 11) hx hb dL_lays_59 (by decide) ?_
  refine lv_iload hx hb dL_lays_61 (lv_at hl 3 rfl) ?_
  refine lv_iconst (v := 2) hx hb dL_lays_63 (by decide) ?_
  refine lv_iconst (v := 0) hx hb dL_lays_64 (by decide) ?_
  obtain ⟨r18, hr18, h⟩ := ob_some h
  refine mw_wi (my_runS (As := [.ref (ad_p0 0), .int 11, .int v8, .int 2, .int 0]) (rest := []) hC hX hM hS (c_L_call_11 (ad_p0 := ad_p0) (s_p0 := s_p0) (hO_p0 := hO_p0) (hlt := hlt) (v := r18) hr18) gL_lays_L_call rfl rfl rfl q_L_call ⟨(Nat.le_of_ble_eq_true rfl), (Nat.le_of_ble_eq_true rfl)⟩ rfl rfl (Nat.le_of_ble_eq_true rfl) hl.1 dL_lays_65 ⟨(Nat.le_of_ble_eq_true rfl), (Nat.le_of_ble_eq_true rfl)⟩) hS (fun r9 H locs σ1 hp19 hM hS => ?_)
  obtain ⟨hr9, hO9, hk20⟩ := hp19
  replace hr9 := hr9.symm
  subst hr9
  replace hO_p1 := OB.keep hO_p1 hO_p0 hap hk20
  replace hO_p0 := hO9
  refine W.eq (g2 := F0 m 68 ls [.int r18]) rfl ?_
  refine lv_istore (lv' := [(8, .int r18), (7, .int r15), (6, .int r12), (5, .int r9), (4, .int v8), (3, .int (r1 * r4)), (0, .ref (ad_p0 0)), (1, .ref (ad_p1 0)), (2, .int p2)]) hx hb dL_lays_68 hl (by decide) rfl (fun ls hl => ?_)
  refine lv_aload_n hx hb dL_lays_70 rfl (lv_at hl 6 rfl) ?_
  refine lv_iconst (v := 2) hx hb dL_lays_71 (by decide) ?_
  refine lv_iconst (v := 2) hx hb dL_lays_72 (by decide) ?_
  refine lv_iconst (v := 0) hx hb dL_lays_73 (by decide) ?_
  refine lv_iconst (v := 0) hx hb dL_lays_74 (by decide) ?_
  obtain ⟨r21, hr21, h⟩ := ob_some h
  refine mw_wi (my_runS (As := [.ref (ad_p0 0), .int 2, .int 2, .int 0, .int 0]) (rest := []) hC hX hM hS (c_L_call_2 (ad_p0 := ad_p0) (s_p0 := s_p0) (hO_p0 := hO_p0) (hlt := hlt) (v := r21) hr21) gL_lays_L_call rfl rfl rfl q_L_call ⟨(Nat.le_of_ble_eq_true rfl), (Nat.le_of_ble_eq_true rfl)⟩ rfl rfl (Nat.le_of_ble_eq_true rfl) hl.1 dL_lays_75 ⟨(Nat.le_of_ble_eq_true rfl), (Nat.le_of_ble_eq_true rfl)⟩) hS (fun r9 H locs σ1 hp22 hM hS => ?_)
  obtain ⟨hr9, hO9, hk23⟩ := hp22
  replace hr9 := hr9.symm
  subst hr9
  replace hO_p1 := OB.keep hO_p1 hO_p0 hap hk23
  replace hO_p0 := hO9
  refine W.eq (g2 := F0 m 78 ls [.int r21]) rfl ?_
  refine lv_istore (lv' := [(9, .int r21), (8, .int r18), (7, .int r15), (6, .int r12), (5, .int r9), (4, .int v8), (3, .int (r1 * r4)), (0, .ref (ad_p0 0)), (1, .ref (ad_p1 0)), (2, .int p2)]) hx hb dL_lays_78 hl (by decide) rfl (fun ls hl => ?_)
  refine lv_aload_n hx hb dL_lays_80 rfl (lv_at hl 7 rfl) ?_
  refine lv_iconst (v := 3) hx hb dL_lays_81 (by decide) ?_
  refine lv_iload hx hb dL_lays_82 (lv_at hl 0 rfl) ?_
  refine lv_iconst (v := 1) hx hb dL_lays_84 (by decide) ?_
  refine lv_iconst (v := 0) hx hb dL_lays_85 (by decide) ?_
  obtain ⟨r24, hr24, h⟩ := ob_some h
  refine mw_wi (my_runS (As := [.ref (ad_p0 0), .int 3, .int r21, .int 1, .int 0]) (rest := []) hC hX hM hS (c_L_call_3 (ad_p0 := ad_p0) (s_p0 := s_p0) (hO_p0 := hO_p0) (hlt := hlt) (v := r24) hr24) gL_lays_L_call rfl rfl rfl q_L_call ⟨(Nat.le_of_ble_eq_true rfl), (Nat.le_of_ble_eq_true rfl)⟩ rfl rfl (Nat.le_of_ble_eq_true rfl) hl.1 dL_lays_86 ⟨(Nat.le_of_ble_eq_true rfl), (Nat.le_of_ble_eq_true rfl)⟩) hS (fun r9 H locs σ1 hp25 hM hS => ?_)
  obtain ⟨hr9, hO9, hk26⟩ := hp25
  replace hr9 := hr9.symm
  subst hr9
  replace hO_p1 := OB.keep hO_p1 hO_p0 hap hk26
  replace hO_p0 := hO9
  refine W.eq (g2 := F0 m 89 ls [.int r24]) rfl ?_
  refine lv_istore (lv' := [(10, .int r24), (9, .int r21), (8, .int r18), (7, .int r15), (6, .int r12), (5, .int r9), (4, .int v8), (3, .int (r1 * r4)), (0, .ref (ad_p0 0)), (1, .ref (ad_p1 0)), (2, .int p2)]) hx hb dL_lays_89 hl (by decide) rfl (fun ls hl => ?_)
  refine lv_aload_n hx hb dL_lays_91 rfl (lv_at hl 8 rfl) ?_
  refine lv_iconst (v := 0) hx hb dL_lays_92 (by decide) ?_
  obtain ⟨r27, hr27, h⟩ := ob_some h
  refine mw_wl (mw_runSW (As := [.ref (ad_p0 0), .int 0]) (rest := []) hC hX hM hS (c_L_has (ad_p0 := ad_p0) (s_p0 := s_p0) (hO_p0 := hO_p0) (hlt := hlt) (v := r27) hr27) gL_lays_L_has rfl rfl rfl q_L_has ⟨(Nat.le_of_ble_eq_true rfl), (Nat.le_of_ble_eq_true rfl)⟩ rfl rfl (Nat.le_of_ble_eq_true rfl) hl.1 dL_lays_93 ⟨(Nat.le_of_ble_eq_true rfl), (Nat.le_of_ble_eq_true rfl)⟩) hS (fun r9 H locs σ1 hp28 hM hS => ?_)
  obtain ⟨hr9, hO9, hk29⟩ := hp28
  replace hr9 := hr9.symm
  subst hr9
  replace hO_p1 := OB.keep hO_p1 hO_p0 hap hk29
  replace hO_p0 := hO9
  refine W.eq (g2 := F0 m 96 ls [.long r27]) rfl ?_
  refine lv_lstore (lv' := [(11, .long r27), (10, .int r24), (9, .int r21), (8, .int r18), (7, .int r15), (6, .int r12), (5, .int r9), (4, .int v8), (3, .int (r1 * r4)), (0, .ref (ad_p0 0)), (1, .ref (ad_p1 0)), (2, .int p2)]) hx hb dL_lays_96 hl (by decide) rfl (fun ls hl => ?_)
  refine lv_aload_n hx hb dL_lays_98 rfl (lv_at hl 9 rfl) ?_
  refine lv_iconst (v := 1) hx hb dL_lays_99 (by decide) ?_
  obtain ⟨r30, hr30, h⟩ := ob_some h
  refine mw_wl (mw_runSW (As := [.ref (ad_p0 0), .int 1]) (rest := []) hC hX hM hS (c_L_has (ad_p0 := ad_p0) (s_p0 := s_p0) (hO_p0 := hO_p0) (hlt := hlt) (v := r30) hr30) gL_lays_L_has rfl rfl rfl q_L_has ⟨(Nat.le_of_ble_eq_true rfl), (Nat.le_of_ble_eq_true rfl)⟩ rfl rfl (Nat.le_of_ble_eq_true rfl) hl.1 dL_lays_100 ⟨(Nat.le_of_ble_eq_true rfl), (Nat.le_of_ble_eq_true rfl)⟩) hS (fun r9 H locs σ1 hp31 hM hS => ?_)
  obtain ⟨hr9, hO9, hk32⟩ := hp31
  replace hr9 := hr9.symm
  subst hr9
  replace hO_p1 := OB.keep hO_p1 hO_p0 hap hk32
  replace hO_p0 := hO9
  refine W.eq (g2 := F0 m 103 ls [.long r30]) rfl ?_
  refine lv_lstore (lv' := [(13, .long r30), (11, .long r27), (10, .int r24), (9, .int r21), (8, .int r18), (7, .int r15), (6, .int r12), (5, .int r9), (4, .int v8), (3, .int (r1 * r4)), (0, .ref (ad_p0 0)), (1, .ref (ad_p1 0)), (2, .int p2)]) hx hb dL_lays_103 hl (by decide) rfl (fun ls hl => ?_)
  refine lv_iload hx hb dL_lays_105 (lv_at hl 7 rfl) ?_
  refine lv_if_le (tgt := 152) hx hb dL_lays_107 (by decide) (fun c33 => ?_) (fun c33 => ?_)
  · replace h := it_pos c33 h
    refine lv_aload_n hx hb dL_lays_152 rfl (lv_at hl 10 rfl) ?_
    refine lv_bipush (v := 7) hx hb dL_lays_153 (by decide) ?_
    refine lv_iload hx hb dL_lays_155 (lv_at hl 8 rfl) ?_
    refine lv_iconst (v := 0) hx hb dL_lays_157 (by decide) ?_
    refine lv_iconst (v := 0) hx hb dL_lays_158 (by decide) ?_
    obtain ⟨r34, hr34, h⟩ := ob_some h
    refine mw_wi (my_runS (As := [.ref (ad_p0 0), .int 7, .int v8, .int 0, .int 0]) (rest := []) hC hX hM hS (c_L_call_7 (ad_p0 := ad_p0) (s_p0 := s_p0) (hO_p0 := hO_p0) (hlt := hlt) (v := r34) hr34) gL_lays_L_call rfl rfl rfl q_L_call ⟨(Nat.le_of_ble_eq_true rfl), (Nat.le_of_ble_eq_true rfl)⟩ rfl rfl (Nat.le_of_ble_eq_true rfl) hl.1 dL_lays_159 ⟨(Nat.le_of_ble_eq_true rfl), (Nat.le_of_ble_eq_true rfl)⟩) hS (fun r9 H locs σ1 hp35 hM hS => ?_)
    obtain ⟨hr9, hO9, hk36⟩ := hp35
    replace hr9 := hr9.symm
    subst hr9
    replace hO_p1 := OB.keep hO_p1 hO_p0 hap hk36
    replace hO_p0 := hO9
    refine W.eq (g2 := F0 m 162 ls [.int r34.1]) rfl ?_
    refine lv_iload hx hb dL_lays_162 (lv_at hl 6 rfl) ?_
    obtain ⟨k37, ek37, h⟩ := bnd_ex h
    have J37 : ∀ (x37_0 : Bool) (t37_p1 : OSt) (H : Heap) (locs : List Loc) (σ1 : mwm), MW z D σ1 H → va_S (zA z) s.heap H locs → OB K ad_p0 σ1 r34.2 → OB K ad_p1 σ1 t37_p1 → k37 x37_0 t37_p1 = some v → ∀ ls : Array Slot, lv_has ls 16 [(0, .ref (ad_p0 0)), (1, .ref (ad_p1 0)), (4, .int v8), (11, .long r27), (13, .long r30)] → W p l e ({ frames := 9, cells := 23, slots := 138, locals := 206 } : Room) s m ([.ref (ad_p0 0), .ref (ad_p1 0), .int p2] : List Value).toArray below meth c H locs 18 108 (MQ below (qwI z D (fun r σ2 => r = b2i v.1 ∧ OB K ad_p0 σ2 v.2.1 ∧ OB K ad_p1 σ2 v.2.2)) ([.ref (ad_p0 0), .ref (ad_p1 0), .int p2] : List Value).toArray s 23 138 (zA z)) (F0 m 291 ls [.int (b2i x37_0)]) := by
      intro x37_0 t37_p1 H locs σ1 hM hS hO_p0 hO_p1 h ls hl
      rw [ek37] at h
      refine lv_istore (lv' := [(15, .int (b2i x37_0)), (0, .ref (ad_p0 0)), (1, .ref (ad_p1 0)), (4, .int v8), (11, .long r27), (13, .long r30)]) hx hb dL_lays_291 hl (by decide) rfl (fun ls hl => ?_)
      refine lv_iload hx hb dL_lays_293 (lv_at hl 0 rfl) ?_
      obtain ⟨k38, ek38, h⟩ := bnd_ex h
      have J38 : ∀ (x38_0 : Bool) (t38_p0 : OSt) (t38_p1 : OSt) (H : Heap) (locs : List Loc) (σ1 : mwm), MW z D σ1 H → va_S (zA z) s.heap H locs → OB K ad_p0 σ1 t38_p0 → OB K ad_p1 σ1 t38_p1 → k38 x38_0 t38_p0 t38_p1 = some v → ∀ ls : Array Slot, lv_has ls 16 [] → W p l e ({ frames := 9, cells := 23, slots := 138, locals := 206 } : Room) s m ([.ref (ad_p0 0), .ref (ad_p1 0), .int p2] : List Value).toArray below meth c H locs 23 138 (MQ below (qwI z D (fun r σ2 => r = b2i v.1 ∧ OB K ad_p0 σ2 v.2.1 ∧ OB K ad_p1 σ2 v.2.2)) ([.ref (ad_p0 0), .ref (ad_p1 0), .int p2] : List Value).toArray s 23 138 (zA z)) (F0 m 367 ls [.int (b2i x38_0)]) := by
        intro x38_0 t38_p0 t38_p1 H locs σ1 hM hS hO_p0 hO_p1 h ls hl
        rw [ek38] at h
        replace h := Option.some.inj h
        subst h
        exact W.zret (ty := .boolean) (v := b2i x38_0) hx hb hr (b2i_nar _) (fun t ht hW => ⟨⟨_, _, rfl, ⟨rfl, hO_p0, hO_p1⟩, by show MW z D _ t.heap; rw [ht]; exact hM⟩, hS.F ht⟩) hS.2.2 dL_lays_367 hlocks
      refine lv_if_eq (tgt := 366) hx hb dL_lays_295 (by decide) (fun c39 => ?_) (fun c39 => ?_)
      · replace c39 := b2i_eq0.mp c39
        replace h := it_neg c39 h
        refine lv_iconst (v := 0) hx hb dL_lays_366 (by decide) ?_
        refine W.widen (k := 23) (n := 138) (Nat.le_of_ble_eq_true rfl) (Nat.le_of_ble_eq_true rfl) ?_
        refine W.eq (g2 := F0 m 367 ls [.int (b2i false)]) rfl ?_
        exact J38 false r34.2 t37_p1 _ _ _ hM hS hO_p0 hO_p1 h ls (lv_sub hl [] rfl)
      · replace c39 := b2i_ne0.mp c39
        replace h := it_pos c39 h
        refine lv_aload_n hx hb dL_lays_298 rfl (lv_at hl 1 rfl) ?_
        refine lv_bipush (v := 10) hx hb dL_lays_299 (by decide) ?_
        refine lv_iconst (v := 0) hx hb dL_lays_301 (by decide) ?_
        refine lv_iconst (v := 0) hx hb dL_lays_302 (by decide) ?_
        refine lv_iconst (v := 0) hx hb dL_lays_303 (by decide) ?_
        obtain ⟨r40, hr40, h⟩ := ob_some h
        refine mw_wi (my_runS (As := [.ref (ad_p0 0), .int 10, .int 0, .int 0, .int 0]) (rest := []) hC hX hM hS (c_L_call_10 (ad_p0 := ad_p0) (s_p0 := r34.2) (hO_p0 := hO_p0) (hlt := hlt) (v := r40) hr40) gL_lays_L_call rfl rfl rfl q_L_call ⟨(Nat.le_of_ble_eq_true rfl), (Nat.le_of_ble_eq_true rfl)⟩ rfl rfl (Nat.le_of_ble_eq_true rfl) hl.1 dL_lays_304 ⟨(Nat.le_of_ble_eq_true rfl), (Nat.le_of_ble_eq_true rfl)⟩) hS (fun r9 H locs σ1 hp41 hM hS => ?_)
        obtain ⟨hr9, hO9, hk42⟩ := hp41
        replace hr9 := hr9.symm
        subst hr9
        replace hO_p1 := OB.keep hO_p1 hO_p0 hap hk42
        replace hO_p0 := hO9
        refine W.eq (g2 := F0 m 307 ls [.int r40.1]) rfl ?_
        obtain ⟨r43, hr43, h⟩ := ob_some h
        refine mw_ci (mw_runS (As := [.int r40.1]) (rest := []) hC hM hS (c_L_thrown (v := r43) hr43) gL_lays_L_thrown rfl rfl rfl q_L_thrown ⟨(Nat.le_of_ble_eq_true rfl), (Nat.le_of_ble_eq_true rfl)⟩ rfl rfl (Nat.le_of_ble_eq_true rfl) hl.1 dL_lays_307 ⟨(Nat.le_of_ble_eq_true rfl), (Nat.le_of_ble_eq_true rfl)⟩) ?_
        refine lv_if_ne (tgt := 366) hx hb dL_lays_310 (by decide) (fun c44 => ?_) (fun c44 => ?_)
        · replace c44 := b2i_ne0.mp c44
          replace h := it_pos c44 h
          refine lv_iconst (v := 0) hx hb dL_lays_366 (by decide) ?_
          refine W.widen (k := 23) (n := 138) (Nat.le_of_ble_eq_true rfl) (Nat.le_of_ble_eq_true rfl) ?_
          refine W.eq (g2 := F0 m 367 ls [.int (b2i false)]) rfl ?_
          exact J38 false r40.2 t37_p1 _ _ _ hM hS hO_p0 hO_p1 h ls (lv_sub hl [] rfl)
        · replace c44 := b2i_eq0.mp c44
          replace h := it_neg c44 h
          refine lv_aload_n hx hb dL_lays_313 rfl (lv_at hl 2 rfl) ?_
          refine lv_bipush (v := 10) hx hb dL_lays_314 (by decide) ?_
          refine lv_iconst (v := 0) hx hb dL_lays_316 (by decide) ?_
          refine lv_iconst (v := 0) hx hb dL_lays_317 (by decide) ?_
          refine lv_iconst (v := 0) hx hb dL_lays_318 (by decide) ?_
          obtain ⟨r45, hr45, h⟩ := ob_some h
          refine mw_wi (my_runS (As := [.ref (ad_p1 0), .int 10, .int 0, .int 0, .int 0]) (rest := []) hC hX hM hS (c_L_call_10 (ad_p0 := ad_p1) (s_p0 := t37_p1) (hO_p0 := hO_p1) (hlt := hlt) (v := r45) hr45) gL_lays_L_call rfl rfl rfl q_L_call ⟨(Nat.le_of_ble_eq_true rfl), (Nat.le_of_ble_eq_true rfl)⟩ rfl rfl (Nat.le_of_ble_eq_true rfl) hl.1 dL_lays_319 ⟨(Nat.le_of_ble_eq_true rfl), (Nat.le_of_ble_eq_true rfl)⟩) hS (fun r9 H locs σ1 hp46 hM hS => ?_)
          obtain ⟨hr9, hO9, hk47⟩ := hp46
          replace hr9 := hr9.symm
          subst hr9
          replace hO_p0 := OB.keep hO_p0 hO_p1 hap.symm hk47
          replace hO_p1 := hO9
          refine W.eq (g2 := F0 m 322 ls [.int r45.1]) rfl ?_
          obtain ⟨r48, hr48, h⟩ := ob_some h
          refine mw_ci (mw_runS (As := [.int r45.1]) (rest := []) hC hM hS (c_L_thrown (v := r48) hr48) gL_lays_L_thrown rfl rfl rfl q_L_thrown ⟨(Nat.le_of_ble_eq_true rfl), (Nat.le_of_ble_eq_true rfl)⟩ rfl rfl (Nat.le_of_ble_eq_true rfl) hl.1 dL_lays_322 ⟨(Nat.le_of_ble_eq_true rfl), (Nat.le_of_ble_eq_true rfl)⟩) ?_
          refine lv_if_ne (tgt := 366) hx hb dL_lays_325 (by decide) (fun c49 => ?_) (fun c49 => ?_)
          · replace c49 := b2i_ne0.mp c49
            replace h := it_pos c49 h
            refine lv_iconst (v := 0) hx hb dL_lays_366 (by decide) ?_
            refine W.widen (k := 23) (n := 138) (Nat.le_of_ble_eq_true rfl) (Nat.le_of_ble_eq_true rfl) ?_
            refine W.eq (g2 := F0 m 367 ls [.int (b2i false)]) rfl ?_
            exact J38 false r40.2 r45.2 _ _ _ hM hS hO_p0 hO_p1 h ls (lv_sub hl [] rfl)
          · replace c49 := b2i_eq0.mp c49
            replace h := it_neg c49 h
            refine lv_aload_n hx hb dL_lays_328 rfl (lv_at hl 1 rfl) ?_
            refine lv_iconst (v := 0) hx hb dL_lays_329 (by decide) ?_
            obtain ⟨r50, hr50, h⟩ := ob_some h
            refine mw_wl (mw_runSW (As := [.ref (ad_p0 0), .int 0]) (rest := []) hC hX hM hS (c_L_has (ad_p0 := ad_p0) (s_p0 := r40.2) (hO_p0 := hO_p0) (hlt := hlt) (v := r50) hr50) gL_lays_L_has rfl rfl rfl q_L_has ⟨(Nat.le_of_ble_eq_true rfl), (Nat.le_of_ble_eq_true rfl)⟩ rfl rfl (Nat.le_of_ble_eq_true rfl) hl.1 dL_lays_330 ⟨(Nat.le_of_ble_eq_true rfl), (Nat.le_of_ble_eq_true rfl)⟩) hS (fun r9 H locs σ1 hp51 hM hS => ?_)
            obtain ⟨hr9, hO9, hk52⟩ := hp51
            replace hr9 := hr9.symm
            subst hr9
            replace hO_p1 := OB.keep hO_p1 hO_p0 hap hk52
            replace hO_p0 := hO9
            refine W.eq (g2 := F0 m 333 ls [.long r50]) rfl ?_
            refine lv_lload hx hb dL_lays_333 (lv_at hl 4 rfl) ?_
            refine W.lcmp hx hb dL_lays_335 ?_
            refine lv_if_ne (tgt := 366) hx hb dL_lays_336 (by decide) (fun c53 => ?_) (fun c53 => ?_)
            · replace c53 := mt (lg_cmp_eq _ _).mpr c53
              replace h := it_neg c53 h
              refine lv_iconst (v := 0) hx hb dL_lays_366 (by decide) ?_
              refine W.widen (k := 23) (n := 138) (Nat.le_of_ble_eq_true rfl) (Nat.le_of_ble_eq_true rfl) ?_
              refine W.eq (g2 := F0 m 367 ls [.int (b2i false)]) rfl ?_
              exact J38 false r40.2 r45.2 _ _ _ hM hS hO_p0 hO_p1 h ls (lv_sub hl [] rfl)
            · replace c53 := (lg_cmp_eq _ _).mp c53
              replace h := it_pos c53 h
              refine lv_aload_n hx hb dL_lays_339 rfl (lv_at hl 1 rfl) ?_
              refine lv_iconst (v := 1) hx hb dL_lays_340 (by decide) ?_
              obtain ⟨r54, hr54, h⟩ := ob_some h
              refine mw_wl (mw_runSW (As := [.ref (ad_p0 0), .int 1]) (rest := []) hC hX hM hS (c_L_has (ad_p0 := ad_p0) (s_p0 := r40.2) (hO_p0 := hO_p0) (hlt := hlt) (v := r54) hr54) gL_lays_L_has rfl rfl rfl q_L_has ⟨(Nat.le_of_ble_eq_true rfl), (Nat.le_of_ble_eq_true rfl)⟩ rfl rfl (Nat.le_of_ble_eq_true rfl) hl.1 dL_lays_341 ⟨(Nat.le_of_ble_eq_true rfl), (Nat.le_of_ble_eq_true rfl)⟩) hS (fun r9 H locs σ1 hp55 hM hS => ?_)
              obtain ⟨hr9, hO9, hk56⟩ := hp55
              replace hr9 := hr9.symm
              subst hr9
              replace hO_p1 := OB.keep hO_p1 hO_p0 hap hk56
              replace hO_p0 := hO9
              refine W.eq (g2 := F0 m 344 ls [.long r54]) rfl ?_
              refine lv_lload hx hb dL_lays_344 (lv_at hl 5 rfl) ?_
              refine W.lcmp hx hb dL_lays_346 ?_
              refine lv_if_ne (tgt := 366) hx hb dL_lays_347 (by decide) (fun c57 => ?_) (fun c57 => ?_)
              · replace c57 := mt (lg_cmp_eq _ _).mpr c57
                replace h := it_neg c57 h
                refine lv_iconst (v := 0) hx hb dL_lays_366 (by decide) ?_
                refine W.widen (k := 23) (n := 138) (Nat.le_of_ble_eq_true rfl) (Nat.le_of_ble_eq_true rfl) ?_
                refine W.eq (g2 := F0 m 367 ls [.int (b2i false)]) rfl ?_
                exact J38 false r40.2 r45.2 _ _ _ hM hS hO_p0 hO_p1 h ls (lv_sub hl [] rfl)
              · replace c57 := (lg_cmp_eq _ _).mp c57
                replace h := it_pos c57 h
                refine lv_aload_n hx hb dL_lays_350 rfl (lv_at hl 1 rfl) ?_
                refine lv_iconst (v := 5) hx hb dL_lays_351 (by decide) ?_
                refine lv_iload hx hb dL_lays_352 (lv_at hl 3 rfl) ?_
                refine lv_iconst (v := 0) hx hb dL_lays_354 (by decide) ?_
                refine lv_iconst (v := 0) hx hb dL_lays_355 (by decide) ?_
                obtain ⟨r58, hr58, h⟩ := ob_some h
                refine mw_wi (my_runS (As := [.ref (ad_p0 0), .int 5, .int v8, .int 0, .int 0]) (rest := []) hC hX hM hS (c_L_call_5 (ad_p0 := ad_p0) (s_p0 := r40.2) (hO_p0 := hO_p0) (hlt := hlt) (v := r58) hr58) gL_lays_L_call rfl rfl rfl q_L_call ⟨(Nat.le_of_ble_eq_true rfl), (Nat.le_of_ble_eq_true rfl)⟩ rfl rfl (Nat.le_of_ble_eq_true rfl) hl.1 dL_lays_356 ⟨(Nat.le_of_ble_eq_true rfl), (Nat.le_of_ble_eq_true rfl)⟩) hS (fun r9 H locs σ1 hp59 hM hS => ?_)
                obtain ⟨hr9, hO9, hk60⟩ := hp59
                replace hr9 := hr9.symm
                subst hr9
                replace hO_p1 := OB.keep hO_p1 hO_p0 hap hk60
                replace hO_p0 := hO9
                refine W.eq (g2 := F0 m 359 ls [.int r58]) rfl ?_
                refine lv_if_ne (tgt := 366) hx hb dL_lays_359 (by decide) (fun c61 => ?_) (fun c61 => ?_)
                · replace h := it_neg c61 h
                  refine lv_iconst (v := 0) hx hb dL_lays_366 (by decide) ?_
                  refine W.eq (g2 := F0 m 367 ls [.int (b2i false)]) rfl ?_
                  exact J38 false r40.2 r45.2 _ _ _ hM hS hO_p0 hO_p1 h ls (lv_sub hl [] rfl)
                · replace h := it_pos c61 h
                  refine lv_iconst (v := 1) hx hb dL_lays_362 (by decide) ?_
                  refine lv_goto (tgt := 367) hx hb dL_lays_363 (by decide) ?_
                  refine W.eq (g2 := F0 m 367 ls [.int (b2i true)]) rfl ?_
                  exact J38 true r40.2 r45.2 _ _ _ hM hS hO_p0 hO_p1 h ls (lv_sub hl [] rfl)
    refine lv_icmp_ne (tgt := 290) hx hb dL_lays_164 (by decide) (fun c62 => ?_) (fun c62 => ?_)
    · replace h := it_neg c62 h
      refine lv_iconst (v := 0) hx hb dL_lays_290 (by decide) ?_
      refine W.widen (k := 18) (n := 108) (Nat.le_of_ble_eq_true rfl) (Nat.le_of_ble_eq_true rfl) ?_
      refine W.eq (g2 := F0 m 291 ls [.int (b2i false)]) rfl ?_
      exact J37 false s_p1 _ _ _ hM hS hO_p0 hO_p1 h ls (lv_sub hl [10, 11, 8, 1, 0] rfl)
    · replace h := it_pos c62 h
      refine lv_aload_n hx hb dL_lays_167 rfl (lv_at hl 11 rfl) ?_
      refine lv_bipush (v := 7) hx hb dL_lays_168 (by decide) ?_
      refine lv_iload hx hb dL_lays_170 (lv_at hl 8 rfl) ?_
      refine lv_iconst (v := 0) hx hb dL_lays_172 (by decide) ?_
      refine lv_iconst (v := 0) hx hb dL_lays_173 (by decide) ?_
      obtain ⟨r63, hr63, h⟩ := ob_some h
      refine mw_wi (my_runS (As := [.ref (ad_p1 0), .int 7, .int v8, .int 0, .int 0]) (rest := []) hC hX hM hS (c_L_call_7 (ad_p0 := ad_p1) (s_p0 := s_p1) (hO_p0 := hO_p1) (hlt := hlt) (v := r63) hr63) gL_lays_L_call rfl rfl rfl q_L_call ⟨(Nat.le_of_ble_eq_true rfl), (Nat.le_of_ble_eq_true rfl)⟩ rfl rfl (Nat.le_of_ble_eq_true rfl) hl.1 dL_lays_174 ⟨(Nat.le_of_ble_eq_true rfl), (Nat.le_of_ble_eq_true rfl)⟩) hS (fun r9 H locs σ1 hp64 hM hS => ?_)
      obtain ⟨hr9, hO9, hk65⟩ := hp64
      replace hr9 := hr9.symm
      subst hr9
      replace hO_p0 := OB.keep hO_p0 hO_p1 hap.symm hk65
      replace hO_p1 := hO9
      refine W.eq (g2 := F0 m 177 ls [.int r63.1]) rfl ?_
      refine lv_iload hx hb dL_lays_177 (lv_at hl 6 rfl) ?_
      refine lv_icmp_ne (tgt := 290) hx hb dL_lays_179 (by decide) (fun c66 => ?_) (fun c66 => ?_)
      · replace h := it_neg c66 h
        refine lv_iconst (v := 0) hx hb dL_lays_290 (by decide) ?_
        refine W.widen (k := 18) (n := 108) (Nat.le_of_ble_eq_true rfl) (Nat.le_of_ble_eq_true rfl) ?_
        refine W.eq (g2 := F0 m 291 ls [.int (b2i false)]) rfl ?_
        exact J37 false r63.2 _ _ _ hM hS hO_p0 hO_p1 h ls (lv_sub hl [10, 11, 8, 1, 0] rfl)
      · replace h := it_pos c66 h
        refine lv_aload_n hx hb dL_lays_182 rfl (lv_at hl 10 rfl) ?_
        refine lv_iconst (v := 4) hx hb dL_lays_183 (by decide) ?_
        refine lv_iload hx hb dL_lays_184 (lv_at hl 8 rfl) ?_
        refine lv_iconst (v := 0) hx hb dL_lays_186 (by decide) ?_
        refine lv_iconst (v := 0) hx hb dL_lays_187 (by decide) ?_
        obtain ⟨r67, hr67, h⟩ := ob_some h
        refine mw_wi (my_runS (As := [.ref (ad_p0 0), .int 4, .int v8, .int 0, .int 0]) (rest := []) hC hX hM hS (c_L_call_4 (ad_p0 := ad_p0) (s_p0 := r34.2) (hO_p0 := hO_p0) (hlt := hlt) (v := r67) hr67) gL_lays_L_call rfl rfl rfl q_L_call ⟨(Nat.le_of_ble_eq_true rfl), (Nat.le_of_ble_eq_true rfl)⟩ rfl rfl (Nat.le_of_ble_eq_true rfl) hl.1 dL_lays_188 ⟨(Nat.le_of_ble_eq_true rfl), (Nat.le_of_ble_eq_true rfl)⟩) hS (fun r9 H locs σ1 hp68 hM hS => ?_)
        obtain ⟨hr9, hO9, hk69⟩ := hp68
        replace hr9 := hr9.symm
        subst hr9
        replace hO_p1 := OB.keep hO_p1 hO_p0 hap hk69
        replace hO_p0 := hO9
        refine W.eq (g2 := F0 m 191 ls [.int r67]) rfl ?_
        refine lv_iload hx hb dL_lays_191 (lv_at hl 3 rfl) ?_
        refine lv_icmp_ne (tgt := 290) hx hb dL_lays_193 (by decide) (fun c70 => ?_) (fun c70 => ?_)
        · replace h := it_neg c70 h
          refine lv_iconst (v := 0) hx hb dL_lays_290 (by decide) ?_
          refine W.widen (k := 18) (n := 108) (Nat.le_of_ble_eq_true rfl) (Nat.le_of_ble_eq_true rfl) ?_
          refine W.eq (g2 := F0 m 291 ls [.int (b2i false)]) rfl ?_
          exact J37 false r63.2 _ _ _ hM hS hO_p0 hO_p1 h ls (lv_sub hl [10, 11, 8, 1, 0] rfl)
        · replace h := it_pos c70 h
          refine lv_aload_n hx hb dL_lays_196 rfl (lv_at hl 10 rfl) ?_
          refine lv_iconst (v := 4) hx hb dL_lays_197 (by decide) ?_
          refine lv_iload hx hb dL_lays_198 (lv_at hl 8 rfl) ?_
          refine lv_iconst (v := 1) hx hb dL_lays_200 (by decide) ?_
          refine lv_iconst (v := 0) hx hb dL_lays_201 (by decide) ?_
          obtain ⟨r71, hr71, h⟩ := ob_some h
          refine mw_wi (my_runS (As := [.ref (ad_p0 0), .int 4, .int v8, .int 1, .int 0]) (rest := []) hC hX hM hS (c_L_call_4 (ad_p0 := ad_p0) (s_p0 := r34.2) (hO_p0 := hO_p0) (hlt := hlt) (v := r71) hr71) gL_lays_L_call rfl rfl rfl q_L_call ⟨(Nat.le_of_ble_eq_true rfl), (Nat.le_of_ble_eq_true rfl)⟩ rfl rfl (Nat.le_of_ble_eq_true rfl) hl.1 dL_lays_202 ⟨(Nat.le_of_ble_eq_true rfl), (Nat.le_of_ble_eq_true rfl)⟩) hS (fun r9 H locs σ1 hp72 hM hS => ?_)
          obtain ⟨hr9, hO9, hk73⟩ := hp72
          replace hr9 := hr9.symm
          subst hr9
          replace hO_p1 := OB.keep hO_p1 hO_p0 hap hk73
          replace hO_p0 := hO9
          refine W.eq (g2 := F0 m 205 ls [.int r71]) rfl ?_
          refine lv_iload hx hb dL_lays_205 (lv_at hl 4 rfl) ?_
          refine lv_icmp_ne (tgt := 290) hx hb dL_lays_207 (by decide) (fun c74 => ?_) (fun c74 => ?_)
          · replace h := it_neg c74 h
            refine lv_iconst (v := 0) hx hb dL_lays_290 (by decide) ?_
            refine W.widen (k := 18) (n := 108) (Nat.le_of_ble_eq_true rfl) (Nat.le_of_ble_eq_true rfl) ?_
            refine W.eq (g2 := F0 m 291 ls [.int (b2i false)]) rfl ?_
            exact J37 false r63.2 _ _ _ hM hS hO_p0 hO_p1 h ls (lv_sub hl [10, 11, 8, 1, 0] rfl)
          · replace h := it_pos c74 h
            refine lv_aload_n hx hb dL_lays_210 rfl (lv_at hl 10 rfl) ?_
            refine lv_iconst (v := 4) hx hb dL_lays_211 (by decide) ?_
            refine lv_iload hx hb dL_lays_212 (lv_at hl 8 rfl) ?_
            refine lv_iconst (v := 2) hx hb dL_lays_214 (by decide) ?_
            refine lv_iconst (v := 0) hx hb dL_lays_215 (by decide) ?_
            obtain ⟨r75, hr75, h⟩ := ob_some h
            refine mw_wi (my_runS (As := [.ref (ad_p0 0), .int 4, .int v8, .int 2, .int 0]) (rest := []) hC hX hM hS (c_L_call_4 (ad_p0 := ad_p0) (s_p0 := r34.2) (hO_p0 := hO_p0) (hlt := hlt) (v := r75) hr75) gL_lays_L_call rfl rfl rfl q_L_call ⟨(Nat.le_of_ble_eq_true rfl), (Nat.le_of_ble_eq_true rfl)⟩ rfl rfl (Nat.le_of_ble_eq_true rfl) hl.1 dL_lays_216 ⟨(Nat.le_of_ble_eq_true rfl), (Nat.le_of_ble_eq_true rfl)⟩) hS (fun r9 H locs σ1 hp76 hM hS => ?_)
            obtain ⟨hr9, hO9, hk77⟩ := hp76
            replace hr9 := hr9.symm
            subst hr9
            replace hO_p1 := OB.keep hO_p1 hO_p0 hap hk77
            replace hO_p0 := hO9
            refine W.eq (g2 := F0 m 219 ls [.int r75]) rfl ?_
            refine lv_iload hx hb dL_lays_219 (lv_at hl 5 rfl) ?_
            refine lv_icmp_ne (tgt := 290) hx hb dL_lays_221 (by decide) (fun c78 => ?_) (fun c78 => ?_)
            · replace h := it_neg c78 h
              refine lv_iconst (v := 0) hx hb dL_lays_290 (by decide) ?_
              refine W.widen (k := 18) (n := 108) (Nat.le_of_ble_eq_true rfl) (Nat.le_of_ble_eq_true rfl) ?_
              refine W.eq (g2 := F0 m 291 ls [.int (b2i false)]) rfl ?_
              exact J37 false r63.2 _ _ _ hM hS hO_p0 hO_p1 h ls (lv_sub hl [10, 11, 8, 1, 0] rfl)
            · replace h := it_pos c78 h
              refine lv_aload_n hx hb dL_lays_224 rfl (lv_at hl 10 rfl) ?_
              refine lv_iconst (v := 3) hx hb dL_lays_225 (by decide) ?_
              refine lv_iload hx hb dL_lays_226 (lv_at hl 3 rfl) ?_
              refine lv_iconst (v := 1) hx hb dL_lays_228 (by decide) ?_
              refine lv_iconst (v := 0) hx hb dL_lays_229 (by decide) ?_
              obtain ⟨r79, hr79, h⟩ := ob_some h
              refine mw_wi (my_runS (As := [.ref (ad_p0 0), .int 3, .int r21, .int 1, .int 0]) (rest := []) hC hX hM hS (c_L_call_3 (ad_p0 := ad_p0) (s_p0 := r34.2) (hO_p0 := hO_p0) (hlt := hlt) (v := r79) hr79) gL_lays_L_call rfl rfl rfl q_L_call ⟨(Nat.le_of_ble_eq_true rfl), (Nat.le_of_ble_eq_true rfl)⟩ rfl rfl (Nat.le_of_ble_eq_true rfl) hl.1 dL_lays_230 ⟨(Nat.le_of_ble_eq_true rfl), (Nat.le_of_ble_eq_true rfl)⟩) hS (fun r9 H locs σ1 hp80 hM hS => ?_)
              obtain ⟨hr9, hO9, hk81⟩ := hp80
              replace hr9 := hr9.symm
              subst hr9
              replace hO_p1 := OB.keep hO_p1 hO_p0 hap hk81
              replace hO_p0 := hO9
              refine W.eq (g2 := F0 m 233 ls [.int r79]) rfl ?_
              refine lv_iload hx hb dL_lays_233 (lv_at hl 2 rfl) ?_
              refine lv_iload hx hb dL_lays_235 (lv_at hl 6 rfl) ?_
              refine lv_iadd hx hb dL_lays_237 ?_
              refine lv_icmp_ne (tgt := 290) hx hb dL_lays_238 (by decide) (fun c82 => ?_) (fun c82 => ?_)
              · replace h := it_neg c82 h
                refine lv_iconst (v := 0) hx hb dL_lays_290 (by decide) ?_
                refine W.widen (k := 18) (n := 108) (Nat.le_of_ble_eq_true rfl) (Nat.le_of_ble_eq_true rfl) ?_
                refine W.eq (g2 := F0 m 291 ls [.int (b2i false)]) rfl ?_
                exact J37 false r63.2 _ _ _ hM hS hO_p0 hO_p1 h ls (lv_sub hl [10, 11, 8, 1, 0] rfl)
              · replace h := it_pos c82 h
                refine lv_aload_n hx hb dL_lays_241 rfl (lv_at hl 10 rfl) ?_
                refine lv_iconst (v := 3) hx hb dL_lays_242 (by decide) ?_
                refine lv_iconst (v := 1) hx hb dL_lays_243 (by decide) ?_
                refine lv_iload hx hb dL_lays_244 (lv_at hl 3 rfl) ?_
                refine lv_isub hx hb dL_lays_246 ?_
                refine lv_iconst (v := 0) hx hb dL_lays_247 (by decide) ?_
                refine lv_iconst (v := 0) hx hb dL_lays_248 (by decide) ?_
                obtain ⟨r83, hr83, h⟩ := ob_some h
                refine mw_wi (my_runS (As := [.ref (ad_p0 0), .int 3, .int (1 - r21), .int 0, .int 0]) (rest := []) hC hX hM hS (c_L_call_3 (ad_p0 := ad_p0) (s_p0 := r34.2) (hO_p0 := hO_p0) (hlt := hlt) (v := r83) hr83) gL_lays_L_call rfl rfl rfl q_L_call ⟨(Nat.le_of_ble_eq_true rfl), (Nat.le_of_ble_eq_true rfl)⟩ rfl rfl (Nat.le_of_ble_eq_true rfl) hl.1 dL_lays_249 ⟨(Nat.le_of_ble_eq_true rfl), (Nat.le_of_ble_eq_true rfl)⟩) hS (fun r9 H locs σ1 hp84 hM hS => ?_)
                obtain ⟨hr9, hO9, hk85⟩ := hp84
                replace hr9 := hr9.symm
                subst hr9
                replace hO_p1 := OB.keep hO_p1 hO_p0 hap hk85
                replace hO_p0 := hO9
                refine W.eq (g2 := F0 m 252 ls [.int r83]) rfl ?_
                refine lv_iload hx hb dL_lays_252 (lv_at hl 3 rfl) ?_
                obtain ⟨k86, ek86, h⟩ := bnd_ex h
                have J86 : ∀ (x86_0 : Int64) (H : Heap) (locs : List Loc) (σ1 : mwm), MW z D σ1 H → va_S (zA z) s.heap H locs → OB K ad_p0 σ1 r34.2 → OB K ad_p1 σ1 r63.2 → k86 x86_0 = some v → ∀ ls : Array Slot, lv_has ls 16 [(0, .ref (ad_p0 0)), (1, .ref (ad_p1 0)), (4, .int v8), (6, .int r12), (11, .long r27), (13, .long r30)] → W p l e ({ frames := 9, cells := 23, slots := 138, locals := 206 } : Room) s m ([.ref (ad_p0 0), .ref (ad_p1 0), .int p2] : List Value).toArray below meth c H locs 17 102 (MQ below (qwI z D (fun r σ2 => r = b2i v.1 ∧ OB K ad_p0 σ2 v.2.1 ∧ OB K ad_p1 σ2 v.2.2)) ([.ref (ad_p0 0), .ref (ad_p1 0), .int p2] : List Value).toArray s 23 138 (zA z)) (F0 m 264 ls [.long x86_0, .int r83]) := by
                  intro x86_0 H locs σ1 hM hS hO_p0 hO_p1 h ls hl
                  rw [ek86] at h
                  obtain ⟨r87, hr87, h⟩ := ob_some h
                  refine mw_ci (mw_runS (As := [.long x86_0]) (rest := [.int r83]) hC hM hS (c_L_count (v := r87) hr87) gL_lays_L_count rfl rfl rfl q_L_count ⟨(Nat.le_of_ble_eq_true rfl), (Nat.le_of_ble_eq_true rfl)⟩ rfl rfl (Nat.le_of_ble_eq_true rfl) hl.1 dL_lays_264 ⟨(Nat.le_of_ble_eq_true rfl), (Nat.le_of_ble_eq_true rfl)⟩) ?_
                  refine lv_iload hx hb dL_lays_267 (lv_at hl 3 rfl) ?_
                  refine lv_isub hx hb dL_lays_269 ?_
                  refine lv_icmp_ne (tgt := 290) hx hb dL_lays_270 (by decide) (fun c88 => ?_) (fun c88 => ?_)
                  · replace h := it_neg c88 h
                    refine lv_iconst (v := 0) hx hb dL_lays_290 (by decide) ?_
                    refine W.widen (k := 18) (n := 108) (Nat.le_of_ble_eq_true rfl) (Nat.le_of_ble_eq_true rfl) ?_
                    refine W.eq (g2 := F0 m 291 ls [.int (b2i false)]) rfl ?_
                    exact J37 false r63.2 _ _ _ hM hS hO_p0 hO_p1 h ls (lv_sub hl [0, 1, 2, 4, 5] rfl)
                  · replace h := it_pos c88 h
                    refine lv_aload_n hx hb dL_lays_273 rfl (lv_at hl 0 rfl) ?_
                    refine lv_iconst (v := 5) hx hb dL_lays_274 (by decide) ?_
                    refine lv_iload hx hb dL_lays_275 (lv_at hl 2 rfl) ?_
                    refine lv_iconst (v := 0) hx hb dL_lays_277 (by decide) ?_
                    refine lv_iconst (v := 0) hx hb dL_lays_278 (by decide) ?_
                    obtain ⟨r89, hr89, h⟩ := ob_some h
                    refine mw_wi (my_runS (As := [.ref (ad_p0 0), .int 5, .int v8, .int 0, .int 0]) (rest := []) hC hX hM hS (c_L_call_5 (ad_p0 := ad_p0) (s_p0 := r34.2) (hO_p0 := hO_p0) (hlt := hlt) (v := r89) hr89) gL_lays_L_call rfl rfl rfl q_L_call ⟨(Nat.le_of_ble_eq_true rfl), (Nat.le_of_ble_eq_true rfl)⟩ rfl rfl (Nat.le_of_ble_eq_true rfl) hl.1 dL_lays_279 ⟨(Nat.le_of_ble_eq_true rfl), (Nat.le_of_ble_eq_true rfl)⟩) hS (fun r9 H locs σ1 hp90 hM hS => ?_)
                    obtain ⟨hr9, hO9, hk91⟩ := hp90
                    replace hr9 := hr9.symm
                    subst hr9
                    replace hO_p1 := OB.keep hO_p1 hO_p0 hap hk91
                    replace hO_p0 := hO9
                    refine W.eq (g2 := F0 m 282 ls [.int r89]) rfl ?_
                    refine lv_iconst (v := 1) hx hb dL_lays_282 (by decide) ?_
                    refine lv_icmp_ne (tgt := 290) hx hb dL_lays_283 (by decide) (fun c92 => ?_) (fun c92 => ?_)
                    · replace h := it_neg c92 h
                      refine lv_iconst (v := 0) hx hb dL_lays_290 (by decide) ?_
                      refine W.eq (g2 := F0 m 291 ls [.int (b2i false)]) rfl ?_
                      exact J37 false r63.2 _ _ _ hM hS hO_p0 hO_p1 h ls (lv_sub hl [0, 1, 2, 4, 5] rfl)
                    · replace h := it_pos c92 h
                      refine lv_iconst (v := 1) hx hb dL_lays_286 (by decide) ?_
                      refine lv_goto (tgt := 291) hx hb dL_lays_287 (by decide) ?_
                      refine W.eq (g2 := F0 m 291 ls [.int (b2i true)]) rfl ?_
                      exact J37 true r63.2 _ _ _ hM hS hO_p0 hO_p1 h ls (lv_sub hl [0, 1, 2, 4, 5] rfl)
                refine lv_if_ne (tgt := 262) hx hb dL_lays_254 (by decide) (fun c93 => ?_) (fun c93 => ?_)
                · replace h := it_neg c93 h
                  refine lv_lload hx hb dL_lays_262 (lv_at hl 1 rfl) ?_
                  exact J86 r27 _ _ _ hM hS hO_p0 hO_p1 h ls (lv_sub hl [10, 11, 8, 6, 1, 0] rfl)
                · replace h := it_pos c93 h
                  refine lv_lload hx hb dL_lays_257 (lv_at hl 0 rfl) ?_
                  refine lv_goto (tgt := 264) hx hb dL_lays_259 (by decide) ?_
                  exact J86 r30 _ _ _ hM hS hO_p0 hO_p1 h ls (lv_sub hl [10, 11, 8, 6, 1, 0] rfl)
  · replace h := it_neg c33 h
    refine lv_iload hx hb dL_lays_110 (lv_at hl 6 rfl) ?_
    refine lv_iconst (v := -1) hx hb dL_lays_112 (by decide) ?_
    obtain ⟨k94, ek94, h⟩ := bnd_ex h
    have J94 : ∀ (x94_0 : Bool) (t94_p0 : OSt) (t94_p1 : OSt) (H : Heap) (locs : List Loc) (σ1 : mwm), MW z D σ1 H → va_S (zA z) s.heap H locs → OB K ad_p0 σ1 t94_p0 → OB K ad_p1 σ1 t94_p1 → k94 x94_0 t94_p0 t94_p1 = some v → ∀ ls : Array Slot, lv_has ls 16 [] → W p l e ({ frames := 9, cells := 23, slots := 138, locals := 206 } : Room) s m ([.ref (ad_p0 0), .ref (ad_p1 0), .int p2] : List Value).toArray below meth c H locs 12 72 (MQ below (qwI z D (fun r σ2 => r = b2i v.1 ∧ OB K ad_p0 σ2 v.2.1 ∧ OB K ad_p1 σ2 v.2.2)) ([.ref (ad_p0 0), .ref (ad_p1 0), .int p2] : List Value).toArray s 23 138 (zA z)) (F0 m 151 ls [.int (b2i x94_0)]) := by
      intro x94_0 t94_p0 t94_p1 H locs σ1 hM hS hO_p0 hO_p1 h ls hl
      rw [ek94] at h
      replace h := Option.some.inj h
      subst h
      refine W.widen (k := 23) (n := 138) (Nat.le_of_ble_eq_true rfl) (Nat.le_of_ble_eq_true rfl) ?_
      exact W.zret (ty := .boolean) (v := b2i x94_0) hx hb hr (b2i_nar _) (fun t ht hW => ⟨⟨_, _, rfl, ⟨rfl, hO_p0, hO_p1⟩, by show MW z D _ t.heap; rw [ht]; exact hM⟩, hS.F ht⟩) hS.2.2 dL_lays_151 hlocks
    refine lv_icmp_ne (tgt := 150) hx hb dL_lays_113 (by decide) (fun c95 => ?_) (fun c95 => ?_)
    · replace h := it_neg c95 h
      refine lv_iconst (v := 0) hx hb dL_lays_150 (by decide) ?_
      refine W.widen (k := 12) (n := 72) (Nat.le_of_ble_eq_true rfl) (Nat.le_of_ble_eq_true rfl) ?_
      refine W.eq (g2 := F0 m 151 ls [.int (b2i false)]) rfl ?_
      exact J94 false s_p0 s_p1 _ _ _ hM hS hO_p0 hO_p1 h ls (lv_sub hl [] rfl)
    · replace h := it_pos c95 h
      refine lv_aload_n hx hb dL_lays_116 rfl (lv_at hl 10 rfl) ?_
      refine lv_bipush (v := 7) hx hb dL_lays_117 (by decide) ?_
      refine lv_iload hx hb dL_lays_119 (lv_at hl 8 rfl) ?_
      refine lv_iconst (v := 0) hx hb dL_lays_121 (by decide) ?_
      refine lv_iconst (v := 0) hx hb dL_lays_122 (by decide) ?_
      obtain ⟨r96, hr96, h⟩ := ob_some h
      refine mw_wi (my_runS (As := [.ref (ad_p0 0), .int 7, .int v8, .int 0, .int 0]) (rest := []) hC hX hM hS (c_L_call_7 (ad_p0 := ad_p0) (s_p0 := s_p0) (hO_p0 := hO_p0) (hlt := hlt) (v := r96) hr96) gL_lays_L_call rfl rfl rfl q_L_call ⟨(Nat.le_of_ble_eq_true rfl), (Nat.le_of_ble_eq_true rfl)⟩ rfl rfl (Nat.le_of_ble_eq_true rfl) hl.1 dL_lays_123 ⟨(Nat.le_of_ble_eq_true rfl), (Nat.le_of_ble_eq_true rfl)⟩) hS (fun r9 H locs σ1 hp97 hM hS => ?_)
      obtain ⟨hr9, hO9, hk98⟩ := hp97
      replace hr9 := hr9.symm
      subst hr9
      replace hO_p1 := OB.keep hO_p1 hO_p0 hap hk98
      replace hO_p0 := hO9
      refine W.eq (g2 := F0 m 126 ls [.int r96.1]) rfl ?_
      refine lv_ldc (v := -9999003) hx hb hown (hts _ l_L_lays_0) dL_lays_126 ?_
      refine lv_icmp_ne (tgt := 150) hx hb dL_lays_128 (by decide) (fun c99 => ?_) (fun c99 => ?_)
      · replace h := it_neg c99 h
        refine lv_iconst (v := 0) hx hb dL_lays_150 (by decide) ?_
        refine W.widen (k := 12) (n := 72) (Nat.le_of_ble_eq_true rfl) (Nat.le_of_ble_eq_true rfl) ?_
        refine W.eq (g2 := F0 m 151 ls [.int (b2i false)]) rfl ?_
        exact J94 false r96.2 s_p1 _ _ _ hM hS hO_p0 hO_p1 h ls (lv_sub hl [] rfl)
      · replace h := it_pos c99 h
        refine lv_aload_n hx hb dL_lays_131 rfl (lv_at hl 11 rfl) ?_
        refine lv_bipush (v := 7) hx hb dL_lays_132 (by decide) ?_
        refine lv_iload hx hb dL_lays_134 (lv_at hl 8 rfl) ?_
        refine lv_iconst (v := 0) hx hb dL_lays_136 (by decide) ?_
        refine lv_iconst (v := 0) hx hb dL_lays_137 (by decide) ?_
        obtain ⟨r100, hr100, h⟩ := ob_some h
        refine mw_wi (my_runS (As := [.ref (ad_p1 0), .int 7, .int v8, .int 0, .int 0]) (rest := []) hC hX hM hS (c_L_call_7 (ad_p0 := ad_p1) (s_p0 := s_p1) (hO_p0 := hO_p1) (hlt := hlt) (v := r100) hr100) gL_lays_L_call rfl rfl rfl q_L_call ⟨(Nat.le_of_ble_eq_true rfl), (Nat.le_of_ble_eq_true rfl)⟩ rfl rfl (Nat.le_of_ble_eq_true rfl) hl.1 dL_lays_138 ⟨(Nat.le_of_ble_eq_true rfl), (Nat.le_of_ble_eq_true rfl)⟩) hS (fun r9 H locs σ1 hp101 hM hS => ?_)
        obtain ⟨hr9, hO9, hk102⟩ := hp101
        replace hr9 := hr9.symm
        subst hr9
        replace hO_p0 := OB.keep hO_p0 hO_p1 hap.symm hk102
        replace hO_p1 := hO9
        refine W.eq (g2 := F0 m 141 ls [.int r100.1]) rfl ?_
        refine lv_ldc (v := -9999003) hx hb hown (hts _ l_L_lays_0) dL_lays_141 ?_
        refine lv_icmp_ne (tgt := 150) hx hb dL_lays_143 (by decide) (fun c103 => ?_) (fun c103 => ?_)
        · replace h := it_neg c103 h
          refine lv_iconst (v := 0) hx hb dL_lays_150 (by decide) ?_
          refine W.eq (g2 := F0 m 151 ls [.int (b2i false)]) rfl ?_
          exact J94 false r96.2 r100.2 _ _ _ hM hS hO_p0 hO_p1 h ls (lv_sub hl [] rfl)
        · replace h := it_pos c103 h
          refine lv_iconst (v := 1) hx hb dL_lays_146 (by decide) ?_
          refine lv_goto (tgt := 151) hx hb dL_lays_147 (by decide) ?_
          refine W.eq (g2 := F0 m 151 ls [.int (b2i true)]) rfl ?_
          exact J94 true r96.2 r100.2 _ _ _ hM hS hO_p0 hO_p1 h ls (lv_sub hl [] rfl)
theorem q_L_chases : yL_chases.cls ≠ "java/lang/invoke/MethodHandle" ∧ yL_chases.cls ≠ "java/lang/invoke/VarHandle" ∧ (parseMethodDescriptor yL_chases.desc).map (fun d => d.parameters.length) = some 3 := by decide +kernel
def fL_chases (s_p0 : OSt) (s_p1 : OSt) (p2 : Int32) : Option (Bool × OSt × OSt) := (fL_call_2 s_p0 (0 : Int32) (0 : Int32) (0 : Int32)).bind fun r1 => (fL_call_2 s_p0 (0 : Int32) (0 : Int32) (0 : Int32)).bind fun r4 => if (r1 * r4) = 0 then none else bnd (p2 - p2 / (r1 * r4) * (r1 * r4)) fun v8 => (fL_call_4 s_p0 v8 (0 : Int32) (0 : Int32)).bind fun r9 => (fL_call_12 s_p0 v8 (0 : Int32) (0 : Int32)).bind fun r12 => (fL_call_13 s_p0 v8 (0 : Int32) (0 : Int32)).bind fun r15 => if r9 = (-1) then (bnd (fun (x19_0 : Bool) => some (x19_0, s_p0, s_p1)) fun k19 => if r15 = (-1) then (bnd (fun (x21_0 : Bool) => bnd (fun (x22_0 : Bool) => if (b2i x21_0) = (b2i x22_0) then (k19 true) else (k19 false)) fun k22 => if r12 = (-1) then (k22 true) else (k22 false)) fun k21 => if r9 = (-1) then (k21 true) else (k21 false)) else (k19 false)) else (if r12 = 1 then ((fL_call_4 s_p0 v8 (2 : Int32) (0 : Int32)).bind fun r27 => bnd (fun (x30_0 : Bool) => if x30_0 = true then ((fL_call_2 s_p0 (2 : Int32) (0 : Int32) (0 : Int32)).bind fun r32 => if r32 = r9 then (some (x30_0, s_p0, s_p1)) else ((fL_call_5 s_p0 r15 (0 : Int32) (0 : Int32)).bind fun r36 => if r36 ≤ 0 then ((fL_call_7 s_p0 r15 (0 : Int32) (0 : Int32)).bind fun r40 => bnd (fun (x43_0 : Bool) (t43_p1 : OSt) => bnd (fun (x44_0 : Bool) => bnd (fun (x45_0 : Bool) (t45_p0 : OSt) (t45_p1 : OSt) => some (x45_0, t45_p0, t45_p1)) fun k45 => if x44_0 = true then ((fL_call_10 r40.2 (0 : Int32) (0 : Int32) (0 : Int32)).bind fun r47 => (fL_thrown r47.1).bind fun r50 => if r50 = true then (k45 false r47.2 t43_p1) else ((fL_call_10 t43_p1 (0 : Int32) (0 : Int32) (0 : Int32)).bind fun r52 => (fL_thrown r52.1).bind fun r55 => if r55 = true then (k45 false r47.2 r52.2) else ((fL_call_12 r47.2 v8 (0 : Int32) (0 : Int32)).bind fun r57 => if r57 = 1 then (k45 true r47.2 r52.2) else (k45 false r47.2 r52.2)))) else (k45 false r40.2 t43_p1)) fun k44 => if x43_0 = true then (if r27 = 1 then ((fL_call_4 r40.2 v8 (0 : Int32) (0 : Int32)).bind fun r71 => if r71 = (-1) then (k44 true) else (k44 false)) else ((fL_call_4 r40.2 v8 (2 : Int32) (0 : Int32)).bind fun r63 => if r63 = 1 then ((fL_call_12 r40.2 v8 (1 : Int32) (0 : Int32)).bind fun r67 => if r67 = 1 then (k44 true) else (k44 false)) else (k44 false))) else (k44 false)) fun k43 => if r40.1 < 0 then (k43 false s_p1) else ((fL_call_7 s_p1 r15 (0 : Int32) (0 : Int32)).bind fun r76 => if r76.1 < 0 then (k43 false r76.2) else (k43 true r76.2))) else (some (x30_0, s_p0, s_p1)))) else (some (x30_0, s_p0, s_p1))) fun k30 => if r15 < 0 then (k30 false) else ((fL_groups s_p0 v8 (1 : Int32)).bind fun r81 => if ((shrL r81 r15) &&& 1) = 1 then (if 3 ≤ r27 then (k30 false) else (k30 true)) else (k30 false))) else (bnd (fun (x86_0 : Bool) => some (x86_0, s_p0, s_p1)) fun k86 => if r15 = (-1) then (bnd (fun (x88_0 : Bool) => bnd (fun (x89_0 : Bool) => if (b2i x88_0) = (b2i x89_0) then (k86 true) else (k86 false)) fun k89 => if r12 = (-1) then (k89 true) else (k89 false)) fun k88 => if r9 = (-1) then (k88 true) else (k88 false)) else (k86 false)))
set_option maxHeartbeats 8000000 in
set_option maxRecDepth 100000 in
theorem c_L_chases {l : Launch} {z : Nat} {D : va_G} {K : Nat → ClassId} {σ : mwm} {ad_p0 : Nat → Nat} {ad_p1 : Nat → Nat} {s_p0 : OSt} {s_p1 : OSt} {p2 : Int32} (hO_p0 : OB K ad_p0 σ s_p0) (hO_p1 : OB K ad_p1 σ s_p1) (hap : apt ad_p0 ad_p1) (hlt : l.stackTraces = false) {v : Bool × OSt × OSt} (h : fL_chases s_p0 s_p1 p2 = some v) : Met l yL_chases wsL_chases ({ frames := 74, cells := 16, slots := 96, locals := 3107 } : Room) (PCx z D K [.ref (ad_p0 0), .ref (ad_p1 0), .int p2] σ) (qwI z D (fun r σ2 => r = b2i v.1 ∧ OB K ad_p0 σ2 v.2.1 ∧ OB K ad_p1 σ2 v.2.2)) 16 96 (zA z) := by
  refine my_enter (cc := cL_chases) (maxL := 10) (ret := (some .boolean)) (own := RL) (lv := [(0, .ref (ad_p0 0)), (1, .ref (ad_p1 0)), (2, .int p2)]) (by decide) rfl rfl (Nat.le_of_ble_eq_true rfl) rfl ?_
  intro p e s m below meth c ls hC hx hb hown hts hK hr hlocks hnm hz hM hS hl hX
  unfold fL_chases at h
  refine lv_aload_n hx hb dL_chases_0 rfl (lv_at hl 0 rfl) ?_
  refine lv_iconst (v := 2) hx hb dL_chases_1 (by decide) ?_
  refine lv_iconst (v := 0) hx hb dL_chases_2 (by decide) ?_
  refine lv_iconst (v := 0) hx hb dL_chases_3 (by decide) ?_
  refine lv_iconst (v := 0) hx hb dL_chases_4 (by decide) ?_
  obtain ⟨r1, hr1, h⟩ := ob_some h
  refine mw_wi (my_runS (As := [.ref (ad_p0 0), .int 2, .int 0, .int 0, .int 0]) (rest := []) hC hX hM hS (c_L_call_2 (ad_p0 := ad_p0) (s_p0 := s_p0) (hO_p0 := hO_p0) (hlt := hlt) (v := r1) hr1) gL_chases_L_call rfl rfl rfl q_L_call ⟨(Nat.le_of_ble_eq_true rfl), (Nat.le_of_ble_eq_true rfl)⟩ rfl rfl (Nat.le_of_ble_eq_true rfl) hl.1 dL_chases_5 ⟨(Nat.le_of_ble_eq_true rfl), (Nat.le_of_ble_eq_true rfl)⟩) hS (fun r9 H locs σ1 hp2 hM hS => ?_)
  obtain ⟨hr9, hO9, hk3⟩ := hp2
  replace hr9 := hr9.symm
  subst hr9
  replace hO_p1 := OB.keep hO_p1 hO_p0 hap hk3
  replace hO_p0 := hO9
  refine W.eq (g2 := F0 m 8 ls [.int r1]) rfl ?_
  refine lv_aload_n hx hb dL_chases_8 rfl (lv_at hl 0 rfl) ?_
  refine lv_iconst (v := 2) hx hb dL_chases_9 (by decide) ?_
  refine lv_iconst (v := 0) hx hb dL_chases_10 (by decide) ?_
  refine lv_iconst (v := 0) hx hb dL_chases_11 (by decide) ?_
  refine lv_iconst (v := 0) hx hb dL_chases_12 (by decide) ?_
  obtain ⟨r4, hr4, h⟩ := ob_some h
  refine mw_wi (my_runS (As := [.ref (ad_p0 0), .int 2, .int 0, .int 0, .int 0]) (rest := [.int r1]) hC hX hM hS (c_L_call_2 (ad_p0 := ad_p0) (s_p0 := s_p0) (hO_p0 := hO_p0) (hlt := hlt) (v := r4) hr4) gL_chases_L_call rfl rfl rfl q_L_call ⟨(Nat.le_of_ble_eq_true rfl), (Nat.le_of_ble_eq_true rfl)⟩ rfl rfl (Nat.le_of_ble_eq_true rfl) hl.1 dL_chases_13 ⟨(Nat.le_of_ble_eq_true rfl), (Nat.le_of_ble_eq_true rfl)⟩) hS (fun r9 H locs σ1 hp5 hM hS => ?_)
  obtain ⟨hr9, hO9, hk6⟩ := hp5
  replace hr9 := hr9.symm
  subst hr9
  replace hO_p1 := OB.keep hO_p1 hO_p0 hap hk6
  replace hO_p0 := hO9
  refine W.eq (g2 := F0 m 16 ls [.int r4, .int r1]) rfl ?_
  refine lv_imul hx hb dL_chases_16 ?_
  refine lv_istore_n (lv' := [(3, .int (r1 * r4)), (0, .ref (ad_p0 0)), (1, .ref (ad_p1 0)), (2, .int p2)]) hx hb dL_chases_17 rfl hl (by decide) rfl (fun ls hl => ?_)
  refine lv_iload_n hx hb dL_chases_18 rfl (lv_at hl 3 rfl) ?_
  refine lv_iload_n hx hb dL_chases_19 rfl (lv_at hl 0 rfl) ?_
  by_cases c7 : (r1 * r4) = 0
  · replace h := it_pos c7 h; cases h
  replace h := it_neg c7 h
  refine lv_irem hx hb dL_chases_20 c7 ?_
  refine lv_topi (fun v8 ev8 => ?_)
  replace h := bnd_at ev8 h
  refine lv_istore (lv' := [(4, .int v8), (3, .int (r1 * r4)), (0, .ref (ad_p0 0)), (1, .ref (ad_p1 0)), (2, .int p2)]) hx hb dL_chases_21 hl (by decide) rfl (fun ls hl => ?_)
  refine lv_aload_n hx hb dL_chases_23 rfl (lv_at hl 2 rfl) ?_
  refine lv_iconst (v := 4) hx hb dL_chases_24 (by decide) ?_
  refine lv_iload hx hb dL_chases_25 (lv_at hl 0 rfl) ?_
  refine lv_iconst (v := 0) hx hb dL_chases_27 (by decide) ?_
  refine lv_iconst (v := 0) hx hb dL_chases_28 (by decide) ?_
  obtain ⟨r9, hr9, h⟩ := ob_some h
  refine mw_wi (my_runS (As := [.ref (ad_p0 0), .int 4, .int v8, .int 0, .int 0]) (rest := []) hC hX hM hS (c_L_call_4 (ad_p0 := ad_p0) (s_p0 := s_p0) (hO_p0 := hO_p0) (hlt := hlt) (v := r9) hr9) gL_chases_L_call rfl rfl rfl q_L_call ⟨(Nat.le_of_ble_eq_true rfl), (Nat.le_of_ble_eq_true rfl)⟩ rfl rfl (Nat.le_of_ble_eq_true rfl) hl.1 dL_chases_29 ⟨(Nat.le_of_ble_eq_true rfl), (Nat.le_of_ble_eq_true rfl)⟩) hS (fun r9 H locs σ1 hp10 hM hS => ?_)
  obtain ⟨hr9, hO9, hk11⟩ := hp10
  replace hr9 := hr9.symm
  subst hr9
  replace hO_p1 := OB.keep hO_p1 hO_p0 hap hk11
  replace hO_p0 := hO9
  refine W.eq (g2 := F0 m 32 ls [.int r9]) rfl ?_
  refine lv_istore (lv' := [(5, .int r9), (4, .int v8), (3, .int (r1 * r4)), (0, .ref (ad_p0 0)), (1, .ref (ad_p1 0)), (2, .int p2)]) hx hb dL_chases_32 hl (by decide) rfl (fun ls hl => ?_)
  refine lv_aload_n hx hb dL_chases_34 rfl (lv_at hl 3 rfl) ?_
  refine lv_bipush (v := 12) hx hb dL_chases_35 (by decide) ?_
  refine lv_iload hx hb dL_chases_37 (lv_at hl 1 rfl) ?_
  refine lv_iconst (v := 0) hx hb dL_chases_39 (by decide) ?_
  refine lv_iconst (v := 0) hx hb dL_chases_40 (by decide) ?_
  obtain ⟨r12, hr12, h⟩ := ob_some h
  refine mw_wi (my_runS (As := [.ref (ad_p0 0), .int 12, .int v8, .int 0, .int 0]) (rest := []) hC hX hM hS (c_L_call_12 (ad_p0 := ad_p0) (s_p0 := s_p0) (hO_p0 := hO_p0) (hlt := hlt) (v := r12) hr12) gL_chases_L_call rfl rfl rfl q_L_call ⟨(Nat.le_of_ble_eq_true rfl), (Nat.le_of_ble_eq_true rfl)⟩ rfl rfl (Nat.le_of_ble_eq_true rfl) hl.1 dL_chases_41 ⟨(Nat.le_of_ble_eq_true rfl), (Nat.le_of_ble_eq_true rfl)⟩) hS (fun r9 H locs σ1 hp13 hM hS => ?_)
  obtain ⟨hr9, hO9, hk14⟩ := hp13
  replace hr9 := hr9.symm
  subst hr9
  replace hO_p1 := OB.keep hO_p1 hO_p0 hap hk14
  replace hO_p0 := hO9
  refine W.eq (g2 := F0 m 44 ls [.int r12]) rfl ?_
  refine lv_istore (lv' := [(6, .int r12), (5, .int r9), (4, .int v8), (3, .int (r1 * r4)), (0, .ref (ad_p0 0)), (1, .ref (ad_p1 0)), (2, .int p2)]) hx hb dL_chases_44 hl (by decide) rfl (fun ls hl => ?_)
  refine lv_aload_n hx hb dL_chases_46 rfl (lv_at hl 4 rfl) ?_
  refine lv_bipush (v := 13) hx hb dL_chases_47 (by decide) ?_
  refine lv_iload hx hb dL_chases_49 (lv_at hl 2 rfl) ?_
  refine lv_iconst (v := 0) hx hb dL_chases_51 (by decide) ?_
  refine lv_iconst (v := 0) hx hb dL_chases_52 (by decide) ?_
  obtain ⟨r15, hr15, h⟩ := ob_some h
  refine mw_wi (my_runS (As := [.ref (ad_p0 0), .int 13, .int v8, .int 0, .int 0]) (rest := []) hC hX hM hS (c_L_call_13 (ad_p0 := ad_p0) (s_p0 := s_p0) (hO_p0 := hO_p0) (hlt := hlt) (v := r15) hr15) gL_chases_L_call rfl rfl rfl q_L_call ⟨(Nat.le_of_ble_eq_true rfl), (Nat.le_of_ble_eq_true rfl)⟩ rfl rfl (Nat.le_of_ble_eq_true rfl) hl.1 dL_chases_53 ⟨(Nat.le_of_ble_eq_true rfl), (Nat.le_of_ble_eq_true rfl)⟩) hS (fun r9 H locs σ1 hp16 hM hS => ?_)
  obtain ⟨hr9, hO9, hk17⟩ := hp16
  replace hr9 := hr9.symm
  subst hr9
  replace hO_p1 := OB.keep hO_p1 hO_p0 hap hk17
  replace hO_p0 := hO9
  refine W.eq (g2 := F0 m 56 ls [.int r15]) rfl ?_
  refine lv_istore (lv' := [(7, .int r15), (6, .int r12), (5, .int r9), (4, .int v8), (3, .int (r1 * r4)), (0, .ref (ad_p0 0)), (1, .ref (ad_p1 0)), (2, .int p2)]) hx hb dL_chases_56 hl (by decide) rfl (fun ls hl => ?_)
  refine lv_iload hx hb dL_chases_58 (lv_at hl 2 rfl) ?_
  refine lv_iconst (v := -1) hx hb dL_chases_60 (by decide) ?_
  refine lv_icmp_eq (tgt := 70) hx hb dL_chases_61 (by decide) (fun c18 => ?_) (fun c18 => ?_)
  · replace h := it_pos c18 h
    refine lv_iload hx hb dL_chases_70 (lv_at hl 0 rfl) ?_
    refine lv_iconst (v := -1) hx hb dL_chases_72 (by decide) ?_
    obtain ⟨k19, ek19, h⟩ := bnd_ex h
    have J19 : ∀ (x19_0 : Bool) (H : Heap) (locs : List Loc) (σ1 : mwm), MW z D σ1 H → va_S (zA z) s.heap H locs → OB K ad_p0 σ1 s_p0 → OB K ad_p1 σ1 s_p1 → k19 x19_0 = some v → ∀ ls : Array Slot, lv_has ls 10 [] → W p l e ({ frames := 74, cells := 16, slots := 96, locals := 3107 } : Room) s m ([.ref (ad_p0 0), .ref (ad_p1 0), .int p2] : List Value).toArray below meth c H locs 5 30 (MQ below (qwI z D (fun r σ2 => r = b2i v.1 ∧ OB K ad_p0 σ2 v.2.1 ∧ OB K ad_p1 σ2 v.2.2)) ([.ref (ad_p0 0), .ref (ad_p1 0), .int p2] : List Value).toArray s 16 96 (zA z)) (F0 m 106 ls [.int (b2i x19_0)]) := by
      intro x19_0 H locs σ1 hM hS hO_p0 hO_p1 h ls hl
      rw [ek19] at h
      replace h := Option.some.inj h
      subst h
      refine W.widen (k := 16) (n := 96) (Nat.le_of_ble_eq_true rfl) (Nat.le_of_ble_eq_true rfl) ?_
      exact W.zret (ty := .boolean) (v := b2i x19_0) hx hb hr (b2i_nar _) (fun t ht hW => ⟨⟨_, _, rfl, ⟨rfl, hO_p0, hO_p1⟩, by show MW z D _ t.heap; rw [ht]; exact hM⟩, hS.F ht⟩) hS.2.2 dL_chases_106 hlocks
    refine lv_icmp_ne (tgt := 105) hx hb dL_chases_73 (by decide) (fun c20 => ?_) (fun c20 => ?_)
    · replace h := it_neg c20 h
      refine lv_iconst (v := 0) hx hb dL_chases_105 (by decide) ?_
      refine W.eq (g2 := F0 m 106 ls [.int (b2i false)]) rfl ?_
      exact J19 false _ _ _ hM hS hO_p0 hO_p1 h ls (lv_sub hl [] rfl)
    · replace h := it_pos c20 h
      refine lv_iload hx hb dL_chases_76 (lv_at hl 2 rfl) ?_
      refine lv_iconst (v := -1) hx hb dL_chases_78 (by decide) ?_
      obtain ⟨k21, ek21, h⟩ := bnd_ex h
      have J21 : ∀ (x21_0 : Bool) (H : Heap) (locs : List Loc) (σ1 : mwm), MW z D σ1 H → va_S (zA z) s.heap H locs → OB K ad_p0 σ1 s_p0 → OB K ad_p1 σ1 s_p1 → k21 x21_0 = some v → ∀ ls : Array Slot, lv_has ls 10 [(6, .int r12)] → W p l e ({ frames := 74, cells := 16, slots := 96, locals := 3107 } : Room) s m ([.ref (ad_p0 0), .ref (ad_p1 0), .int p2] : List Value).toArray below meth c H locs 5 30 (MQ below (qwI z D (fun r σ2 => r = b2i v.1 ∧ OB K ad_p0 σ2 v.2.1 ∧ OB K ad_p1 σ2 v.2.2)) ([.ref (ad_p0 0), .ref (ad_p1 0), .int p2] : List Value).toArray s 16 96 (zA z)) (F0 m 87 ls [.int (b2i x21_0)]) := by
        intro x21_0 H locs σ1 hM hS hO_p0 hO_p1 h ls hl
        rw [ek21] at h
        refine lv_iload hx hb dL_chases_87 (lv_at hl 0 rfl) ?_
        refine lv_iconst (v := -1) hx hb dL_chases_89 (by decide) ?_
        obtain ⟨k22, ek22, h⟩ := bnd_ex h
        have J22 : ∀ (x22_0 : Bool) (H : Heap) (locs : List Loc) (σ1 : mwm), MW z D σ1 H → va_S (zA z) s.heap H locs → OB K ad_p0 σ1 s_p0 → OB K ad_p1 σ1 s_p1 → k22 x22_0 = some v → ∀ ls : Array Slot, lv_has ls 10 [] → W p l e ({ frames := 74, cells := 16, slots := 96, locals := 3107 } : Room) s m ([.ref (ad_p0 0), .ref (ad_p1 0), .int p2] : List Value).toArray below meth c H locs 5 30 (MQ below (qwI z D (fun r σ2 => r = b2i v.1 ∧ OB K ad_p0 σ2 v.2.1 ∧ OB K ad_p1 σ2 v.2.2)) ([.ref (ad_p0 0), .ref (ad_p1 0), .int p2] : List Value).toArray s 16 96 (zA z)) (F0 m 98 ls [.int (b2i x22_0), .int (b2i x21_0)]) := by
          intro x22_0 H locs σ1 hM hS hO_p0 hO_p1 h ls hl
          rw [ek22] at h
          refine lv_icmp_ne (tgt := 105) hx hb dL_chases_98 (by decide) (fun c23 => ?_) (fun c23 => ?_)
          · replace h := it_neg c23 h
            refine lv_iconst (v := 0) hx hb dL_chases_105 (by decide) ?_
            refine W.eq (g2 := F0 m 106 ls [.int (b2i false)]) rfl ?_
            exact J19 false _ _ _ hM hS hO_p0 hO_p1 h ls (lv_sub hl [] rfl)
          · replace h := it_pos c23 h
            refine lv_iconst (v := 1) hx hb dL_chases_101 (by decide) ?_
            refine lv_goto (tgt := 106) hx hb dL_chases_102 (by decide) ?_
            refine W.eq (g2 := F0 m 106 ls [.int (b2i true)]) rfl ?_
            exact J19 true _ _ _ hM hS hO_p0 hO_p1 h ls (lv_sub hl [] rfl)
        refine lv_icmp_ne (tgt := 97) hx hb dL_chases_90 (by decide) (fun c24 => ?_) (fun c24 => ?_)
        · replace h := it_neg c24 h
          refine lv_iconst (v := 0) hx hb dL_chases_97 (by decide) ?_
          refine W.eq (g2 := F0 m 98 ls [.int (b2i false), .int (b2i x21_0)]) rfl ?_
          exact J22 false _ _ _ hM hS hO_p0 hO_p1 h ls (lv_sub hl [] rfl)
        · replace h := it_pos c24 h
          refine lv_iconst (v := 1) hx hb dL_chases_93 (by decide) ?_
          refine lv_goto (tgt := 98) hx hb dL_chases_94 (by decide) ?_
          refine W.eq (g2 := F0 m 98 ls [.int (b2i true), .int (b2i x21_0)]) rfl ?_
          exact J22 true _ _ _ hM hS hO_p0 hO_p1 h ls (lv_sub hl [] rfl)
      refine lv_icmp_ne (tgt := 86) hx hb dL_chases_79 (by decide) (fun c25 => ?_) (fun c25 => ?_)
      · replace h := it_neg c25 h
        refine lv_iconst (v := 0) hx hb dL_chases_86 (by decide) ?_
        refine W.eq (g2 := F0 m 87 ls [.int (b2i false)]) rfl ?_
        exact J21 false _ _ _ hM hS hO_p0 hO_p1 h ls (lv_sub hl [1] rfl)
      · replace h := it_pos c25 h
        refine lv_iconst (v := 1) hx hb dL_chases_82 (by decide) ?_
        refine lv_goto (tgt := 87) hx hb dL_chases_83 (by decide) ?_
        refine W.eq (g2 := F0 m 87 ls [.int (b2i true)]) rfl ?_
        exact J21 true _ _ _ hM hS hO_p0 hO_p1 h ls (lv_sub hl [1] rfl)
  · replace h := it_neg c18 h
    refine lv_iload hx hb dL_chases_64 (lv_at hl 1 rfl) ?_
    refine lv_iconst (v := 1) hx hb dL_chases_66 (by decide) ?_
    refine lv_icmp_eq (tgt := 107) hx hb dL_chases_67 (by decide) (fun c26 => ?_) (fun c26 => ?_)
    · replace h := it_pos c26 h
      refine lv_aload_n hx hb dL_chases_107 rfl (lv_at hl 5 rfl) ?_
      refine lv_iconst (v := 4) hx hb dL_chases_108 (by decide) ?_
      refine lv_iload hx hb dL_chases_109 (lv_at hl 3 rfl) ?_
      refine lv_iconst (v := 2) hx hb dL_chases_111 (by decide) ?_
      refine lv_iconst (v := 0) hx hb dL_chases_112 (by decide) ?_
      obtain ⟨r27, hr27, h⟩ := ob_some h
      refine mw_wi (my_runS (As := [.ref (ad_p0 0), .int 4, .int v8, .int 2, .int 0]) (rest := []) hC hX hM hS (c_L_call_4 (ad_p0 := ad_p0) (s_p0 := s_p0) (hO_p0 := hO_p0) (hlt := hlt) (v := r27) hr27) gL_chases_L_call rfl rfl rfl q_L_call ⟨(Nat.le_of_ble_eq_true rfl), (Nat.le_of_ble_eq_true rfl)⟩ rfl rfl (Nat.le_of_ble_eq_true rfl) hl.1 dL_chases_113 ⟨(Nat.le_of_ble_eq_true rfl), (Nat.le_of_ble_eq_true rfl)⟩) hS (fun r9 H locs σ1 hp28 hM hS => ?_)
      obtain ⟨hr9, hO9, hk29⟩ := hp28
      replace hr9 := hr9.symm
      subst hr9
      replace hO_p1 := OB.keep hO_p1 hO_p0 hap hk29
      replace hO_p0 := hO9
      refine W.eq (g2 := F0 m 116 ls [.int r27]) rfl ?_
      refine lv_istore (lv' := [(8, .int r27), (7, .int r15), (6, .int r12), (5, .int r9), (4, .int v8), (3, .int (r1 * r4)), (0, .ref (ad_p0 0)), (1, .ref (ad_p1 0)), (2, .int p2)]) hx hb dL_chases_116 hl (by decide) rfl (fun ls hl => ?_)
      refine lv_iload hx hb dL_chases_118 (lv_at hl 1 rfl) ?_
      obtain ⟨k30, ek30, h⟩ := bnd_ex h
      have J30 : ∀ (x30_0 : Bool) (H : Heap) (locs : List Loc) (σ1 : mwm), MW z D σ1 H → va_S (zA z) s.heap H locs → OB K ad_p0 σ1 s_p0 → OB K ad_p1 σ1 s_p1 → k30 x30_0 = some v → ∀ ls : Array Slot, lv_has ls 10 [(0, .ref (ad_p0 0)), (1, .ref (ad_p1 0)), (4, .int v8), (5, .int r9), (7, .int r15), (8, .int r27)] → W p l e ({ frames := 74, cells := 16, slots := 96, locals := 3107 } : Room) s m ([.ref (ad_p0 0), .ref (ad_p1 0), .int p2] : List Value).toArray below meth c H locs 7 42 (MQ below (qwI z D (fun r σ2 => r = b2i v.1 ∧ OB K ad_p0 σ2 v.2.1 ∧ OB K ad_p1 σ2 v.2.2)) ([.ref (ad_p0 0), .ref (ad_p1 0), .int p2] : List Value).toArray s 16 96 (zA z)) (F0 m 151 ls [.int (b2i x30_0)]) := by
        intro x30_0 H locs σ1 hM hS hO_p0 hO_p1 h ls hl
        rw [ek30] at h
        refine lv_istore (lv' := [(9, .int (b2i x30_0)), (0, .ref (ad_p0 0)), (1, .ref (ad_p1 0)), (4, .int v8), (5, .int r9), (7, .int r15), (8, .int r27)]) hx hb dL_chases_151 hl (by decide) rfl (fun ls hl => ?_)
        refine lv_iload hx hb dL_chases_153 (lv_at hl 0 rfl) ?_
        refine lv_if_eq (tgt := 183) hx hb dL_chases_155 (by decide) (fun c31 => ?_) (fun c31 => ?_)
        · replace c31 := b2i_eq0.mp c31
          replace h := it_neg c31 h
          refine lv_iload hx hb dL_chases_183 (lv_at hl 0 rfl) ?_
          replace h := Option.some.inj h
          subst h
          refine W.widen (k := 16) (n := 96) (Nat.le_of_ble_eq_true rfl) (Nat.le_of_ble_eq_true rfl) ?_
          exact W.zret (ty := .boolean) (v := b2i x30_0) hx hb hr (b2i_nar _) (fun t ht hW => ⟨⟨_, _, rfl, ⟨rfl, hO_p0, hO_p1⟩, by show MW z D _ t.heap; rw [ht]; exact hM⟩, hS.F ht⟩) hS.2.2 dL_chases_185 hlocks
        · replace c31 := b2i_ne0.mp c31
          replace h := it_pos c31 h
          refine lv_aload_n hx hb dL_chases_158 rfl (lv_at hl 1 rfl) ?_
          refine lv_iconst (v := 2) hx hb dL_chases_159 (by decide) ?_
          refine lv_iconst (v := 2) hx hb dL_chases_160 (by decide) ?_
          refine lv_iconst (v := 0) hx hb dL_chases_161 (by decide) ?_
          refine lv_iconst (v := 0) hx hb dL_chases_162 (by decide) ?_
          obtain ⟨r32, hr32, h⟩ := ob_some h
          refine mw_wi (my_runS (As := [.ref (ad_p0 0), .int 2, .int 2, .int 0, .int 0]) (rest := []) hC hX hM hS (c_L_call_2 (ad_p0 := ad_p0) (s_p0 := s_p0) (hO_p0 := hO_p0) (hlt := hlt) (v := r32) hr32) gL_chases_L_call rfl rfl rfl q_L_call ⟨(Nat.le_of_ble_eq_true rfl), (Nat.le_of_ble_eq_true rfl)⟩ rfl rfl (Nat.le_of_ble_eq_true rfl) hl.1 dL_chases_163 ⟨(Nat.le_of_ble_eq_true rfl), (Nat.le_of_ble_eq_true rfl)⟩) hS (fun r9 H locs σ1 hp33 hM hS => ?_)
          obtain ⟨hr9, hO9, hk34⟩ := hp33
          replace hr9 := hr9.symm
          subst hr9
          replace hO_p1 := OB.keep hO_p1 hO_p0 hap hk34
          replace hO_p0 := hO9
          refine W.eq (g2 := F0 m 166 ls [.int r32]) rfl ?_
          refine lv_iload hx hb dL_chases_166 (lv_at hl 4 rfl) ?_
          refine lv_icmp_eq (tgt := 183) hx hb dL_chases_168 (by decide) (fun c35 => ?_) (fun c35 => ?_)
          · replace h := it_pos c35 h
            refine lv_iload hx hb dL_chases_183 (lv_at hl 0 rfl) ?_
            replace h := Option.some.inj h
            subst h
            refine W.widen (k := 16) (n := 96) (Nat.le_of_ble_eq_true rfl) (Nat.le_of_ble_eq_true rfl) ?_
            exact W.zret (ty := .boolean) (v := b2i x30_0) hx hb hr (b2i_nar _) (fun t ht hW => ⟨⟨_, _, rfl, ⟨rfl, hO_p0, hO_p1⟩, by show MW z D _ t.heap; rw [ht]; exact hM⟩, hS.F ht⟩) hS.2.2 dL_chases_185 hlocks
          · replace h := it_neg c35 h
            refine lv_aload_n hx hb dL_chases_171 rfl (lv_at hl 1 rfl) ?_
            refine lv_iconst (v := 5) hx hb dL_chases_172 (by decide) ?_
            refine lv_iload hx hb dL_chases_173 (lv_at hl 5 rfl) ?_
            refine lv_iconst (v := 0) hx hb dL_chases_175 (by decide) ?_
            refine lv_iconst (v := 0) hx hb dL_chases_176 (by decide) ?_
            obtain ⟨r36, hr36, h⟩ := ob_some h
            refine mw_wi (my_runS (As := [.ref (ad_p0 0), .int 5, .int r15, .int 0, .int 0]) (rest := []) hC hX hM hS (c_L_call_5 (ad_p0 := ad_p0) (s_p0 := s_p0) (hO_p0 := hO_p0) (hlt := hlt) (v := r36) hr36) gL_chases_L_call rfl rfl rfl q_L_call ⟨(Nat.le_of_ble_eq_true rfl), (Nat.le_of_ble_eq_true rfl)⟩ rfl rfl (Nat.le_of_ble_eq_true rfl) hl.1 dL_chases_177 ⟨(Nat.le_of_ble_eq_true rfl), (Nat.le_of_ble_eq_true rfl)⟩) hS (fun r9 H locs σ1 hp37 hM hS => ?_)
            obtain ⟨hr9, hO9, hk38⟩ := hp37
            replace hr9 := hr9.symm
            subst hr9
            replace hO_p1 := OB.keep hO_p1 hO_p0 hap hk38
            replace hO_p0 := hO9
            refine W.eq (g2 := F0 m 180 ls [.int r36]) rfl ?_
            refine lv_if_le (tgt := 186) hx hb dL_chases_180 (by decide) (fun c39 => ?_) (fun c39 => ?_)
            · replace h := it_pos c39 h
              refine lv_aload_n hx hb dL_chases_186 rfl (lv_at hl 1 rfl) ?_
              refine lv_bipush (v := 7) hx hb dL_chases_187 (by decide) ?_
              refine lv_iload hx hb dL_chases_189 (lv_at hl 5 rfl) ?_
              refine lv_iconst (v := 0) hx hb dL_chases_191 (by decide) ?_
              refine lv_iconst (v := 0) hx hb dL_chases_192 (by decide) ?_
              obtain ⟨r40, hr40, h⟩ := ob_some h
              refine mw_wi (my_runS (As := [.ref (ad_p0 0), .int 7, .int r15, .int 0, .int 0]) (rest := []) hC hX hM hS (c_L_call_7 (ad_p0 := ad_p0) (s_p0 := s_p0) (hO_p0 := hO_p0) (hlt := hlt) (v := r40) hr40) gL_chases_L_call rfl rfl rfl q_L_call ⟨(Nat.le_of_ble_eq_true rfl), (Nat.le_of_ble_eq_true rfl)⟩ rfl rfl (Nat.le_of_ble_eq_true rfl) hl.1 dL_chases_193 ⟨(Nat.le_of_ble_eq_true rfl), (Nat.le_of_ble_eq_true rfl)⟩) hS (fun r9 H locs σ1 hp41 hM hS => ?_)
              obtain ⟨hr9, hO9, hk42⟩ := hp41
              replace hr9 := hr9.symm
              subst hr9
              replace hO_p1 := OB.keep hO_p1 hO_p0 hap hk42
              replace hO_p0 := hO9
              refine W.eq (g2 := F0 m 196 ls [.int r40.1]) rfl ?_
              obtain ⟨k43, ek43, h⟩ := bnd_ex h
              have J43 : ∀ (x43_0 : Bool) (t43_p1 : OSt) (H : Heap) (locs : List Loc) (σ1 : mwm), MW z D σ1 H → va_S (zA z) s.heap H locs → OB K ad_p0 σ1 r40.2 → OB K ad_p1 σ1 t43_p1 → k43 x43_0 t43_p1 = some v → ∀ ls : Array Slot, lv_has ls 10 [(0, .ref (ad_p0 0)), (1, .ref (ad_p1 0)), (4, .int v8), (8, .int r27)] → W p l e ({ frames := 74, cells := 16, slots := 96, locals := 3107 } : Room) s m ([.ref (ad_p0 0), .ref (ad_p1 0), .int p2] : List Value).toArray below meth c H locs 11 66 (MQ below (qwI z D (fun r σ2 => r = b2i v.1 ∧ OB K ad_p0 σ2 v.2.1 ∧ OB K ad_p1 σ2 v.2.2)) ([.ref (ad_p0 0), .ref (ad_p1 0), .int p2] : List Value).toArray s 16 96 (zA z)) (F0 m 217 ls [.int (b2i x43_0)]) := by
                intro x43_0 t43_p1 H locs σ1 hM hS hO_p0 hO_p1 h ls hl
                rw [ek43] at h
                refine lv_istore (lv' := [(9, .int (b2i x43_0)), (0, .ref (ad_p0 0)), (1, .ref (ad_p1 0)), (4, .int v8), (8, .int r27)]) hx hb dL_chases_217 hl (by decide) rfl (fun ls hl => ?_)
                refine lv_iload hx hb dL_chases_219 (lv_at hl 0 rfl) ?_
                obtain ⟨k44, ek44, h⟩ := bnd_ex h
                have J44 : ∀ (x44_0 : Bool) (H : Heap) (locs : List Loc) (σ1 : mwm), MW z D σ1 H → va_S (zA z) s.heap H locs → OB K ad_p0 σ1 r40.2 → OB K ad_p1 σ1 t43_p1 → k44 x44_0 = some v → ∀ ls : Array Slot, lv_has ls 10 [(0, .ref (ad_p0 0)), (1, .ref (ad_p1 0)), (4, .int v8)] → W p l e ({ frames := 74, cells := 16, slots := 96, locals := 3107 } : Room) s m ([.ref (ad_p0 0), .ref (ad_p1 0), .int p2] : List Value).toArray below meth c H locs 13 78 (MQ below (qwI z D (fun r σ2 => r = b2i v.1 ∧ OB K ad_p0 σ2 v.2.1 ∧ OB K ad_p1 σ2 v.2.2)) ([.ref (ad_p0 0), .ref (ad_p1 0), .int p2] : List Value).toArray s 16 96 (zA z)) (F0 m 278 ls [.int (b2i x44_0)]) := by
                  intro x44_0 H locs σ1 hM hS hO_p0 hO_p1 h ls hl
                  rw [ek44] at h
                  refine lv_istore (lv' := [(9, .int (b2i x44_0)), (0, .ref (ad_p0 0)), (1, .ref (ad_p1 0)), (4, .int v8)]) hx hb dL_chases_278 hl (by decide) rfl (fun ls hl => ?_)
                  refine lv_iload hx hb dL_chases_280 (lv_at hl 0 rfl) ?_
                  obtain ⟨k45, ek45, h⟩ := bnd_ex h
                  have J45 : ∀ (x45_0 : Bool) (t45_p0 : OSt) (t45_p1 : OSt) (H : Heap) (locs : List Loc) (σ1 : mwm), MW z D σ1 H → va_S (zA z) s.heap H locs → OB K ad_p0 σ1 t45_p0 → OB K ad_p1 σ1 t45_p1 → k45 x45_0 t45_p0 t45_p1 = some v → ∀ ls : Array Slot, lv_has ls 10 [] → W p l e ({ frames := 74, cells := 16, slots := 96, locals := 3107 } : Room) s m ([.ref (ad_p0 0), .ref (ad_p1 0), .int p2] : List Value).toArray below meth c H locs 16 96 (MQ below (qwI z D (fun r σ2 => r = b2i v.1 ∧ OB K ad_p0 σ2 v.2.1 ∧ OB K ad_p1 σ2 v.2.2)) ([.ref (ad_p0 0), .ref (ad_p1 0), .int p2] : List Value).toArray s 16 96 (zA z)) (F0 m 334 ls [.int (b2i x45_0)]) := by
                    intro x45_0 t45_p0 t45_p1 H locs σ1 hM hS hO_p0 hO_p1 h ls hl
                    rw [ek45] at h
                    replace h := Option.some.inj h
                    subst h
                    exact W.zret (ty := .boolean) (v := b2i x45_0) hx hb hr (b2i_nar _) (fun t ht hW => ⟨⟨_, _, rfl, ⟨rfl, hO_p0, hO_p1⟩, by show MW z D _ t.heap; rw [ht]; exact hM⟩, hS.F ht⟩) hS.2.2 dL_chases_334 hlocks
                  refine lv_if_eq (tgt := 333) hx hb dL_chases_282 (by decide) (fun c46 => ?_) (fun c46 => ?_)
                  · replace c46 := b2i_eq0.mp c46
                    replace h := it_neg c46 h
                    refine lv_iconst (v := 0) hx hb dL_chases_333 (by decide) ?_
                    refine W.widen (k := 16) (n := 96) (Nat.le_of_ble_eq_true rfl) (Nat.le_of_ble_eq_true rfl) ?_
                    refine W.eq (g2 := F0 m 334 ls [.int (b2i false)]) rfl ?_
                    exact J45 false r40.2 t43_p1 _ _ _ hM hS hO_p0 hO_p1 h ls (lv_sub hl [] rfl)
                  · replace c46 := b2i_ne0.mp c46
                    replace h := it_pos c46 h
                    refine lv_aload_n hx hb dL_chases_285 rfl (lv_at hl 1 rfl) ?_
                    refine lv_bipush (v := 10) hx hb dL_chases_286 (by decide) ?_
                    refine lv_iconst (v := 0) hx hb dL_chases_288 (by decide) ?_
                    refine lv_iconst (v := 0) hx hb dL_chases_289 (by decide) ?_
                    refine lv_iconst (v := 0) hx hb dL_chases_290 (by decide) ?_
                    obtain ⟨r47, hr47, h⟩ := ob_some h
                    refine mw_wi (my_runS (As := [.ref (ad_p0 0), .int 10, .int 0, .int 0, .int 0]) (rest := []) hC hX hM hS (c_L_call_10 (ad_p0 := ad_p0) (s_p0 := r40.2) (hO_p0 := hO_p0) (hlt := hlt) (v := r47) hr47) gL_chases_L_call rfl rfl rfl q_L_call ⟨(Nat.le_of_ble_eq_true rfl), (Nat.le_of_ble_eq_true rfl)⟩ rfl rfl (Nat.le_of_ble_eq_true rfl) hl.1 dL_chases_291 ⟨(Nat.le_of_ble_eq_true rfl), (Nat.le_of_ble_eq_true rfl)⟩) hS (fun r9 H locs σ1 hp48 hM hS => ?_)
                    obtain ⟨hr9, hO9, hk49⟩ := hp48
                    replace hr9 := hr9.symm
                    subst hr9
                    replace hO_p1 := OB.keep hO_p1 hO_p0 hap hk49
                    replace hO_p0 := hO9
                    refine W.eq (g2 := F0 m 294 ls [.int r47.1]) rfl ?_
                    obtain ⟨r50, hr50, h⟩ := ob_some h
                    refine mw_ci (mw_runS (As := [.int r47.1]) (rest := []) hC hM hS (c_L_thrown (v := r50) hr50) gL_chases_L_thrown rfl rfl rfl q_L_thrown ⟨(Nat.le_of_ble_eq_true rfl), (Nat.le_of_ble_eq_true rfl)⟩ rfl rfl (Nat.le_of_ble_eq_true rfl) hl.1 dL_chases_294 ⟨(Nat.le_of_ble_eq_true rfl), (Nat.le_of_ble_eq_true rfl)⟩) ?_
                    refine lv_if_ne (tgt := 333) hx hb dL_chases_297 (by decide) (fun c51 => ?_) (fun c51 => ?_)
                    · replace c51 := b2i_ne0.mp c51
                      replace h := it_pos c51 h
                      refine lv_iconst (v := 0) hx hb dL_chases_333 (by decide) ?_
                      refine W.widen (k := 16) (n := 96) (Nat.le_of_ble_eq_true rfl) (Nat.le_of_ble_eq_true rfl) ?_
                      refine W.eq (g2 := F0 m 334 ls [.int (b2i false)]) rfl ?_
                      exact J45 false r47.2 t43_p1 _ _ _ hM hS hO_p0 hO_p1 h ls (lv_sub hl [] rfl)
                    · replace c51 := b2i_eq0.mp c51
                      replace h := it_neg c51 h
                      refine lv_aload_n hx hb dL_chases_300 rfl (lv_at hl 2 rfl) ?_
                      refine lv_bipush (v := 10) hx hb dL_chases_301 (by decide) ?_
                      refine lv_iconst (v := 0) hx hb dL_chases_303 (by decide) ?_
                      refine lv_iconst (v := 0) hx hb dL_chases_304 (by decide) ?_
                      refine lv_iconst (v := 0) hx hb dL_chases_305 (by decide) ?_
                      obtain ⟨r52, hr52, h⟩ := ob_some h
                      refine mw_wi (my_runS (As := [.ref (ad_p1 0), .int 10, .int 0, .int 0, .int 0]) (rest := []) hC hX hM hS (c_L_call_10 (ad_p0 := ad_p1) (s_p0 := t43_p1) (hO_p0 := hO_p1) (hlt := hlt) (v := r52) hr52) gL_chases_L_call rfl rfl rfl q_L_call ⟨(Nat.le_of_ble_eq_true rfl), (Nat.le_of_ble_eq_true rfl)⟩ rfl rfl (Nat.le_of_ble_eq_true rfl) hl.1 dL_chases_306 ⟨(Nat.le_of_ble_eq_true rfl), (Nat.le_of_ble_eq_true rfl)⟩) hS (fun r9 H locs σ1 hp53 hM hS => ?_)
                      obtain ⟨hr9, hO9, hk54⟩ := hp53
                      replace hr9 := hr9.symm
                      subst hr9
                      replace hO_p0 := OB.keep hO_p0 hO_p1 hap.symm hk54
                      replace hO_p1 := hO9
                      refine W.eq (g2 := F0 m 309 ls [.int r52.1]) rfl ?_
                      obtain ⟨r55, hr55, h⟩ := ob_some h
                      refine mw_ci (mw_runS (As := [.int r52.1]) (rest := []) hC hM hS (c_L_thrown (v := r55) hr55) gL_chases_L_thrown rfl rfl rfl q_L_thrown ⟨(Nat.le_of_ble_eq_true rfl), (Nat.le_of_ble_eq_true rfl)⟩ rfl rfl (Nat.le_of_ble_eq_true rfl) hl.1 dL_chases_309 ⟨(Nat.le_of_ble_eq_true rfl), (Nat.le_of_ble_eq_true rfl)⟩) ?_
                      refine lv_if_ne (tgt := 333) hx hb dL_chases_312 (by decide) (fun c56 => ?_) (fun c56 => ?_)
                      · replace c56 := b2i_ne0.mp c56
                        replace h := it_pos c56 h
                        refine lv_iconst (v := 0) hx hb dL_chases_333 (by decide) ?_
                        refine W.widen (k := 16) (n := 96) (Nat.le_of_ble_eq_true rfl) (Nat.le_of_ble_eq_true rfl) ?_
                        refine W.eq (g2 := F0 m 334 ls [.int (b2i false)]) rfl ?_
                        exact J45 false r47.2 r52.2 _ _ _ hM hS hO_p0 hO_p1 h ls (lv_sub hl [] rfl)
                      · replace c56 := b2i_eq0.mp c56
                        replace h := it_neg c56 h
                        refine lv_aload_n hx hb dL_chases_315 rfl (lv_at hl 1 rfl) ?_
                        refine lv_bipush (v := 12) hx hb dL_chases_316 (by decide) ?_
                        refine lv_iload hx hb dL_chases_318 (lv_at hl 3 rfl) ?_
                        refine lv_iconst (v := 0) hx hb dL_chases_320 (by decide) ?_
                        refine lv_iconst (v := 0) hx hb dL_chases_321 (by decide) ?_
                        obtain ⟨r57, hr57, h⟩ := ob_some h
                        refine mw_wi (my_runS (As := [.ref (ad_p0 0), .int 12, .int v8, .int 0, .int 0]) (rest := []) hC hX hM hS (c_L_call_12 (ad_p0 := ad_p0) (s_p0 := r47.2) (hO_p0 := hO_p0) (hlt := hlt) (v := r57) hr57) gL_chases_L_call rfl rfl rfl q_L_call ⟨(Nat.le_of_ble_eq_true rfl), (Nat.le_of_ble_eq_true rfl)⟩ rfl rfl (Nat.le_of_ble_eq_true rfl) hl.1 dL_chases_322 ⟨(Nat.le_of_ble_eq_true rfl), (Nat.le_of_ble_eq_true rfl)⟩) hS (fun r9 H locs σ1 hp58 hM hS => ?_)
                        obtain ⟨hr9, hO9, hk59⟩ := hp58
                        replace hr9 := hr9.symm
                        subst hr9
                        replace hO_p1 := OB.keep hO_p1 hO_p0 hap hk59
                        replace hO_p0 := hO9
                        refine W.eq (g2 := F0 m 325 ls [.int r57]) rfl ?_
                        refine lv_iconst (v := 1) hx hb dL_chases_325 (by decide) ?_
                        refine lv_icmp_ne (tgt := 333) hx hb dL_chases_326 (by decide) (fun c60 => ?_) (fun c60 => ?_)
                        · replace h := it_neg c60 h
                          refine lv_iconst (v := 0) hx hb dL_chases_333 (by decide) ?_
                          refine W.eq (g2 := F0 m 334 ls [.int (b2i false)]) rfl ?_
                          exact J45 false r47.2 r52.2 _ _ _ hM hS hO_p0 hO_p1 h ls (lv_sub hl [] rfl)
                        · replace h := it_pos c60 h
                          refine lv_iconst (v := 1) hx hb dL_chases_329 (by decide) ?_
                          refine lv_goto (tgt := 334) hx hb dL_chases_330 (by decide) ?_
                          refine W.eq (g2 := F0 m 334 ls [.int (b2i true)]) rfl ?_
                          exact J45 true r47.2 r52.2 _ _ _ hM hS hO_p0 hO_p1 h ls (lv_sub hl [] rfl)
                refine lv_if_eq (tgt := 277) hx hb dL_chases_221 (by decide) (fun c61 => ?_) (fun c61 => ?_)
                · replace c61 := b2i_eq0.mp c61
                  replace h := it_neg c61 h
                  refine lv_iconst (v := 0) hx hb dL_chases_277 (by decide) ?_
                  refine W.widen (k := 13) (n := 78) (Nat.le_of_ble_eq_true rfl) (Nat.le_of_ble_eq_true rfl) ?_
                  refine W.eq (g2 := F0 m 278 ls [.int (b2i false)]) rfl ?_
                  exact J44 false _ _ _ hM hS hO_p0 hO_p1 h ls (lv_sub hl [1, 2, 3] rfl)
                · replace c61 := b2i_ne0.mp c61
                  replace h := it_pos c61 h
                  refine lv_iload hx hb dL_chases_224 (lv_at hl 4 rfl) ?_
                  refine lv_iconst (v := 1) hx hb dL_chases_226 (by decide) ?_
                  refine lv_icmp_ne (tgt := 246) hx hb dL_chases_227 (by decide) (fun c62 => ?_) (fun c62 => ?_)
                  · replace h := it_neg c62 h
                    refine lv_aload_n hx hb dL_chases_246 rfl (lv_at hl 1 rfl) ?_
                    refine lv_iconst (v := 4) hx hb dL_chases_247 (by decide) ?_
                    refine lv_iload hx hb dL_chases_248 (lv_at hl 3 rfl) ?_
                    refine lv_iconst (v := 2) hx hb dL_chases_250 (by decide) ?_
                    refine lv_iconst (v := 0) hx hb dL_chases_251 (by decide) ?_
                    obtain ⟨r63, hr63, h⟩ := ob_some h
                    refine mw_wi (my_runS (As := [.ref (ad_p0 0), .int 4, .int v8, .int 2, .int 0]) (rest := []) hC hX hM hS (c_L_call_4 (ad_p0 := ad_p0) (s_p0 := r40.2) (hO_p0 := hO_p0) (hlt := hlt) (v := r63) hr63) gL_chases_L_call rfl rfl rfl q_L_call ⟨(Nat.le_of_ble_eq_true rfl), (Nat.le_of_ble_eq_true rfl)⟩ rfl rfl (Nat.le_of_ble_eq_true rfl) hl.1 dL_chases_252 ⟨(Nat.le_of_ble_eq_true rfl), (Nat.le_of_ble_eq_true rfl)⟩) hS (fun r9 H locs σ1 hp64 hM hS => ?_)
                    obtain ⟨hr9, hO9, hk65⟩ := hp64
                    replace hr9 := hr9.symm
                    subst hr9
                    replace hO_p1 := OB.keep hO_p1 hO_p0 hap hk65
                    replace hO_p0 := hO9
                    refine W.eq (g2 := F0 m 255 ls [.int r63]) rfl ?_
                    refine lv_iconst (v := 1) hx hb dL_chases_255 (by decide) ?_
                    refine lv_icmp_ne (tgt := 277) hx hb dL_chases_256 (by decide) (fun c66 => ?_) (fun c66 => ?_)
                    · replace h := it_neg c66 h
                      refine lv_iconst (v := 0) hx hb dL_chases_277 (by decide) ?_
                      refine W.widen (k := 13) (n := 78) (Nat.le_of_ble_eq_true rfl) (Nat.le_of_ble_eq_true rfl) ?_
                      refine W.eq (g2 := F0 m 278 ls [.int (b2i false)]) rfl ?_
                      exact J44 false _ _ _ hM hS hO_p0 hO_p1 h ls (lv_sub hl [1, 2, 3] rfl)
                    · replace h := it_pos c66 h
                      refine lv_aload_n hx hb dL_chases_259 rfl (lv_at hl 1 rfl) ?_
                      refine lv_bipush (v := 12) hx hb dL_chases_260 (by decide) ?_
                      refine lv_iload hx hb dL_chases_262 (lv_at hl 3 rfl) ?_
                      refine lv_iconst (v := 1) hx hb dL_chases_264 (by decide) ?_
                      refine lv_iconst (v := 0) hx hb dL_chases_265 (by decide) ?_
                      obtain ⟨r67, hr67, h⟩ := ob_some h
                      refine mw_wi (my_runS (As := [.ref (ad_p0 0), .int 12, .int v8, .int 1, .int 0]) (rest := []) hC hX hM hS (c_L_call_12 (ad_p0 := ad_p0) (s_p0 := r40.2) (hO_p0 := hO_p0) (hlt := hlt) (v := r67) hr67) gL_chases_L_call rfl rfl rfl q_L_call ⟨(Nat.le_of_ble_eq_true rfl), (Nat.le_of_ble_eq_true rfl)⟩ rfl rfl (Nat.le_of_ble_eq_true rfl) hl.1 dL_chases_266 ⟨(Nat.le_of_ble_eq_true rfl), (Nat.le_of_ble_eq_true rfl)⟩) hS (fun r9 H locs σ1 hp68 hM hS => ?_)
                      obtain ⟨hr9, hO9, hk69⟩ := hp68
                      replace hr9 := hr9.symm
                      subst hr9
                      replace hO_p1 := OB.keep hO_p1 hO_p0 hap hk69
                      replace hO_p0 := hO9
                      refine W.eq (g2 := F0 m 269 ls [.int r67]) rfl ?_
                      refine lv_iconst (v := 1) hx hb dL_chases_269 (by decide) ?_
                      refine lv_icmp_ne (tgt := 277) hx hb dL_chases_270 (by decide) (fun c70 => ?_) (fun c70 => ?_)
                      · replace h := it_neg c70 h
                        refine lv_iconst (v := 0) hx hb dL_chases_277 (by decide) ?_
                        refine W.eq (g2 := F0 m 278 ls [.int (b2i false)]) rfl ?_
                        exact J44 false _ _ _ hM hS hO_p0 hO_p1 h ls (lv_sub hl [1, 2, 3] rfl)
                      · replace h := it_pos c70 h
                        refine lv_iconst (v := 1) hx hb dL_chases_273 (by decide) ?_
                        refine lv_goto (tgt := 278) hx hb dL_chases_274 (by decide) ?_
                        refine W.eq (g2 := F0 m 278 ls [.int (b2i true)]) rfl ?_
                        exact J44 true _ _ _ hM hS hO_p0 hO_p1 h ls (lv_sub hl [1, 2, 3] rfl)
                  · replace h := it_pos c62 h
                    refine lv_aload_n hx hb dL_chases_230 rfl (lv_at hl 1 rfl) ?_
                    refine lv_iconst (v := 4) hx hb dL_chases_231 (by decide) ?_
                    refine lv_iload hx hb dL_chases_232 (lv_at hl 3 rfl) ?_
                    refine lv_iconst (v := 0) hx hb dL_chases_234 (by decide) ?_
                    refine lv_iconst (v := 0) hx hb dL_chases_235 (by decide) ?_
                    obtain ⟨r71, hr71, h⟩ := ob_some h
                    refine mw_wi (my_runS (As := [.ref (ad_p0 0), .int 4, .int v8, .int 0, .int 0]) (rest := []) hC hX hM hS (c_L_call_4 (ad_p0 := ad_p0) (s_p0 := r40.2) (hO_p0 := hO_p0) (hlt := hlt) (v := r71) hr71) gL_chases_L_call rfl rfl rfl q_L_call ⟨(Nat.le_of_ble_eq_true rfl), (Nat.le_of_ble_eq_true rfl)⟩ rfl rfl (Nat.le_of_ble_eq_true rfl) hl.1 dL_chases_236 ⟨(Nat.le_of_ble_eq_true rfl), (Nat.le_of_ble_eq_true rfl)⟩) hS (fun r9 H locs σ1 hp72 hM hS => ?_)
                    obtain ⟨hr9, hO9, hk73⟩ := hp72
                    replace hr9 := hr9.symm
                    subst hr9
                    replace hO_p1 := OB.keep hO_p1 hO_p0 hap hk73
                    replace hO_p0 := hO9
                    refine W.eq (g2 := F0 m 239 ls [.int r71]) rfl ?_
                    refine lv_iconst (v := -1) hx hb dL_chases_239 (by decide) ?_
                    refine lv_icmp_ne (tgt := 277) hx hb dL_chases_240 (by decide) (fun c74 => ?_) (fun c74 => ?_)
                    · replace h := it_neg c74 h
                      refine lv_iconst (v := 0) hx hb dL_chases_277 (by decide) ?_
                      refine W.widen (k := 13) (n := 78) (Nat.le_of_ble_eq_true rfl) (Nat.le_of_ble_eq_true rfl) ?_
                      refine W.eq (g2 := F0 m 278 ls [.int (b2i false)]) rfl ?_
                      exact J44 false _ _ _ hM hS hO_p0 hO_p1 h ls (lv_sub hl [1, 2, 3] rfl)
                    · replace h := it_pos c74 h
                      refine lv_goto (tgt := 273) hx hb dL_chases_243 (by decide) ?_
                      refine lv_iconst (v := 1) hx hb dL_chases_273 (by decide) ?_
                      refine lv_goto (tgt := 278) hx hb dL_chases_274 (by decide) ?_
                      refine W.widen (k := 13) (n := 78) (Nat.le_of_ble_eq_true rfl) (Nat.le_of_ble_eq_true rfl) ?_
                      refine W.eq (g2 := F0 m 278 ls [.int (b2i true)]) rfl ?_
                      exact J44 true _ _ _ hM hS hO_p0 hO_p1 h ls (lv_sub hl [1, 2, 3] rfl)
              refine lv_if_lt (tgt := 216) hx hb dL_chases_196 (by decide) (fun c75 => ?_) (fun c75 => ?_)
              · replace h := it_pos c75 h
                refine lv_iconst (v := 0) hx hb dL_chases_216 (by decide) ?_
                refine W.widen (k := 11) (n := 66) (Nat.le_of_ble_eq_true rfl) (Nat.le_of_ble_eq_true rfl) ?_
                refine W.eq (g2 := F0 m 217 ls [.int (b2i false)]) rfl ?_
                exact J43 false s_p1 _ _ _ hM hS hO_p0 hO_p1 h ls (lv_sub hl [1, 2, 3, 6] rfl)
              · replace h := it_neg c75 h
                refine lv_aload_n hx hb dL_chases_199 rfl (lv_at hl 2 rfl) ?_
                refine lv_bipush (v := 7) hx hb dL_chases_200 (by decide) ?_
                refine lv_iload hx hb dL_chases_202 (lv_at hl 5 rfl) ?_
                refine lv_iconst (v := 0) hx hb dL_chases_204 (by decide) ?_
                refine lv_iconst (v := 0) hx hb dL_chases_205 (by decide) ?_
                obtain ⟨r76, hr76, h⟩ := ob_some h
                refine mw_wi (my_runS (As := [.ref (ad_p1 0), .int 7, .int r15, .int 0, .int 0]) (rest := []) hC hX hM hS (c_L_call_7 (ad_p0 := ad_p1) (s_p0 := s_p1) (hO_p0 := hO_p1) (hlt := hlt) (v := r76) hr76) gL_chases_L_call rfl rfl rfl q_L_call ⟨(Nat.le_of_ble_eq_true rfl), (Nat.le_of_ble_eq_true rfl)⟩ rfl rfl (Nat.le_of_ble_eq_true rfl) hl.1 dL_chases_206 ⟨(Nat.le_of_ble_eq_true rfl), (Nat.le_of_ble_eq_true rfl)⟩) hS (fun r9 H locs σ1 hp77 hM hS => ?_)
                obtain ⟨hr9, hO9, hk78⟩ := hp77
                replace hr9 := hr9.symm
                subst hr9
                replace hO_p0 := OB.keep hO_p0 hO_p1 hap.symm hk78
                replace hO_p1 := hO9
                refine W.eq (g2 := F0 m 209 ls [.int r76.1]) rfl ?_
                refine lv_if_lt (tgt := 216) hx hb dL_chases_209 (by decide) (fun c79 => ?_) (fun c79 => ?_)
                · replace h := it_pos c79 h
                  refine lv_iconst (v := 0) hx hb dL_chases_216 (by decide) ?_
                  refine W.eq (g2 := F0 m 217 ls [.int (b2i false)]) rfl ?_
                  exact J43 false r76.2 _ _ _ hM hS hO_p0 hO_p1 h ls (lv_sub hl [1, 2, 3, 6] rfl)
                · replace h := it_neg c79 h
                  refine lv_iconst (v := 1) hx hb dL_chases_212 (by decide) ?_
                  refine lv_goto (tgt := 217) hx hb dL_chases_213 (by decide) ?_
                  refine W.eq (g2 := F0 m 217 ls [.int (b2i true)]) rfl ?_
                  exact J43 true r76.2 _ _ _ hM hS hO_p0 hO_p1 h ls (lv_sub hl [1, 2, 3, 6] rfl)
            · replace h := it_neg c39 h
              refine lv_iload hx hb dL_chases_183 (lv_at hl 0 rfl) ?_
              replace h := Option.some.inj h
              subst h
              refine W.widen (k := 16) (n := 96) (Nat.le_of_ble_eq_true rfl) (Nat.le_of_ble_eq_true rfl) ?_
              exact W.zret (ty := .boolean) (v := b2i x30_0) hx hb hr (b2i_nar _) (fun t ht hW => ⟨⟨_, _, rfl, ⟨rfl, hO_p0, hO_p1⟩, by show MW z D _ t.heap; rw [ht]; exact hM⟩, hS.F ht⟩) hS.2.2 dL_chases_185 hlocks
      refine lv_if_lt (tgt := 150) hx hb dL_chases_120 (by decide) (fun c80 => ?_) (fun c80 => ?_)
      · replace h := it_pos c80 h
        refine lv_iconst (v := 0) hx hb dL_chases_150 (by decide) ?_
        refine W.widen (k := 7) (n := 42) (Nat.le_of_ble_eq_true rfl) (Nat.le_of_ble_eq_true rfl) ?_
        refine W.eq (g2 := F0 m 151 ls [.int (b2i false)]) rfl ?_
        exact J30 false _ _ _ hM hS hO_p0 hO_p1 h ls (lv_sub hl [6, 7, 4, 3, 1, 0] rfl)
      · replace h := it_neg c80 h
        refine lv_aload_n hx hb dL_chases_123 rfl (lv_at hl 6 rfl) ?_
        refine lv_iload hx hb dL_chases_124 (lv_at hl 4 rfl) ?_
        refine lv_iconst (v := 1) hx hb dL_chases_126 (by decide) ?_
        obtain ⟨r81, hr81, h⟩ := ob_some h
        refine mw_wl (mw_runSW (As := [.ref (ad_p0 0), .int v8, .int 1]) (rest := []) hC hX hM hS (c_L_groups (ad_p0 := ad_p0) (s_p0 := s_p0) (hO_p0 := hO_p0) (hlt := hlt) (v := r81) hr81) gL_chases_L_groups rfl rfl rfl q_L_groups ⟨(Nat.le_of_ble_eq_true rfl), (Nat.le_of_ble_eq_true rfl)⟩ rfl rfl (Nat.le_of_ble_eq_true rfl) hl.1 dL_chases_127 ⟨(Nat.le_of_ble_eq_true rfl), (Nat.le_of_ble_eq_true rfl)⟩) hS (fun r9 H locs σ1 hp82 hM hS => ?_)
        obtain ⟨hr9, hO9, hk83⟩ := hp82
        replace hr9 := hr9.symm
        subst hr9
        replace hO_p1 := OB.keep hO_p1 hO_p0 hap hk83
        replace hO_p0 := hO9
        refine W.eq (g2 := F0 m 130 ls [.long r81]) rfl ?_
        refine lv_iload hx hb dL_chases_130 (lv_at hl 1 rfl) ?_
        refine lv_lshr (v := (shrL r81 r15)) hx hb dL_chases_132 rfl ?_
        refine lv_lconst (v := 1) hx hb dL_chases_133 (by decide) ?_
        refine lv_land hx hb dL_chases_134 ?_
        refine lv_lconst (v := 1) hx hb dL_chases_135 (by decide) ?_
        refine W.lcmp hx hb dL_chases_136 ?_
        refine lv_if_ne (tgt := 150) hx hb dL_chases_137 (by decide) (fun c84 => ?_) (fun c84 => ?_)
        · replace c84 := mt (lg_cmp_eq _ _).mpr c84
          replace h := it_neg c84 h
          refine lv_iconst (v := 0) hx hb dL_chases_150 (by decide) ?_
          refine W.eq (g2 := F0 m 151 ls [.int (b2i false)]) rfl ?_
          exact J30 false _ _ _ hM hS hO_p0 hO_p1 h ls (lv_sub hl [6, 7, 4, 3, 1, 0] rfl)
        · replace c84 := (lg_cmp_eq _ _).mp c84
          replace h := it_pos c84 h
          refine lv_iload hx hb dL_chases_140 (lv_at hl 0 rfl) ?_
          refine lv_iconst (v := 3) hx hb dL_chases_142 (by decide) ?_
          refine lv_icmp_ge (tgt := 150) hx hb dL_chases_143 (by decide) (fun c85 => ?_) (fun c85 => ?_)
          · replace h := it_pos c85 h
            refine lv_iconst (v := 0) hx hb dL_chases_150 (by decide) ?_
            refine W.eq (g2 := F0 m 151 ls [.int (b2i false)]) rfl ?_
            exact J30 false _ _ _ hM hS hO_p0 hO_p1 h ls (lv_sub hl [6, 7, 4, 3, 1, 0] rfl)
          · replace h := it_neg c85 h
            refine lv_iconst (v := 1) hx hb dL_chases_146 (by decide) ?_
            refine lv_goto (tgt := 151) hx hb dL_chases_147 (by decide) ?_
            refine W.eq (g2 := F0 m 151 ls [.int (b2i true)]) rfl ?_
            exact J30 true _ _ _ hM hS hO_p0 hO_p1 h ls (lv_sub hl [6, 7, 4, 3, 1, 0] rfl)
    · replace h := it_neg c26 h
      refine lv_iload hx hb dL_chases_70 (lv_at hl 0 rfl) ?_
      refine lv_iconst (v := -1) hx hb dL_chases_72 (by decide) ?_
      obtain ⟨k86, ek86, h⟩ := bnd_ex h
      have J86 : ∀ (x86_0 : Bool) (H : Heap) (locs : List Loc) (σ1 : mwm), MW z D σ1 H → va_S (zA z) s.heap H locs → OB K ad_p0 σ1 s_p0 → OB K ad_p1 σ1 s_p1 → k86 x86_0 = some v → ∀ ls : Array Slot, lv_has ls 10 [] → W p l e ({ frames := 74, cells := 16, slots := 96, locals := 3107 } : Room) s m ([.ref (ad_p0 0), .ref (ad_p1 0), .int p2] : List Value).toArray below meth c H locs 5 30 (MQ below (qwI z D (fun r σ2 => r = b2i v.1 ∧ OB K ad_p0 σ2 v.2.1 ∧ OB K ad_p1 σ2 v.2.2)) ([.ref (ad_p0 0), .ref (ad_p1 0), .int p2] : List Value).toArray s 16 96 (zA z)) (F0 m 106 ls [.int (b2i x86_0)]) := by
        intro x86_0 H locs σ1 hM hS hO_p0 hO_p1 h ls hl
        rw [ek86] at h
        replace h := Option.some.inj h
        subst h
        refine W.widen (k := 16) (n := 96) (Nat.le_of_ble_eq_true rfl) (Nat.le_of_ble_eq_true rfl) ?_
        exact W.zret (ty := .boolean) (v := b2i x86_0) hx hb hr (b2i_nar _) (fun t ht hW => ⟨⟨_, _, rfl, ⟨rfl, hO_p0, hO_p1⟩, by show MW z D _ t.heap; rw [ht]; exact hM⟩, hS.F ht⟩) hS.2.2 dL_chases_106 hlocks
      refine lv_icmp_ne (tgt := 105) hx hb dL_chases_73 (by decide) (fun c87 => ?_) (fun c87 => ?_)
      · replace h := it_neg c87 h
        refine lv_iconst (v := 0) hx hb dL_chases_105 (by decide) ?_
        refine W.eq (g2 := F0 m 106 ls [.int (b2i false)]) rfl ?_
        exact J86 false _ _ _ hM hS hO_p0 hO_p1 h ls (lv_sub hl [] rfl)
      · replace h := it_pos c87 h
        refine lv_iload hx hb dL_chases_76 (lv_at hl 2 rfl) ?_
        refine lv_iconst (v := -1) hx hb dL_chases_78 (by decide) ?_
        obtain ⟨k88, ek88, h⟩ := bnd_ex h
        have J88 : ∀ (x88_0 : Bool) (H : Heap) (locs : List Loc) (σ1 : mwm), MW z D σ1 H → va_S (zA z) s.heap H locs → OB K ad_p0 σ1 s_p0 → OB K ad_p1 σ1 s_p1 → k88 x88_0 = some v → ∀ ls : Array Slot, lv_has ls 10 [(6, .int r12)] → W p l e ({ frames := 74, cells := 16, slots := 96, locals := 3107 } : Room) s m ([.ref (ad_p0 0), .ref (ad_p1 0), .int p2] : List Value).toArray below meth c H locs 5 30 (MQ below (qwI z D (fun r σ2 => r = b2i v.1 ∧ OB K ad_p0 σ2 v.2.1 ∧ OB K ad_p1 σ2 v.2.2)) ([.ref (ad_p0 0), .ref (ad_p1 0), .int p2] : List Value).toArray s 16 96 (zA z)) (F0 m 87 ls [.int (b2i x88_0)]) := by
          intro x88_0 H locs σ1 hM hS hO_p0 hO_p1 h ls hl
          rw [ek88] at h
          refine lv_iload hx hb dL_chases_87 (lv_at hl 0 rfl) ?_
          refine lv_iconst (v := -1) hx hb dL_chases_89 (by decide) ?_
          obtain ⟨k89, ek89, h⟩ := bnd_ex h
          have J89 : ∀ (x89_0 : Bool) (H : Heap) (locs : List Loc) (σ1 : mwm), MW z D σ1 H → va_S (zA z) s.heap H locs → OB K ad_p0 σ1 s_p0 → OB K ad_p1 σ1 s_p1 → k89 x89_0 = some v → ∀ ls : Array Slot, lv_has ls 10 [] → W p l e ({ frames := 74, cells := 16, slots := 96, locals := 3107 } : Room) s m ([.ref (ad_p0 0), .ref (ad_p1 0), .int p2] : List Value).toArray below meth c H locs 5 30 (MQ below (qwI z D (fun r σ2 => r = b2i v.1 ∧ OB K ad_p0 σ2 v.2.1 ∧ OB K ad_p1 σ2 v.2.2)) ([.ref (ad_p0 0), .ref (ad_p1 0), .int p2] : List Value).toArray s 16 96 (zA z)) (F0 m 98 ls [.int (b2i x89_0), .int (b2i x88_0)]) := by
            intro x89_0 H locs σ1 hM hS hO_p0 hO_p1 h ls hl
            rw [ek89] at h
            refine lv_icmp_ne (tgt := 105) hx hb dL_chases_98 (by decide) (fun c90 => ?_) (fun c90 => ?_)
            · replace h := it_neg c90 h
              refine lv_iconst (v := 0) hx hb dL_chases_105 (by decide) ?_
              refine W.eq (g2 := F0 m 106 ls [.int (b2i false)]) rfl ?_
              exact J86 false _ _ _ hM hS hO_p0 hO_p1 h ls (lv_sub hl [] rfl)
            · replace h := it_pos c90 h
              refine lv_iconst (v := 1) hx hb dL_chases_101 (by decide) ?_
              refine lv_goto (tgt := 106) hx hb dL_chases_102 (by decide) ?_
              refine W.eq (g2 := F0 m 106 ls [.int (b2i true)]) rfl ?_
              exact J86 true _ _ _ hM hS hO_p0 hO_p1 h ls (lv_sub hl [] rfl)
          refine lv_icmp_ne (tgt := 97) hx hb dL_chases_90 (by decide) (fun c91 => ?_) (fun c91 => ?_)
          · replace h := it_neg c91 h
            refine lv_iconst (v := 0) hx hb dL_chases_97 (by decide) ?_
            refine W.eq (g2 := F0 m 98 ls [.int (b2i false), .int (b2i x88_0)]) rfl ?_
            exact J89 false _ _ _ hM hS hO_p0 hO_p1 h ls (lv_sub hl [] rfl)
          · replace h := it_pos c91 h
            refine lv_iconst (v := 1) hx hb dL_chases_93 (by decide) ?_
            refine lv_goto (tgt := 98) hx hb dL_chases_94 (by decide) ?_
            refine W.eq (g2 := F0 m 98 ls [.int (b2i true), .int (b2i x88_0)]) rfl ?_
            exact J89 true _ _ _ hM hS hO_p0 hO_p1 h ls (lv_sub hl [] rfl)
        refine lv_icmp_ne (tgt := 86) hx hb dL_chases_79 (by decide) (fun c92 => ?_) (fun c92 => ?_)
        · replace h := it_neg c92 h
          refine lv_iconst (v := 0) hx hb dL_chases_86 (by decide) ?_
          refine W.eq (g2 := F0 m 87 ls [.int (b2i false)]) rfl ?_
          exact J88 false _ _ _ hM hS hO_p0 hO_p1 h ls (lv_sub hl [1] rfl)
        · replace h := it_pos c92 h
          refine lv_iconst (v := 1) hx hb dL_chases_82 (by decide) ?_
          refine lv_goto (tgt := 87) hx hb dL_chases_83 (by decide) ?_
          refine W.eq (g2 := F0 m 87 ls [.int (b2i true)]) rfl ?_
          exact J88 true _ _ _ hM hS hO_p0 hO_p1 h ls (lv_sub hl [1] rfl)
