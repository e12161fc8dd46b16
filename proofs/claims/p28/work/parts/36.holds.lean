theorem q_L_holds : yL_holds.cls ≠ "java/lang/invoke/MethodHandle" ∧ yL_holds.cls ≠ "java/lang/invoke/VarHandle" ∧ (parseMethodDescriptor yL_holds.desc).map (fun d => d.parameters.length) = some 1 := by decide +kernel
theorem l_L_holds_0 : Cond.constantLong RL 173 (-1) ∈ wsL_holds := (List.mem_cons_of_mem _ (List.mem_append_left _ (List.mem_append_left _ (List.mem_append_left _ (List.mem_append_left _ (List.mem_append_left _ (List.mem_append_left _ (List.mem_append_left _ (List.mem_append_left _ (List.mem_of_getElem? (i := 21) rfl))))))))))
def fL_holds_734 (s_p0 : OSt) (u3 : Int64) (u5 : Int64) (u7 : Int32) (u8 : Int32) (u9 : Int32) (u10 : Int32) (u11 : Int32) (u12 : Int32) (k16 : Int32 → Int32 → Int32 → Int32 → Int32 → Int32 → Int32 → Bool → Option (Bool)) : Nat → Int32 → Bool → Int32 → Option (Bool)
  | 0, _, _, _ => none
  | fu0 + 1, x14, x15, x16 => if 2 ≤ x16 then (k16 u7 u8 u9 u10 u11 u12 x14 x15) else (if x15 = true then (bnd (fun (x89_0 : Int32) => (fL_call_3 s_p0 x16 (0 : Int32) (0 : Int32)).bind fun r90 => bnd (fun (x94_0 : Int64) => (fL_count x94_0).bind fun r95 => bnd (fun (x96_0 : Bool) => (fL_holds_734 s_p0 u3 u5 u7 u8 u9 u10 u11 u12 k16 fu0) (x14 + x89_0) x96_0 (x16 + 1)) fun k96 => if r90 = r95 then ((fL_call_3 s_p0 x16 (2 : Int32) (0 : Int32)).bind fun r98 => (fL_call_3 s_p0 x16 (0 : Int32) (0 : Int32)).bind fun r102 => if r98 < r102 then (k96 false) else ((fL_call_3 s_p0 x16 (5 : Int32) (0 : Int32)).bind fun r107 => (fL_call_3 s_p0 x16 (0 : Int32) (0 : Int32)).bind fun r111 => if r111 < r107 then (k96 false) else (k96 true))) else (k96 false)) fun k94 => if x16 = 0 then (k94 u3) else (k94 u5)) fun k89 => if x16 = 0 then ((fL_call_3 s_p0 x16 (2 : Int32) (0 : Int32)).bind fun r123 => (fL_count u3).bind fun r127 => k89 (r123 - r127)) else ((fL_count u5).bind fun r118 => (fL_call_3 s_p0 x16 (2 : Int32) (0 : Int32)).bind fun r119 => k89 (r118 - r119))) else (k16 u7 u8 u9 u10 u11 u12 x14 x15))
def fL_holds_89 (s_p0 : OSt) (u1 : Int32) (u2 : Int32) (u3 : Int64) (u5 : Int64) (u14 : Int32) (k15 : Int64 → Int64 → Int32 → Int32 → Int32 → Int32 → Int32 → Int32 → Int32 → Bool → Option (Bool)) : Nat → Int32 → Int32 → Int32 → Int32 → Int32 → Int32 → Int32 → Bool → Int32 → Option (Bool)
  | 0, _, _, _, _, _, _, _, _, _ => none
  | fu0 + 1, x7, x8, x9, x10, x11, x12, x13, x15, x16 => if u2 ≤ x16 then (k15 u3 u5 x7 x8 x9 x10 x11 x12 u14 x15) else (if x15 = true then ((fL_call_4 s_p0 x16 (0 : Int32) (0 : Int32)).bind fun r130 => (fL_groups s_p0 x16 (0 : Int32)).bind fun r134 => (fL_groups s_p0 x16 (1 : Int32)).bind fun r138 => (fL_beside u1 x16).bind fun r142 => (fL_call_5 s_p0 x16 (0 : Int32) (0 : Int32)).bind fun r143 => (fL_call_4 s_p0 x16 (3 : Int32) (0 : Int32)).bind fun r147 => bnd (fun (x151_0 : Bool) => (fL_call_11 s_p0 x16 (0 : Int32) (0 : Int32)).bind fun r152 => bnd (fun (x156_0 : Int32) => bnd (fun (x157_0 : Int32) => bnd (fun (x158_l7 : Int32) (x158_l8 : Int32) (x158_l10 : Int32) (x158_l11 : Int32) (x158_l15 : Bool) => (fL_holds_89 s_p0 u1 u2 u3 u5 u14 k15 fu0) x158_l7 x158_l8 (x9 + (b2i x151_0)) x158_l10 x158_l11 x156_0 x157_0 x158_l15 (x16 + 1)) fun k158 => if r130 = (-1) then (bnd (fun (x232_0 : Bool) => bnd (fun (x233_0 : Bool) => bnd (fun (x234_0 : Bool) => k158 x7 x8 (x10 + (b2i x232_0)) (x11 + (b2i x233_0)) x234_0) fun k234 => if ((shrL (u3 ||| u5) x16) &&& 1) = 0 then (if r134 = 0 then (if r138 = 0 then ((fL_call_4 s_p0 x16 (4 : Int32) (0 : Int32)).bind fun r238 => if r238 ≤ 0 then (k234 false) else (bnd (fun (x243_0 : Bool) => bnd (fun (x244_0 : Bool) => if (b2i x243_0) = (b2i x244_0) then (if r143 = 1 then (k234 false) else (bnd (fun (x247_0 : Bool) => bnd (fun (x248_0 : Bool) => if (b2i x247_0) = (b2i x248_0) then (bnd (fun (x250_0 : Bool) => (fL_call_11 s_p0 x16 (1 : Int32) (0 : Int32)).bind fun r251 => bnd (fun (x255_0 : Bool) => if (b2i x250_0) = (b2i x255_0) then (k234 true) else (k234 false)) fun k255 => if r251 ≤ 0 then (k255 false) else (k255 true)) fun k250 => if r143 = 0 then (k250 true) else (k250 false)) else (k234 false)) fun k248 => if r152 = (-1) then (k248 false) else (k248 true)) fun k247 => if r143 = 0 then (k247 true) else (k247 false))) else (k234 false)) fun k244 => if (r142 &&& (u3 ^^^ (-1))) = 0 then (k244 true) else (if (r142 &&& (u5 ^^^ (-1))) = 0 then (k244 true) else (k244 false))) fun k243 => if r147 ≤ 0 then (k243 false) else (k243 true))) else (k234 false)) else (k234 false)) else (k234 false)) fun k233 => if r147 = 1 then (k233 true) else (k233 false)) fun k232 => if r147 = 2 then (k232 true) else (k232 false)) else (bnd (fun (x160_0 : Int64) => bnd (fun (x161_0 : Bool) => bnd (fun (x162_0 : Bool) => bnd (fun (x163_0 : Bool) => bnd (fun (x164_0 : Bool) => k158 (x7 + (b2i x162_0)) (x8 + (b2i x163_0)) x10 x11 x164_0) fun k164 => if ((shrL x160_0 x16) &&& 1) = 1 then (if ((shrL r134 x16) &&& 1) = 1 then (if (r134 &&& (x160_0 ^^^ (-1))) = 0 then (if ((r142 &&& x160_0) &&& (r134 ^^^ (-1))) = 0 then (if ((r142 &&& ((u3 ||| u5) ^^^ (-1))) &&& (r138 ^^^ (-1))) = 0 then (if (r138 &&& (u3 ||| u5)) = 0 then (if r138 = 0 then (k164 false) else ((fL_call_4 s_p0 x16 (1 : Int32) (0 : Int32)).bind fun r172 => (fL_count r134).bind fun r176 => if r172 = r176 then ((fL_call_4 s_p0 x16 (2 : Int32) (0 : Int32)).bind fun r178 => (fL_count r138).bind fun r182 => if r178 = r182 then ((fL_call_4 s_p0 x16 (4 : Int32) (0 : Int32)).bind fun r184 => if r184 = 0 then (if r147 = 0 then (if r143 = 1 then ((fL_call_4 s_p0 x16 (5 : Int32) (0 : Int32)).bind fun r191 => (fL_call_3 s_p0 r130 (3 : Int32) (0 : Int32)).bind fun r195 => if r195 < r191 then (k164 false) else ((fL_count r138).bind fun r200 => if r200 < 3 then ((fL_count r138).bind fun r202 => if r202 = 1 then (k164 true) else ((fL_call_12 s_p0 x16 (1 : Int32) (0 : Int32)).bind fun r204 => if r204 = 0 then (k164 true) else (k164 false))) else ((fL_call_13 s_p0 x16 (0 : Int32) (0 : Int32)).bind fun r209 => if r209 = (-1) then ((fL_call_12 s_p0 x16 (0 : Int32) (0 : Int32)).bind fun r214 => if r214 = 0 then ((fL_count r138).bind fun r219 => if r219 = 1 then (k164 true) else ((fL_call_12 s_p0 x16 (1 : Int32) (0 : Int32)).bind fun r221 => if r221 = 0 then (k164 true) else (k164 false))) else (k164 false)) else (k164 false)))) else (k164 false)) else (k164 false)) else (k164 false)) else (k164 false)) else (k164 false))) else (k164 false)) else (k164 false)) else (k164 false)) else (k164 false)) else (k164 false)) else (k164 false)) fun k163 => if x161_0 = true then ((fL_count r138).bind fun r227 => if r227 = 1 then (k163 true) else (k163 false)) else (k163 false)) fun k162 => if x161_0 = true then (k162 true) else (k162 false)) fun k161 => if (r134 &&& ((shlL 1 x16) - 1)) = 0 then (k161 true) else (k161 false)) fun k160 => if r130 = 0 then (k160 u3) else (k160 u5))) fun k157 => if r152 ≤ x13 then (k157 x13) else (k157 r152)) fun k156 => if r152 ≤ x13 then (k156 x12) else (k156 x16)) fun k151 => if r143 = 0 then (k151 true) else (k151 false)) else (k15 u3 u5 x7 x8 x9 x10 x11 x12 u14 x15))
def fL_holds (s_p0 : OSt) : Option (Bool) := (fL_call_2 s_p0 (0 : Int32) (0 : Int32) (0 : Int32)).bind fun r1 => (fL_has s_p0 (0 : Int32)).bind fun r4 => (fL_has s_p0 (1 : Int32)).bind fun r8 => (fL_count r4).bind fun r12 => (fL_count r8).bind fun r13 => bnd (fun (x14_0 : Bool) => bnd (fun (x15_l3 : Int64) (x15_l5 : Int64) (x15_l7 : Int32) (x15_l8 : Int32) (x15_l9 : Int32) (x15_l10 : Int32) (x15_l11 : Int32) (x15_l12 : Int32) (x15_l14 : Int32) (x15_l15 : Bool) => bnd (fun (x16_l7 : Int32) (x16_l8 : Int32) (x16_l9 : Int32) (x16_l10 : Int32) (x16_l11 : Int32) (x16_l12 : Int32) (x16_l14 : Int32) (x16_l15 : Bool) => bnd (fun (x17_0 : Bool) => some x17_0) fun k17 => if x16_l15 = true then ((fL_call_2 s_p0 (5 : Int32) (0 : Int32) (0 : Int32)).bind fun r19 => if r19 = x16_l7 then ((fL_call_2 s_p0 (6 : Int32) (0 : Int32) (0 : Int32)).bind fun r24 => if r24 = x16_l8 then ((fL_call_3 s_p0 (0 : Int32) (3 : Int32) (0 : Int32)).bind fun r29 => (fL_call_3 s_p0 (1 : Int32) (3 : Int32) (0 : Int32)).bind fun r33 => if (r29 + r33) = x16_l10 then ((fL_call_3 s_p0 (0 : Int32) (4 : Int32) (0 : Int32)).bind fun r38 => (fL_call_3 s_p0 (1 : Int32) (4 : Int32) (0 : Int32)).bind fun r42 => if (r38 + r42) = x16_l11 then ((aChoices s_p0).bind fun r47 => if r47 = x16_l9 then ((aBestTake s_p0).bind fun r49 => if r49 = x16_l12 then ((aLead s_p0).bind fun r51 => if r51 = x16_l14 then ((fL_call_3 s_p0 (0 : Int32) (0 : Int32) (0 : Int32)).bind fun r53 => (fL_call_3 s_p0 (1 : Int32) (0 : Int32) (0 : Int32)).bind fun r57 => (fL_call_3 s_p0 (0 : Int32) (1 : Int32) (0 : Int32)).bind fun r61 => (fL_call_3 s_p0 (1 : Int32) (1 : Int32) (0 : Int32)).bind fun r65 => (fL_call_2 s_p0 (3 : Int32) (0 : Int32) (0 : Int32)).bind fun r69 => (fL_call_2 s_p0 (1 : Int32) (0 : Int32) (0 : Int32)).bind fun r73 => if ((((r53 + r57) + r61) + r65) + r69) = r73 then ((fL_call_2 s_p0 (2 : Int32) (0 : Int32) (0 : Int32)).bind fun r78 => (fL_call_2 s_p0 (1 : Int32) (0 : Int32) (0 : Int32)).bind fun r82 => if r78 = (r82 - r82 / 2 * 2) then (k17 true) else (k17 false)) else (k17 false)) else (k17 false)) else (k17 false)) else (k17 false)) else (k17 false)) else (k17 false)) else (k17 false)) else (k17 false)) else (k17 false)) fun k16 => fL_holds_734 s_p0 x15_l3 x15_l5 x15_l7 x15_l8 x15_l9 x15_l10 x15_l11 x15_l12 k16 60 x15_l14 x15_l15 (0 : Int32)) fun k15 => fL_holds_89 s_p0 r1 (r1 * r1) r4 r8 (r12 - r13) k15 60 (0 : Int32) (0 : Int32) (0 : Int32) (0 : Int32) (0 : Int32) ((-1) : Int32) (0 : Int32) x14_0 (0 : Int32)) fun k14 => if (r4 &&& r8) = 0 then (if (ushrL (r4 ||| r8) (r1 * r1)) = 0 then (k14 true) else (k14 false)) else (k14 false)
set_option maxHeartbeats 8000000 in
set_option maxRecDepth 100000 in
theorem c_L_holds {l : Launch} {z : Nat} {D : va_G} {K : Nat → ClassId} {σ : mwm} {ad_p0 : Nat → Nat} {s_p0 : OSt} (hO_p0 : OB K ad_p0 σ s_p0) (hlt : l.stackTraces = false) {v : Bool} (h : fL_holds s_p0 = some v) : Met l yL_holds wsL_holds ({ frames := 74, cells := 1217, slots := 7302, locals := 3107 } : Room) (PCx z D K [.ref (ad_p0 0)] σ) (qwI z D (fun r σ2 => r = b2i v ∧ OB K ad_p0 σ2 s_p0 ∧ KEO ad_p0 σ σ2)) 1217 7302 (zA z) := by
  refine my_enter (cc := cL_holds) (maxL := 30) (ret := (some .boolean)) (own := RL) (lv := [(0, .ref (ad_p0 0))]) (by decide) rfl rfl (Nat.le_of_ble_eq_true rfl) rfl ?_
  intro p e s m below meth c ls hC hx hb hown hts hK hr hlocks hnm hz hM hS hl hX
  unfold fL_holds at h
  refine lv_aload_n hx hb dL_holds_0 rfl (lv_at hl 0 rfl) ?_
  refine lv_iconst (v := 2) hx hb dL_holds_1 (by decide) ?_
  refine lv_iconst (v := 0) hx hb dL_holds_2 (by decide) ?_
  refine lv_iconst (v := 0) hx hb dL_holds_3 (by decide) ?_
  refine lv_iconst (v := 0) hx hb dL_holds_4 (by decide) ?_
  obtain ⟨r1, hr1, h⟩ := ob_some h
  refine mw_wi (my_runS (As := [.ref (ad_p0 0), .int 2, .int 0, .int 0, .int 0]) (rest := []) hC hX hM hS (c_L_call_2 (ad_p0 := ad_p0) (s_p0 := s_p0) (hO_p0 := hO_p0) (hlt := hlt) (v := r1) hr1) gL_holds_L_call rfl rfl rfl q_L_call ⟨(Nat.le_of_ble_eq_true rfl), (Nat.le_of_ble_eq_true rfl)⟩ rfl rfl (Nat.le_of_ble_eq_true rfl) hl.1 dL_holds_5 ⟨(Nat.le_of_ble_eq_true rfl), (Nat.le_of_ble_eq_true rfl)⟩) hS (fun r9 H locs σ1 hp2 hM hS => ?_)
  obtain ⟨hr9, hO9, hk3⟩ := hp2
  replace hr9 := hr9.symm
  subst hr9
  replace hO_p0 := hO9
  refine W.eq (g2 := F0 m 8 ls [.int r1]) rfl ?_
  refine lv_istore_n (lv' := [(1, .int r1), (0, .ref (ad_p0 0))]) hx hb dL_holds_8 rfl hl (by decide) rfl (fun ls hl => ?_)
  refine lv_iload_n hx hb dL_holds_9 rfl (lv_at hl 0 rfl) ?_
  refine lv_iload_n hx hb dL_holds_10 rfl (lv_at hl 0 rfl) ?_
  refine lv_imul hx hb dL_holds_11 ?_
  refine lv_istore_n (lv' := [(2, .int (r1 * r1)), (1, .int r1), (0, .ref (ad_p0 0))]) hx hb dL_holds_12 rfl hl (by decide) rfl (fun ls hl => ?_)
  refine lv_aload_n hx hb dL_holds_13 rfl (lv_at hl 2 rfl) ?_
  refine lv_iconst (v := 0) hx hb dL_holds_14 (by decide) ?_
  obtain ⟨r4, hr4, h⟩ := ob_some h
  refine mw_wl (mw_runSW (As := [.ref (ad_p0 0), .int 0]) (rest := []) hC hX hM hS (c_L_has (ad_p0 := ad_p0) (s_p0 := s_p0) (hO_p0 := hO_p0) (hlt := hlt) (v := r4) hr4) gL_holds_L_has rfl rfl rfl q_L_has ⟨(Nat.le_of_ble_eq_true rfl), (Nat.le_of_ble_eq_true rfl)⟩ rfl rfl (Nat.le_of_ble_eq_true rfl) hl.1 dL_holds_15 ⟨(Nat.le_of_ble_eq_true rfl), (Nat.le_of_ble_eq_true rfl)⟩) hS (fun r9 H locs σ1 hp5 hM hS => ?_)
  obtain ⟨hr9, hO9, hk6⟩ := hp5
  replace hr9 := hr9.symm
  subst hr9
  replace hO_p0 := hO9
  have hk7 := KEO.tr hk3 hk6
  refine W.eq (g2 := F0 m 18 ls [.long r4]) rfl ?_
  refine lv_lstore_n (lv' := [(3, .long r4), (2, .int (r1 * r1)), (1, .int r1), (0, .ref (ad_p0 0))]) hx hb dL_holds_18 rfl hl (by decide) rfl (fun ls hl => ?_)
  refine lv_aload_n hx hb dL_holds_19 rfl (lv_at hl 3 rfl) ?_
  refine lv_iconst (v := 1) hx hb dL_holds_20 (by decide) ?_
  obtain ⟨r8, hr8, h⟩ := ob_some h
  refine mw_wl (mw_runSW (As := [.ref (ad_p0 0), .int 1]) (rest := []) hC hX hM hS (c_L_has (ad_p0 := ad_p0) (s_p0 := s_p0) (hO_p0 := hO_p0) (hlt := hlt) (v := r8) hr8) gL_holds_L_has rfl rfl rfl q_L_has ⟨(Nat.le_of_ble_eq_true rfl), (Nat.le_of_ble_eq_true rfl)⟩ rfl rfl (Nat.le_of_ble_eq_true rfl) hl.1 dL_holds_21 ⟨(Nat.le_of_ble_eq_true rfl), (Nat.le_of_ble_eq_true rfl)⟩) hS (fun r9 H locs σ1 hp9 hM hS => ?_)
  obtain ⟨hr9, hO9, hk10⟩ := hp9
  replace hr9 := hr9.symm
  subst hr9
  replace hO_p0 := hO9
  have hk11 := KEO.tr hk7 hk10
  refine W.eq (g2 := F0 m 24 ls [.long r8]) rfl ?_
  refine lv_lstore (lv' := [(5, .long r8), (3, .long r4), (2, .int (r1 * r1)), (1, .int r1), (0, .ref (ad_p0 0))]) hx hb dL_holds_24 hl (by decide) rfl (fun ls hl => ?_)
  refine lv_iconst (v := 0) hx hb dL_holds_26 (by decide) ?_
  refine lv_istore (lv' := [(7, .int 0), (5, .long r8), (3, .long r4), (2, .int (r1 * r1)), (1, .int r1), (0, .ref (ad_p0 0))]) hx hb dL_holds_27 hl (by decide) rfl (fun ls hl => ?_)
  refine lv_iconst (v := 0) hx hb dL_holds_29 (by decide) ?_
  refine lv_istore (lv' := [(8, .int 0), (7, .int 0), (5, .long r8), (3, .long r4), (2, .int (r1 * r1)), (1, .int r1), (0, .ref (ad_p0 0))]) hx hb dL_holds_30 hl (by decide) rfl (fun ls hl => ?_)
  refine lv_iconst (v := 0) hx hb dL_holds_32 (by decide) ?_
  refine lv_istore (lv' := [(9, .int 0), (8, .int 0), (7, .int 0), (5, .long r8), (3, .long r4), (2, .int (r1 * r1)), (1, .int r1), (0, .ref (ad_p0 0))]) hx hb dL_holds_33 hl (by decide) rfl (fun ls hl => ?_)
  refine lv_iconst (v := 0) hx hb dL_holds_35 (by decide) ?_
  refine lv_istore (lv' := [(10, .int 0), (9, .int 0), (8, .int 0), (7, .int 0), (5, .long r8), (3, .long r4), (2, .int (r1 * r1)), (1, .int r1), (0, .ref (ad_p0 0))]) hx hb dL_holds_36 hl (by decide) rfl (fun ls hl => ?_)
  refine lv_iconst (v := 0) hx hb dL_holds_38 (by decide) ?_
  refine lv_istore (lv' := [(11, .int 0), (10, .int 0), (9, .int 0), (8, .int 0), (7, .int 0), (5, .long r8), (3, .long r4), (2, .int (r1 * r1)), (1, .int r1), (0, .ref (ad_p0 0))]) hx hb dL_holds_39 hl (by decide) rfl (fun ls hl => ?_)
  refine lv_iconst (v := -1) hx hb dL_holds_41 (by decide) ?_
  refine lv_istore (lv' := [(12, .int (-1)), (11, .int 0), (10, .int 0), (9, .int 0), (8, .int 0), (7, .int 0), (5, .long r8), (3, .long r4), (2, .int (r1 * r1)), (1, .int r1), (0, .ref (ad_p0 0))]) hx hb dL_holds_42 hl (by decide) rfl (fun ls hl => ?_)
  refine lv_iconst (v := 0) hx hb dL_holds_44 (by decide) ?_
  refine lv_istore (lv' := [(13, .int 0), (12, .int (-1)), (11, .int 0), (10, .int 0), (9, .int 0), (8, .int 0), (7, .int 0), (5, .long r8), (3, .long r4), (2, .int (r1 * r1)), (1, .int r1), (0, .ref (ad_p0 0))]) hx hb dL_holds_45 hl (by decide) rfl (fun ls hl => ?_)
  refine lv_lload_n hx hb dL_holds_47 rfl (lv_at hl 8 rfl) ?_
  obtain ⟨r12, hr12, h⟩ := ob_some h
  refine mw_ci (mw_runS (As := [.long r4]) (rest := []) hC hM hS (c_L_count (v := r12) hr12) gL_holds_L_count rfl rfl rfl q_L_count ⟨(Nat.le_of_ble_eq_true rfl), (Nat.le_of_ble_eq_true rfl)⟩ rfl rfl (Nat.le_of_ble_eq_true rfl) hl.1 dL_holds_48 ⟨(Nat.le_of_ble_eq_true rfl), (Nat.le_of_ble_eq_true rfl)⟩) ?_
  refine lv_lload hx hb dL_holds_51 (lv_at hl 7 rfl) ?_
  obtain ⟨r13, hr13, h⟩ := ob_some h
  refine mw_ci (mw_runS (As := [.long r8]) (rest := [.int r12]) hC hM hS (c_L_count (v := r13) hr13) gL_holds_L_count rfl rfl rfl q_L_count ⟨(Nat.le_of_ble_eq_true rfl), (Nat.le_of_ble_eq_true rfl)⟩ rfl rfl (Nat.le_of_ble_eq_true rfl) hl.1 dL_holds_53 ⟨(Nat.le_of_ble_eq_true rfl), (Nat.le_of_ble_eq_true rfl)⟩) ?_
  refine lv_isub hx hb dL_holds_56 ?_
  refine lv_istore (lv' := [(14, .int (r12 - r13)), (13, .int 0), (12, .int (-1)), (11, .int 0), (10, .int 0), (9, .int 0), (8, .int 0), (7, .int 0), (5, .long r8), (3, .long r4), (2, .int (r1 * r1)), (1, .int r1), (0, .ref (ad_p0 0))]) hx hb dL_holds_57 hl (by decide) rfl (fun ls hl => ?_)
  refine lv_lload_n hx hb dL_holds_59 rfl (lv_at hl 9 rfl) ?_
  refine lv_lload hx hb dL_holds_60 (lv_at hl 8 rfl) ?_
  refine lv_land hx hb dL_holds_62 ?_
  refine lv_lconst (v := 0) hx hb dL_holds_63 (by decide) ?_
  refine W.lcmp hx hb dL_holds_64 ?_
  obtain ⟨k14, ek14, h⟩ := bnd_ex h
  have J14 : ∀ (x14_0 : Bool) (H : Heap) (locs : List Loc) (σ1 : mwm), MW z D σ1 H → va_S (zA z) s.heap H locs → OB K ad_p0 σ1 s_p0 → KEO ad_p0 σ σ1 → k14 x14_0 = some v → ∀ ls : Array Slot, lv_has ls 30 [(0, .ref (ad_p0 0)), (1, .int r1), (2, .int (r1 * r1)), (3, .long r4), (5, .long r8), (7, .int 0), (8, .int 0), (9, .int 0), (10, .int 0), (11, .int 0), (12, .int (-1)), (13, .int 0), (14, .int (r12 - r13))] → W p l e ({ frames := 74, cells := 1217, slots := 7302, locals := 3107 } : Room) s m ([.ref (ad_p0 0)] : List Value).toArray below meth c H locs 3 18 (MQ below (qwI z D (fun r σ2 => r = b2i v ∧ OB K ad_p0 σ2 s_p0 ∧ KEO ad_p0 σ σ2)) ([.ref (ad_p0 0)] : List Value).toArray s 1217 7302 (zA z)) (F0 m 84 ls [.int (b2i x14_0)]) := by
    intro x14_0 H locs σ1 hM hS hO_p0 hk h ls hl
    rw [ek14] at h
    refine lv_istore (lv' := [(15, .int (b2i x14_0)), (0, .ref (ad_p0 0)), (1, .int r1), (2, .int (r1 * r1)), (3, .long r4), (5, .long r8), (7, .int 0), (8, .int 0), (9, .int 0), (10, .int 0), (11, .int 0), (12, .int (-1)), (13, .int 0), (14, .int (r12 - r13))]) hx hb dL_holds_84 hl (by decide) rfl (fun ls hl => ?_)
    refine lv_iconst (v := 0) hx hb dL_holds_86 (by decide) ?_
    refine lv_istore (lv' := [(16, .int 0), (15, .int (b2i x14_0)), (0, .ref (ad_p0 0)), (1, .int r1), (2, .int (r1 * r1)), (3, .long r4), (5, .long r8), (7, .int 0), (8, .int 0), (9, .int 0), (10, .int 0), (11, .int 0), (12, .int (-1)), (13, .int 0), (14, .int (r12 - r13))]) hx hb dL_holds_87 hl (by decide) rfl (fun ls hl => ?_)
    obtain ⟨k15, ek15, h⟩ := bnd_ex h
    have J15 : ∀ (x15_l3 : Int64) (x15_l5 : Int64) (x15_l7 : Int32) (x15_l8 : Int32) (x15_l9 : Int32) (x15_l10 : Int32) (x15_l11 : Int32) (x15_l12 : Int32) (x15_l14 : Int32) (x15_l15 : Bool) (H : Heap) (locs : List Loc) (σ1 : mwm), MW z D σ1 H → va_S (zA z) s.heap H locs → OB K ad_p0 σ1 s_p0 → KEO ad_p0 σ σ1 → k15 x15_l3 x15_l5 x15_l7 x15_l8 x15_l9 x15_l10 x15_l11 x15_l12 x15_l14 x15_l15 = some v → ∀ ls : Array Slot, lv_has ls 30 [(0, .ref (ad_p0 0)), (3, .long x15_l3), (5, .long x15_l5), (7, .int x15_l7), (8, .int x15_l8), (9, .int x15_l9), (10, .int x15_l10), (11, .int x15_l11), (12, .int x15_l12), (14, .int x15_l14), (15, .int (b2i x15_l15))] → W p l e ({ frames := 74, cells := 1217, slots := 7302, locals := 3107 } : Room) s m ([.ref (ad_p0 0)] : List Value).toArray below meth c H locs 843 5058 (MQ below (qwI z D (fun r σ2 => r = b2i v ∧ OB K ad_p0 σ2 s_p0 ∧ KEO ad_p0 σ σ2)) ([.ref (ad_p0 0)] : List Value).toArray s 1217 7302 (zA z)) (F0 m 731 ls []) := by
      intro x15_l3 x15_l5 x15_l7 x15_l8 x15_l9 x15_l10 x15_l11 x15_l12 x15_l14 x15_l15 H locs σ1 hM hS hO_p0 hk h ls hl
      rw [ek15] at h
      refine lv_iconst (v := 0) hx hb dL_holds_731 (by decide) ?_
      refine lv_istore (lv' := [(16, .int 0), (0, .ref (ad_p0 0)), (3, .long x15_l3), (5, .long x15_l5), (7, .int x15_l7), (8, .int x15_l8), (9, .int x15_l9), (10, .int x15_l10), (11, .int x15_l11), (12, .int x15_l12), (14, .int x15_l14), (15, .int (b2i x15_l15))]) hx hb dL_holds_732 hl (by decide) rfl (fun ls hl => ?_)
      obtain ⟨k16, ek16, h⟩ := bnd_ex h
      have J16 : ∀ (x16_l7 : Int32) (x16_l8 : Int32) (x16_l9 : Int32) (x16_l10 : Int32) (x16_l11 : Int32) (x16_l12 : Int32) (x16_l14 : Int32) (x16_l15 : Bool) (H : Heap) (locs : List Loc) (σ1 : mwm), MW z D σ1 H → va_S (zA z) s.heap H locs → OB K ad_p0 σ1 s_p0 → KEO ad_p0 σ σ1 → k16 x16_l7 x16_l8 x16_l9 x16_l10 x16_l11 x16_l12 x16_l14 x16_l15 = some v → ∀ ls : Array Slot, lv_has ls 30 [(0, .ref (ad_p0 0)), (7, .int x16_l7), (8, .int x16_l8), (9, .int x16_l9), (10, .int x16_l10), (11, .int x16_l11), (12, .int x16_l12), (14, .int x16_l14), (15, .int (b2i x16_l15))] → W p l e ({ frames := 74, cells := 1217, slots := 7302, locals := 3107 } : Room) s m ([.ref (ad_p0 0)] : List Value).toArray below meth c H locs 1203 7218 (MQ below (qwI z D (fun r σ2 => r = b2i v ∧ OB K ad_p0 σ2 s_p0 ∧ KEO ad_p0 σ σ2)) ([.ref (ad_p0 0)] : List Value).toArray s 1217 7302 (zA z)) (F0 m 868 ls []) := by
        intro x16_l7 x16_l8 x16_l9 x16_l10 x16_l11 x16_l12 x16_l14 x16_l15 H locs σ1 hM hS hO_p0 hk h ls hl
        rw [ek16] at h
        refine lv_iload hx hb dL_holds_868 (lv_at hl 8 rfl) ?_
        obtain ⟨k17, ek17, h⟩ := bnd_ex h
        have J17 : ∀ (x17_0 : Bool) (H : Heap) (locs : List Loc) (σ1 : mwm), MW z D σ1 H → va_S (zA z) s.heap H locs → OB K ad_p0 σ1 s_p0 → KEO ad_p0 σ σ1 → k17 x17_0 = some v → ∀ ls : Array Slot, lv_has ls 30 [] → W p l e ({ frames := 74, cells := 1217, slots := 7302, locals := 3107 } : Room) s m ([.ref (ad_p0 0)] : List Value).toArray below meth c H locs 1217 7302 (MQ below (qwI z D (fun r σ2 => r = b2i v ∧ OB K ad_p0 σ2 s_p0 ∧ KEO ad_p0 σ σ2)) ([.ref (ad_p0 0)] : List Value).toArray s 1217 7302 (zA z)) (F0 m 1052 ls [.int (b2i x17_0)]) := by
          intro x17_0 H locs σ1 hM hS hO_p0 hk h ls hl
          rw [ek17] at h
          replace h := Option.some.inj h
          subst h
          exact W.zret (ty := .boolean) (v := b2i x17_0) hx hb hr (b2i_nar _) (fun t ht hW => ⟨⟨_, _, rfl, ⟨rfl, hO_p0, hk⟩, by show MW z D _ t.heap; rw [ht]; exact hM⟩, hS.F ht⟩) hS.2.2 dL_holds_1052 hlocks
        refine lv_if_eq (tgt := 1051) hx hb dL_holds_870 (by decide) (fun c18 => ?_) (fun c18 => ?_)
        · replace c18 := b2i_eq0.mp c18
          replace h := it_neg c18 h
          refine lv_iconst (v := 0) hx hb dL_holds_1051 (by decide) ?_
          refine W.widen (k := 1217) (n := 7302) (Nat.le_of_ble_eq_true rfl) (Nat.le_of_ble_eq_true rfl) ?_
          refine W.eq (g2 := F0 m 1052 ls [.int (b2i false)]) rfl ?_
          exact J17 false _ _ _ hM hS hO_p0 hk h ls (lv_sub hl [] rfl)
        · replace c18 := b2i_ne0.mp c18
          replace h := it_pos c18 h
          refine lv_aload_n hx hb dL_holds_873 rfl (lv_at hl 0 rfl) ?_
          refine lv_iconst (v := 2) hx hb dL_holds_874 (by decide) ?_
          refine lv_iconst (v := 5) hx hb dL_holds_875 (by decide) ?_
          refine lv_iconst (v := 0) hx hb dL_holds_876 (by decide) ?_
          refine lv_iconst (v := 0) hx hb dL_holds_877 (by decide) ?_
          obtain ⟨r19, hr19, h⟩ := ob_some h
          refine mw_wi (my_runS (As := [.ref (ad_p0 0), .int 2, .int 5, .int 0, .int 0]) (rest := []) hC hX hM hS (c_L_call_2 (ad_p0 := ad_p0) (s_p0 := s_p0) (hO_p0 := hO_p0) (hlt := hlt) (v := r19) hr19) gL_holds_L_call rfl rfl rfl q_L_call ⟨(Nat.le_of_ble_eq_true rfl), (Nat.le_of_ble_eq_true rfl)⟩ rfl rfl (Nat.le_of_ble_eq_true rfl) hl.1 dL_holds_878 ⟨(Nat.le_of_ble_eq_true rfl), (Nat.le_of_ble_eq_true rfl)⟩) hS (fun r9 H locs σ1 hp20 hM hS => ?_)
          obtain ⟨hr9, hO9, hk21⟩ := hp20
          replace hr9 := hr9.symm
          subst hr9
          replace hO_p0 := hO9
          have hk22 := KEO.tr hk hk21
          refine W.eq (g2 := F0 m 881 ls [.int r19]) rfl ?_
          refine lv_iload hx hb dL_holds_881 (lv_at hl 1 rfl) ?_
          refine lv_icmp_ne (tgt := 1051) hx hb dL_holds_883 (by decide) (fun c23 => ?_) (fun c23 => ?_)
          · replace h := it_neg c23 h
            refine lv_iconst (v := 0) hx hb dL_holds_1051 (by decide) ?_
            refine W.widen (k := 1217) (n := 7302) (Nat.le_of_ble_eq_true rfl) (Nat.le_of_ble_eq_true rfl) ?_
            refine W.eq (g2 := F0 m 1052 ls [.int (b2i false)]) rfl ?_
            exact J17 false _ _ _ hM hS hO_p0 hk22 h ls (lv_sub hl [] rfl)
          · replace h := it_pos c23 h
            refine lv_aload_n hx hb dL_holds_886 rfl (lv_at hl 0 rfl) ?_
            refine lv_iconst (v := 2) hx hb dL_holds_887 (by decide) ?_
            refine lv_bipush (v := 6) hx hb dL_holds_888 (by decide) ?_
            refine lv_iconst (v := 0) hx hb dL_holds_890 (by decide) ?_
            refine lv_iconst (v := 0) hx hb dL_holds_891 (by decide) ?_
            obtain ⟨r24, hr24, h⟩ := ob_some h
            refine mw_wi (my_runS (As := [.ref (ad_p0 0), .int 2, .int 6, .int 0, .int 0]) (rest := []) hC hX hM hS (c_L_call_2 (ad_p0 := ad_p0) (s_p0 := s_p0) (hO_p0 := hO_p0) (hlt := hlt) (v := r24) hr24) gL_holds_L_call rfl rfl rfl q_L_call ⟨(Nat.le_of_ble_eq_true rfl), (Nat.le_of_ble_eq_true rfl)⟩ rfl rfl (Nat.le_of_ble_eq_true rfl) hl.1 dL_holds_892 ⟨(Nat.le_of_ble_eq_true rfl), (Nat.le_of_ble_eq_true rfl)⟩) hS (fun r9 H locs σ1 hp25 hM hS => ?_)
            obtain ⟨hr9, hO9, hk26⟩ := hp25
            replace hr9 := hr9.symm
            subst hr9
            replace hO_p0 := hO9
            have hk27 := KEO.tr hk22 hk26
            refine W.eq (g2 := F0 m 895 ls [.int r24]) rfl ?_
            refine lv_iload hx hb dL_holds_895 (lv_at hl 2 rfl) ?_
            refine lv_icmp_ne (tgt := 1051) hx hb dL_holds_897 (by decide) (fun c28 => ?_) (fun c28 => ?_)
            · replace h := it_neg c28 h
              refine lv_iconst (v := 0) hx hb dL_holds_1051 (by decide) ?_
              refine W.widen (k := 1217) (n := 7302) (Nat.le_of_ble_eq_true rfl) (Nat.le_of_ble_eq_true rfl) ?_
              refine W.eq (g2 := F0 m 1052 ls [.int (b2i false)]) rfl ?_
              exact J17 false _ _ _ hM hS hO_p0 hk27 h ls (lv_sub hl [] rfl)
            · replace h := it_pos c28 h
              refine lv_aload_n hx hb dL_holds_900 rfl (lv_at hl 0 rfl) ?_
              refine lv_iconst (v := 3) hx hb dL_holds_901 (by decide) ?_
              refine lv_iconst (v := 0) hx hb dL_holds_902 (by decide) ?_
              refine lv_iconst (v := 3) hx hb dL_holds_903 (by decide) ?_
              refine lv_iconst (v := 0) hx hb dL_holds_904 (by decide) ?_
              obtain ⟨r29, hr29, h⟩ := ob_some h
              refine mw_wi (my_runS (As := [.ref (ad_p0 0), .int 3, .int 0, .int 3, .int 0]) (rest := []) hC hX hM hS (c_L_call_3 (ad_p0 := ad_p0) (s_p0 := s_p0) (hO_p0 := hO_p0) (hlt := hlt) (v := r29) hr29) gL_holds_L_call rfl rfl rfl q_L_call ⟨(Nat.le_of_ble_eq_true rfl), (Nat.le_of_ble_eq_true rfl)⟩ rfl rfl (Nat.le_of_ble_eq_true rfl) hl.1 dL_holds_905 ⟨(Nat.le_of_ble_eq_true rfl), (Nat.le_of_ble_eq_true rfl)⟩) hS (fun r9 H locs σ1 hp30 hM hS => ?_)
              obtain ⟨hr9, hO9, hk31⟩ := hp30
              replace hr9 := hr9.symm
              subst hr9
              replace hO_p0 := hO9
              have hk32 := KEO.tr hk27 hk31
              refine W.eq (g2 := F0 m 908 ls [.int r29]) rfl ?_
              refine lv_aload_n hx hb dL_holds_908 rfl (lv_at hl 0 rfl) ?_
              refine lv_iconst (v := 3) hx hb dL_holds_909 (by decide) ?_
              refine lv_iconst (v := 1) hx hb dL_holds_910 (by decide) ?_
              refine lv_iconst (v := 3) hx hb dL_holds_911 (by decide) ?_
              refine lv_iconst (v := 0) hx hb dL_holds_912 (by decide) ?_
              obtain ⟨r33, hr33, h⟩ := ob_some h
              refine mw_wi (my_runS (As := [.ref (ad_p0 0), .int 3, .int 1, .int 3, .int 0]) (rest := [.int r29]) hC hX hM hS (c_L_call_3 (ad_p0 := ad_p0) (s_p0 := s_p0) (hO_p0 := hO_p0) (hlt := hlt) (v := r33) hr33) gL_holds_L_call rfl rfl rfl q_L_call ⟨(Nat.le_of_ble_eq_true rfl), (Nat.le_of_ble_eq_true rfl)⟩ rfl rfl (Nat.le_of_ble_eq_true rfl) hl.1 dL_holds_913 ⟨(Nat.le_of_ble_eq_true rfl), (Nat.le_of_ble_eq_true rfl)⟩) hS (fun r9 H locs σ1 hp34 hM hS => ?_)
              obtain ⟨hr9, hO9, hk35⟩ := hp34
              replace hr9 := hr9.symm
              subst hr9
              replace hO_p0 := hO9
              have hk36 := KEO.tr hk32 hk35
              refine W.eq (g2 := F0 m 916 ls [.int r33, .int r29]) rfl ?_
              refine lv_iadd hx hb dL_holds_916 ?_
              refine lv_iload hx hb dL_holds_917 (lv_at hl 4 rfl) ?_
              refine lv_icmp_ne (tgt := 1051) hx hb dL_holds_919 (by decide) (fun c37 => ?_) (fun c37 => ?_)
              · replace h := it_neg c37 h
                refine lv_iconst (v := 0) hx hb dL_holds_1051 (by decide) ?_
                refine W.widen (k := 1217) (n := 7302) (Nat.le_of_ble_eq_true rfl) (Nat.le_of_ble_eq_true rfl) ?_
                refine W.eq (g2 := F0 m 1052 ls [.int (b2i false)]) rfl ?_
                exact J17 false _ _ _ hM hS hO_p0 hk36 h ls (lv_sub hl [] rfl)
              · replace h := it_pos c37 h
                refine lv_aload_n hx hb dL_holds_922 rfl (lv_at hl 0 rfl) ?_
                refine lv_iconst (v := 3) hx hb dL_holds_923 (by decide) ?_
                refine lv_iconst (v := 0) hx hb dL_holds_924 (by decide) ?_
                refine lv_iconst (v := 4) hx hb dL_holds_925 (by decide) ?_
                refine lv_iconst (v := 0) hx hb dL_holds_926 (by decide) ?_
                obtain ⟨r38, hr38, h⟩ := ob_some h
                refine mw_wi (my_runS (As := [.ref (ad_p0 0), .int 3, .int 0, .int 4, .int 0]) (rest := []) hC hX hM hS (c_L_call_3 (ad_p0 := ad_p0) (s_p0 := s_p0) (hO_p0 := hO_p0) (hlt := hlt) (v := r38) hr38) gL_holds_L_call rfl rfl rfl q_L_call ⟨(Nat.le_of_ble_eq_true rfl), (Nat.le_of_ble_eq_true rfl)⟩ rfl rfl (Nat.le_of_ble_eq_true rfl) hl.1 dL_holds_927 ⟨(Nat.le_of_ble_eq_true rfl), (Nat.le_of_ble_eq_true rfl)⟩) hS (fun r9 H locs σ1 hp39 hM hS => ?_)
                obtain ⟨hr9, hO9, hk40⟩ := hp39
                replace hr9 := hr9.symm
                subst hr9
                replace hO_p0 := hO9
                have hk41 := KEO.tr hk36 hk40
                refine W.eq (g2 := F0 m 930 ls [.int r38]) rfl ?_
                refine lv_aload_n hx hb dL_holds_930 rfl (lv_at hl 0 rfl) ?_
                refine lv_iconst (v := 3) hx hb dL_holds_931 (by decide) ?_
                refine lv_iconst (v := 1) hx hb dL_holds_932 (by decide) ?_
                refine lv_iconst (v := 4) hx hb dL_holds_933 (by decide) ?_
                refine lv_iconst (v := 0) hx hb dL_holds_934 (by decide) ?_
                obtain ⟨r42, hr42, h⟩ := ob_some h
                refine mw_wi (my_runS (As := [.ref (ad_p0 0), .int 3, .int 1, .int 4, .int 0]) (rest := [.int r38]) hC hX hM hS (c_L_call_3 (ad_p0 := ad_p0) (s_p0 := s_p0) (hO_p0 := hO_p0) (hlt := hlt) (v := r42) hr42) gL_holds_L_call rfl rfl rfl q_L_call ⟨(Nat.le_of_ble_eq_true rfl), (Nat.le_of_ble_eq_true rfl)⟩ rfl rfl (Nat.le_of_ble_eq_true rfl) hl.1 dL_holds_935 ⟨(Nat.le_of_ble_eq_true rfl), (Nat.le_of_ble_eq_true rfl)⟩) hS (fun r9 H locs σ1 hp43 hM hS => ?_)
                obtain ⟨hr9, hO9, hk44⟩ := hp43
                replace hr9 := hr9.symm
                subst hr9
                replace hO_p0 := hO9
                have hk45 := KEO.tr hk41 hk44
                refine W.eq (g2 := F0 m 938 ls [.int r42, .int r38]) rfl ?_
                refine lv_iadd hx hb dL_holds_938 ?_
                refine lv_iload hx hb dL_holds_939 (lv_at hl 5 rfl) ?_
                refine lv_icmp_ne (tgt := 1051) hx hb dL_holds_941 (by decide) (fun c46 => ?_) (fun c46 => ?_)
                · replace h := it_neg c46 h
                  refine lv_iconst (v := 0) hx hb dL_holds_1051 (by decide) ?_
                  refine W.widen (k := 1217) (n := 7302) (Nat.le_of_ble_eq_true rfl) (Nat.le_of_ble_eq_true rfl) ?_
                  refine W.eq (g2 := F0 m 1052 ls [.int (b2i false)]) rfl ?_
                  exact J17 false _ _ _ hM hS hO_p0 hk45 h ls (lv_sub hl [] rfl)
                · replace h := it_pos c46 h
                  refine lv_aload_n hx hb dL_holds_944 rfl (lv_at hl 0 rfl) ?_
                  obtain ⟨r47, hr47, h⟩ := ob_some h
                  refine mw_ci (mw_runV (As := []) (rest := []) (ci := 5) (C := RX7) (T := TX7) (N := 6) hC hM hS (hO_p0.at0) rfl (o_X7_choices hO_p0 hr47) gL_holds_X7_choices rfl rfl rfl rfl q_X7_choices ⟨(Nat.le_of_ble_eq_true rfl), (Nat.le_of_ble_eq_true rfl)⟩ rfl rfl (Nat.le_of_ble_eq_true rfl) hl.1 dL_holds_945 ⟨(Nat.le_of_ble_eq_true rfl), (Nat.le_of_ble_eq_true rfl)⟩) ?_
                  refine lv_iload hx hb dL_holds_948 (lv_at hl 3 rfl) ?_
                  refine lv_icmp_ne (tgt := 1051) hx hb dL_holds_950 (by decide) (fun c48 => ?_) (fun c48 => ?_)
                  · replace h := it_neg c48 h
                    refine lv_iconst (v := 0) hx hb dL_holds_1051 (by decide) ?_
                    refine W.widen (k := 1217) (n := 7302) (Nat.le_of_ble_eq_true rfl) (Nat.le_of_ble_eq_true rfl) ?_
                    refine W.eq (g2 := F0 m 1052 ls [.int (b2i false)]) rfl ?_
                    exact J17 false _ _ _ hM hS hO_p0 hk45 h ls (lv_sub hl [] rfl)
                  · replace h := it_pos c48 h
                    refine lv_aload_n hx hb dL_holds_953 rfl (lv_at hl 0 rfl) ?_
                    obtain ⟨r49, hr49, h⟩ := ob_some h
                    refine mw_ci (mw_runV (As := []) (rest := []) (ci := 5) (C := RX7) (T := TX7) (N := 6) hC hM hS (hO_p0.at0) rfl (o_X7_bestTake hO_p0 hr49) gL_holds_X7_bestTake rfl rfl rfl rfl q_X7_bestTake ⟨(Nat.le_of_ble_eq_true rfl), (Nat.le_of_ble_eq_true rfl)⟩ rfl rfl (Nat.le_of_ble_eq_true rfl) hl.1 dL_holds_954 ⟨(Nat.le_of_ble_eq_true rfl), (Nat.le_of_ble_eq_true rfl)⟩) ?_
                    refine lv_iload hx hb dL_holds_957 (lv_at hl 6 rfl) ?_
                    refine lv_icmp_ne (tgt := 1051) hx hb dL_holds_959 (by decide) (fun c50 => ?_) (fun c50 => ?_)
                    · replace h := it_neg c50 h
                      refine lv_iconst (v := 0) hx hb dL_holds_1051 (by decide) ?_
                      refine W.widen (k := 1217) (n := 7302) (Nat.le_of_ble_eq_true rfl) (Nat.le_of_ble_eq_true rfl) ?_
                      refine W.eq (g2 := F0 m 1052 ls [.int (b2i false)]) rfl ?_
                      exact J17 false _ _ _ hM hS hO_p0 hk45 h ls (lv_sub hl [] rfl)
                    · replace h := it_pos c50 h
                      refine lv_aload_n hx hb dL_holds_962 rfl (lv_at hl 0 rfl) ?_
                      obtain ⟨r51, hr51, h⟩ := ob_some h
                      refine mw_ci (mw_runV (As := []) (rest := []) (ci := 5) (C := RX7) (T := TX7) (N := 6) hC hM hS (hO_p0.at0) rfl (o_X7_lead hO_p0 hr51) gL_holds_X7_lead rfl rfl rfl rfl q_X7_lead ⟨(Nat.le_of_ble_eq_true rfl), (Nat.le_of_ble_eq_true rfl)⟩ rfl rfl (Nat.le_of_ble_eq_true rfl) hl.1 dL_holds_963 ⟨(Nat.le_of_ble_eq_true rfl), (Nat.le_of_ble_eq_true rfl)⟩) ?_
                      refine lv_iload hx hb dL_holds_966 (lv_at hl 7 rfl) ?_
                      refine lv_icmp_ne (tgt := 1051) hx hb dL_holds_968 (by decide) (fun c52 => ?_) (fun c52 => ?_)
                      · replace h := it_neg c52 h
                        refine lv_iconst (v := 0) hx hb dL_holds_1051 (by decide) ?_
                        refine W.widen (k := 1217) (n := 7302) (Nat.le_of_ble_eq_true rfl) (Nat.le_of_ble_eq_true rfl) ?_
                        refine W.eq (g2 := F0 m 1052 ls [.int (b2i false)]) rfl ?_
                        exact J17 false _ _ _ hM hS hO_p0 hk45 h ls (lv_sub hl [] rfl)
                      · replace h := it_pos c52 h
                        refine lv_aload_n hx hb dL_holds_971 rfl (lv_at hl 0 rfl) ?_
                        refine lv_iconst (v := 3) hx hb dL_holds_972 (by decide) ?_
                        refine lv_iconst (v := 0) hx hb dL_holds_973 (by decide) ?_
                        refine lv_iconst (v := 0) hx hb dL_holds_974 (by decide) ?_
                        refine lv_iconst (v := 0) hx hb dL_holds_975 (by decide) ?_
                        obtain ⟨r53, hr53, h⟩ := ob_some h
                        refine mw_wi (my_runS (As := [.ref (ad_p0 0), .int 3, .int 0, .int 0, .int 0]) (rest := []) hC hX hM hS (c_L_call_3 (ad_p0 := ad_p0) (s_p0 := s_p0) (hO_p0 := hO_p0) (hlt := hlt) (v := r53) hr53) gL_holds_L_call rfl rfl rfl q_L_call ⟨(Nat.le_of_ble_eq_true rfl), (Nat.le_of_ble_eq_true rfl)⟩ rfl rfl (Nat.le_of_ble_eq_true rfl) hl.1 dL_holds_976 ⟨(Nat.le_of_ble_eq_true rfl), (Nat.le_of_ble_eq_true rfl)⟩) hS (fun r9 H locs σ1 hp54 hM hS => ?_)
                        obtain ⟨hr9, hO9, hk55⟩ := hp54
                        replace hr9 := hr9.symm
                        subst hr9
                        replace hO_p0 := hO9
                        have hk56 := KEO.tr hk45 hk55
                        refine W.eq (g2 := F0 m 979 ls [.int r53]) rfl ?_
                        refine lv_aload_n hx hb dL_holds_979 rfl (lv_at hl 0 rfl) ?_
                        refine lv_iconst (v := 3) hx hb dL_holds_980 (by decide) ?_
                        refine lv_iconst (v := 1) hx hb dL_holds_981 (by decide) ?_
                        refine lv_iconst (v := 0) hx hb dL_holds_982 (by decide) ?_
                        refine lv_iconst (v := 0) hx hb dL_holds_983 (by decide) ?_
                        obtain ⟨r57, hr57, h⟩ := ob_some h
                        refine mw_wi (my_runS (As := [.ref (ad_p0 0), .int 3, .int 1, .int 0, .int 0]) (rest := [.int r53]) hC hX hM hS (c_L_call_3 (ad_p0 := ad_p0) (s_p0 := s_p0) (hO_p0 := hO_p0) (hlt := hlt) (v := r57) hr57) gL_holds_L_call rfl rfl rfl q_L_call ⟨(Nat.le_of_ble_eq_true rfl), (Nat.le_of_ble_eq_true rfl)⟩ rfl rfl (Nat.le_of_ble_eq_true rfl) hl.1 dL_holds_984 ⟨(Nat.le_of_ble_eq_true rfl), (Nat.le_of_ble_eq_true rfl)⟩) hS (fun r9 H locs σ1 hp58 hM hS => ?_)
                        obtain ⟨hr9, hO9, hk59⟩ := hp58
                        replace hr9 := hr9.symm
                        subst hr9
                        replace hO_p0 := hO9
                        have hk60 := KEO.tr hk56 hk59
                        refine W.eq (g2 := F0 m 987 ls [.int r57, .int r53]) rfl ?_
                        refine lv_iadd hx hb dL_holds_987 ?_
                        refine lv_aload_n hx hb dL_holds_988 rfl (lv_at hl 0 rfl) ?_
                        refine lv_iconst (v := 3) hx hb dL_holds_989 (by decide) ?_
                        refine lv_iconst (v := 0) hx hb dL_holds_990 (by decide) ?_
                        refine lv_iconst (v := 1) hx hb dL_holds_991 (by decide) ?_
                        refine lv_iconst (v := 0) hx hb dL_holds_992 (by decide) ?_
                        obtain ⟨r61, hr61, h⟩ := ob_some h
                        refine mw_wi (my_runS (As := [.ref (ad_p0 0), .int 3, .int 0, .int 1, .int 0]) (rest := [.int (r53 + r57)]) hC hX hM hS (c_L_call_3 (ad_p0 := ad_p0) (s_p0 := s_p0) (hO_p0 := hO_p0) (hlt := hlt) (v := r61) hr61) gL_holds_L_call rfl rfl rfl q_L_call ⟨(Nat.le_of_ble_eq_true rfl), (Nat.le_of_ble_eq_true rfl)⟩ rfl rfl (Nat.le_of_ble_eq_true rfl) hl.1 dL_holds_993 ⟨(Nat.le_of_ble_eq_true rfl), (Nat.le_of_ble_eq_true rfl)⟩) hS (fun r9 H locs σ1 hp62 hM hS => ?_)
                        obtain ⟨hr9, hO9, hk63⟩ := hp62
                        replace hr9 := hr9.symm
                        subst hr9
                        replace hO_p0 := hO9
                        have hk64 := KEO.tr hk60 hk63
                        refine W.eq (g2 := F0 m 996 ls [.int r61, .int (r53 + r57)]) rfl ?_
                        refine lv_iadd hx hb dL_holds_996 ?_
                        refine lv_aload_n hx hb dL_holds_997 rfl (lv_at hl 0 rfl) ?_
                        refine lv_iconst (v := 3) hx hb dL_holds_998 (by decide) ?_
                        refine lv_iconst (v := 1) hx hb dL_holds_999 (by decide) ?_
                        refine lv_iconst (v := 1) hx hb dL_holds_1000 (by decide) ?_
                        refine lv_iconst (v := 0) hx hb dL_holds_1001 (by decide) ?_
                        obtain ⟨r65, hr65, h⟩ := ob_some h
                        refine mw_wi (my_runS (As := [.ref (ad_p0 0), .int 3, .int 1, .int 1, .int 0]) (rest := [.int ((r53 + r57) + r61)]) hC hX hM hS (c_L_call_3 (ad_p0 := ad_p0) (s_p0 := s_p0) (hO_p0 := hO_p0) (hlt := hlt) (v := r65) hr65) gL_holds_L_call rfl rfl rfl q_L_call ⟨(Nat.le_of_ble_eq_true rfl), (Nat.le_of_ble_eq_true rfl)⟩ rfl rfl (Nat.le_of_ble_eq_true rfl) hl.1 dL_holds_1002 ⟨(Nat.le_of_ble_eq_true rfl), (Nat.le_of_ble_eq_true rfl)⟩) hS (fun r9 H locs σ1 hp66 hM hS => ?_)
                        obtain ⟨hr9, hO9, hk67⟩ := hp66
                        replace hr9 := hr9.symm
                        subst hr9
                        replace hO_p0 := hO9
                        have hk68 := KEO.tr hk64 hk67
                        refine W.eq (g2 := F0 m 1005 ls [.int r65, .int ((r53 + r57) + r61)]) rfl ?_
                        refine lv_iadd hx hb dL_holds_1005 ?_
                        refine lv_aload_n hx hb dL_holds_1006 rfl (lv_at hl 0 rfl) ?_
                        refine lv_iconst (v := 2) hx hb dL_holds_1007 (by decide) ?_
                        refine lv_iconst (v := 3) hx hb dL_holds_1008 (by decide) ?_
                        refine lv_iconst (v := 0) hx hb dL_holds_1009 (by decide) ?_
                        refine lv_iconst (v := 0) hx hb dL_holds_1010 (by decide) ?_
                        obtain ⟨r69, hr69, h⟩ := ob_some h
                        refine mw_wi (my_runS (As := [.ref (ad_p0 0), .int 2, .int 3, .int 0, .int 0]) (rest := [.int (((r53 + r57) + r61) + r65)]) hC hX hM hS (c_L_call_2 (ad_p0 := ad_p0) (s_p0 := s_p0) (hO_p0 := hO_p0) (hlt := hlt) (v := r69) hr69) gL_holds_L_call rfl rfl rfl q_L_call ⟨(Nat.le_of_ble_eq_true rfl), (Nat.le_of_ble_eq_true rfl)⟩ rfl rfl (Nat.le_of_ble_eq_true rfl) hl.1 dL_holds_1011 ⟨(Nat.le_of_ble_eq_true rfl), (Nat.le_of_ble_eq_true rfl)⟩) hS (fun r9 H locs σ1 hp70 hM hS => ?_)
                        obtain ⟨hr9, hO9, hk71⟩ := hp70
                        replace hr9 := hr9.symm
                        subst hr9
                        replace hO_p0 := hO9
                        have hk72 := KEO.tr hk68 hk71
                        refine W.eq (g2 := F0 m 1014 ls [.int r69, .int (((r53 + r57) + r61) + r65)]) rfl ?_
                        refine lv_iadd hx hb dL_holds_1014 ?_
                        refine lv_aload_n hx hb dL_holds_1015 rfl (lv_at hl 0 rfl) ?_
                        refine lv_iconst (v := 2) hx hb dL_holds_1016 (by decide) ?_
                        refine lv_iconst (v := 1) hx hb dL_holds_1017 (by decide) ?_
                        refine lv_iconst (v := 0) hx hb dL_holds_1018 (by decide) ?_
                        refine lv_iconst (v := 0) hx hb dL_holds_1019 (by decide) ?_
                        obtain ⟨r73, hr73, h⟩ := ob_some h
                        refine mw_wi (my_runS (As := [.ref (ad_p0 0), .int 2, .int 1, .int 0, .int 0]) (rest := [.int ((((r53 + r57) + r61) + r65) + r69)]) hC hX hM hS (c_L_call_2 (ad_p0 := ad_p0) (s_p0 := s_p0) (hO_p0 := hO_p0) (hlt := hlt) (v := r73) hr73) gL_holds_L_call rfl rfl rfl q_L_call ⟨(Nat.le_of_ble_eq_true rfl), (Nat.le_of_ble_eq_true rfl)⟩ rfl rfl (Nat.le_of_ble_eq_true rfl) hl.1 dL_holds_1020 ⟨(Nat.le_of_ble_eq_true rfl), (Nat.le_of_ble_eq_true rfl)⟩) hS (fun r9 H locs σ1 hp74 hM hS => ?_)
                        obtain ⟨hr9, hO9, hk75⟩ := hp74
                        replace hr9 := hr9.symm
                        subst hr9
                        replace hO_p0 := hO9
                        have hk76 := KEO.tr hk72 hk75
                        refine W.eq (g2 := F0 m 1023 ls [.int r73, .int ((((r53 + r57) + r61) + r65) + r69)]) rfl ?_
                        refine lv_icmp_ne (tgt := 1051) hx hb dL_holds_1023 (by decide) (fun c77 => ?_) (fun c77 => ?_)
                        · replace h := it_neg c77 h
                          refine lv_iconst (v := 0) hx hb dL_holds_1051 (by decide) ?_
                          refine W.widen (k := 1217) (n := 7302) (Nat.le_of_ble_eq_true rfl) (Nat.le_of_ble_eq_true rfl) ?_
                          refine W.eq (g2 := F0 m 1052 ls [.int (b2i false)]) rfl ?_
                          exact J17 false _ _ _ hM hS hO_p0 hk76 h ls (lv_sub hl [] rfl)
                        · replace h := it_pos c77 h
                          refine lv_aload_n hx hb dL_holds_1026 rfl (lv_at hl 0 rfl) ?_
                          refine lv_iconst (v := 2) hx hb dL_holds_1027 (by decide) ?_
                          refine lv_iconst (v := 2) hx hb dL_holds_1028 (by decide) ?_
                          refine lv_iconst (v := 0) hx hb dL_holds_1029 (by decide) ?_
                          refine lv_iconst (v := 0) hx hb dL_holds_1030 (by decide) ?_
                          obtain ⟨r78, hr78, h⟩ := ob_some h
                          refine mw_wi (my_runS (As := [.ref (ad_p0 0), .int 2, .int 2, .int 0, .int 0]) (rest := []) hC hX hM hS (c_L_call_2 (ad_p0 := ad_p0) (s_p0 := s_p0) (hO_p0 := hO_p0) (hlt := hlt) (v := r78) hr78) gL_holds_L_call rfl rfl rfl q_L_call ⟨(Nat.le_of_ble_eq_true rfl), (Nat.le_of_ble_eq_true rfl)⟩ rfl rfl (Nat.le_of_ble_eq_true rfl) hl.1 dL_holds_1031 ⟨(Nat.le_of_ble_eq_true rfl), (Nat.le_of_ble_eq_true rfl)⟩) hS (fun r9 H locs σ1 hp79 hM hS => ?_)
                          obtain ⟨hr9, hO9, hk80⟩ := hp79
                          replace hr9 := hr9.symm
                          subst hr9
                          replace hO_p0 := hO9
                          have hk81 := KEO.tr hk76 hk80
                          refine W.eq (g2 := F0 m 1034 ls [.int r78]) rfl ?_
                          refine lv_aload_n hx hb dL_holds_1034 rfl (lv_at hl 0 rfl) ?_
                          refine lv_iconst (v := 2) hx hb dL_holds_1035 (by decide) ?_
                          refine lv_iconst (v := 1) hx hb dL_holds_1036 (by decide) ?_
                          refine lv_iconst (v := 0) hx hb dL_holds_1037 (by decide) ?_
                          refine lv_iconst (v := 0) hx hb dL_holds_1038 (by decide) ?_
                          obtain ⟨r82, hr82, h⟩ := ob_some h
                          refine mw_wi (my_runS (As := [.ref (ad_p0 0), .int 2, .int 1, .int 0, .int 0]) (rest := [.int r78]) hC hX hM hS (c_L_call_2 (ad_p0 := ad_p0) (s_p0 := s_p0) (hO_p0 := hO_p0) (hlt := hlt) (v := r82) hr82) gL_holds_L_call rfl rfl rfl q_L_call ⟨(Nat.le_of_ble_eq_true rfl), (Nat.le_of_ble_eq_true rfl)⟩ rfl rfl (Nat.le_of_ble_eq_true rfl) hl.1 dL_holds_1039 ⟨(Nat.le_of_ble_eq_true rfl), (Nat.le_of_ble_eq_true rfl)⟩) hS (fun r9 H locs σ1 hp83 hM hS => ?_)
                          obtain ⟨hr9, hO9, hk84⟩ := hp83
                          replace hr9 := hr9.symm
                          subst hr9
                          replace hO_p0 := hO9
                          have hk85 := KEO.tr hk81 hk84
                          refine W.eq (g2 := F0 m 1042 ls [.int r82, .int r78]) rfl ?_
                          refine lv_iconst (v := 2) hx hb dL_holds_1042 (by decide) ?_
                          refine lv_irem hx hb dL_holds_1043 (by decide) ?_
                          refine lv_icmp_ne (tgt := 1051) hx hb dL_holds_1044 (by decide) (fun c86 => ?_) (fun c86 => ?_)
                          · replace h := it_neg c86 h
                            refine lv_iconst (v := 0) hx hb dL_holds_1051 (by decide) ?_
                            refine W.eq (g2 := F0 m 1052 ls [.int (b2i false)]) rfl ?_
                            exact J17 false _ _ _ hM hS hO_p0 hk85 h ls (lv_sub hl [] rfl)
                          · replace h := it_pos c86 h
                            refine lv_iconst (v := 1) hx hb dL_holds_1047 (by decide) ?_
                            refine lv_goto (tgt := 1052) hx hb dL_holds_1048 (by decide) ?_
                            refine W.eq (g2 := F0 m 1052 ls [.int (b2i true)]) rfl ?_
                            exact J17 true _ _ _ hM hS hO_p0 hk85 h ls (lv_sub hl [] rfl)
      have L734 : ∀ (u3 : Int64) (u5 : Int64) (u7 : Int32) (u8 : Int32) (u9 : Int32) (u10 : Int32) (u11 : Int32) (u12 : Int32) (fu0 : Nat) (x14 : Int32) (x15 : Bool) (x16 : Int32) (cc0 ss0 : Nat) (H : Heap) (locs : List Loc) (σ1 : mwm), cc0 + fu0 * 6 ≤ 1203 → ss0 + fu0 * 36 ≤ 7218 → MW z D σ1 H → va_S (zA z) s.heap H locs → OB K ad_p0 σ1 s_p0 → KEO ad_p0 σ σ1 → fL_holds_734 s_p0 u3 u5 u7 u8 u9 u10 u11 u12 k16 fu0 x14 x15 x16 = some v → ∀ ls : Array Slot, lv_has ls 30 [(0, .ref (ad_p0 0)), (3, .long u3), (5, .long u5), (7, .int u7), (8, .int u8), (9, .int u9), (10, .int u10), (11, .int u11), (12, .int u12), (14, .int x14), (15, .int (b2i x15)), (16, .int x16)] → W p l e ({ frames := 74, cells := 1217, slots := 7302, locals := 3107 } : Room) s m ([.ref (ad_p0 0)] : List Value).toArray below meth c H locs cc0 ss0 (MQ below (qwI z D (fun r σ2 => r = b2i v ∧ OB K ad_p0 σ2 s_p0 ∧ KEO ad_p0 σ σ2)) ([.ref (ad_p0 0)] : List Value).toArray s 1217 7302 (zA z)) (F0 m 734 ls []) := by
        intro u3 u5 u7 u8 u9 u10 u11 u12 fu0
        induction fu0 with
        | zero =>
          intro x14 x15 x16 cc0 ss0 H locs σ1 hcc hss hM hS hO_p0 hk h
          unfold fL_holds_734 at h
          cases h
        | succ fu0 ih0 =>
          intro x14 x15 x16 cc0 ss0 H locs σ1 hcc hss hM hS hO_p0 hk h ls hl
          unfold fL_holds_734 at h
          refine lv_iload hx hb dL_holds_734 (lv_at hl 11 rfl) ?_
          refine lv_iconst (v := 2) hx hb dL_holds_736 (by decide) ?_
          refine lv_icmp_ge (tgt := 868) hx hb dL_holds_737 (by decide) (fun c87 => ?_) (fun c87 => ?_)
          · replace h := it_pos c87 h
            refine W.widen (k := 1203) (n := 7218) (by omega) (by omega) ?_
            exact J16 u7 u8 u9 u10 u11 u12 x14 x15 _ _ _ hM hS hO_p0 hk h ls (lv_sub hl [0, 3, 4, 5, 6, 7, 8, 9, 10] rfl)
          · replace h := it_neg c87 h
            refine lv_iload hx hb dL_holds_740 (lv_at hl 10 rfl) ?_
            refine lv_if_eq (tgt := 868) hx hb dL_holds_742 (by decide) (fun c88 => ?_) (fun c88 => ?_)
            · replace c88 := b2i_eq0.mp c88
              replace h := it_neg c88 h
              refine W.widen (k := 1203) (n := 7218) (by omega) (by omega) ?_
              exact J16 u7 u8 u9 u10 u11 u12 x14 x15 _ _ _ hM hS hO_p0 hk h ls (lv_sub hl [0, 3, 4, 5, 6, 7, 8, 9, 10] rfl)
            · replace c88 := b2i_ne0.mp c88
              replace h := it_pos c88 h
              refine lv_iload hx hb dL_holds_745 (lv_at hl 9 rfl) ?_
              refine lv_iload hx hb dL_holds_747 (lv_at hl 11 rfl) ?_
              obtain ⟨k89, ek89, h⟩ := bnd_ex h
              have J89 : ∀ (x89_0 : Int32) (H : Heap) (locs : List Loc) (σ1 : mwm), MW z D σ1 H → va_S (zA z) s.heap H locs → OB K ad_p0 σ1 s_p0 → KEO ad_p0 σ σ1 → k89 x89_0 = some v → ∀ ls : Array Slot, lv_has ls 30 [(0, .ref (ad_p0 0)), (3, .long u3), (5, .long u5), (7, .int u7), (8, .int u8), (9, .int u9), (10, .int u10), (11, .int u11), (12, .int u12), (16, .int x16)] → W p l e ({ frames := 74, cells := 1217, slots := 7302, locals := 3107 } : Room) s m ([.ref (ad_p0 0)] : List Value).toArray below meth c H locs (cc0 + 1) (ss0 + 6) (MQ below (qwI z D (fun r σ2 => r = b2i v ∧ OB K ad_p0 σ2 s_p0 ∧ KEO ad_p0 σ σ2)) ([.ref (ad_p0 0)] : List Value).toArray s 1217 7302 (zA z)) (F0 m 784 ls [.int x89_0, .int x14]) := by
                intro x89_0 H locs σ1 hM hS hO_p0 hk h ls hl
                rw [ek89] at h
                refine lv_iadd hx hb dL_holds_784 ?_
                refine lv_istore (lv' := [(14, .int (x14 + x89_0)), (0, .ref (ad_p0 0)), (3, .long u3), (5, .long u5), (7, .int u7), (8, .int u8), (9, .int u9), (10, .int u10), (11, .int u11), (12, .int u12), (16, .int x16)]) hx hb dL_holds_785 hl (by decide) rfl (fun ls hl => ?_)
                refine lv_aload_n hx hb dL_holds_787 rfl (lv_at hl 1 rfl) ?_
                refine lv_iconst (v := 3) hx hb dL_holds_788 (by decide) ?_
                refine lv_iload hx hb dL_holds_789 (lv_at hl 10 rfl) ?_
                refine lv_iconst (v := 0) hx hb dL_holds_791 (by decide) ?_
                refine lv_iconst (v := 0) hx hb dL_holds_792 (by decide) ?_
                obtain ⟨r90, hr90, h⟩ := ob_some h
                refine mw_wi (my_runS (As := [.ref (ad_p0 0), .int 3, .int x16, .int 0, .int 0]) (rest := []) hC hX hM hS (c_L_call_3 (ad_p0 := ad_p0) (s_p0 := s_p0) (hO_p0 := hO_p0) (hlt := hlt) (v := r90) hr90) gL_holds_L_call rfl rfl rfl q_L_call ⟨(Nat.le_of_ble_eq_true rfl), (Nat.le_of_ble_eq_true rfl)⟩ rfl rfl (Nat.le_of_ble_eq_true rfl) hl.1 dL_holds_793 ⟨(by dsimp only; omega), (by dsimp only; omega)⟩) hS (fun r9 H locs σ1 hp91 hM hS => ?_)
                obtain ⟨hr9, hO9, hk92⟩ := hp91
                replace hr9 := hr9.symm
                subst hr9
                replace hO_p0 := hO9
                have hk93 := KEO.tr hk hk92
                refine W.eq (g2 := F0 m 796 ls [.int r90]) rfl ?_
                refine W.widen (k := (cc0 + 2)) (n := (ss0 + 12)) (by omega) (by omega) ?_
                refine lv_iload hx hb dL_holds_796 (lv_at hl 10 rfl) ?_
                obtain ⟨k94, ek94, h⟩ := bnd_ex h
                have J94 : ∀ (x94_0 : Int64) (H : Heap) (locs : List Loc) (σ1 : mwm), MW z D σ1 H → va_S (zA z) s.heap H locs → OB K ad_p0 σ1 s_p0 → KEO ad_p0 σ σ1 → k94 x94_0 = some v → ∀ ls : Array Slot, lv_has ls 30 [(0, .ref (ad_p0 0)), (3, .long u3), (5, .long u5), (7, .int u7), (8, .int u8), (9, .int u9), (10, .int u10), (11, .int u11), (12, .int u12), (14, .int (x14 + x89_0)), (16, .int x16)] → W p l e ({ frames := 74, cells := 1217, slots := 7302, locals := 3107 } : Room) s m ([.ref (ad_p0 0)] : List Value).toArray below meth c H locs (cc0 + 2) (ss0 + 12) (MQ below (qwI z D (fun r σ2 => r = b2i v ∧ OB K ad_p0 σ2 s_p0 ∧ KEO ad_p0 σ σ2)) ([.ref (ad_p0 0)] : List Value).toArray s 1217 7302 (zA z)) (F0 m 807 ls [.long x94_0, .int r90]) := by
                  intro x94_0 H locs σ1 hM hS hO_p0 hk h ls hl
                  rw [ek94] at h
                  obtain ⟨r95, hr95, h⟩ := ob_some h
                  refine mw_ci (mw_runS (As := [.long x94_0]) (rest := [.int r90]) hC hM hS (c_L_count (v := r95) hr95) gL_holds_L_count rfl rfl rfl q_L_count ⟨(Nat.le_of_ble_eq_true rfl), (Nat.le_of_ble_eq_true rfl)⟩ rfl rfl (Nat.le_of_ble_eq_true rfl) hl.1 dL_holds_807 ⟨(by dsimp only; omega), (by dsimp only; omega)⟩) ?_
                  obtain ⟨k96, ek96, h⟩ := bnd_ex h
                  have J96 : ∀ (x96_0 : Bool) (H : Heap) (locs : List Loc) (σ1 : mwm), MW z D σ1 H → va_S (zA z) s.heap H locs → OB K ad_p0 σ1 s_p0 → KEO ad_p0 σ σ1 → k96 x96_0 = some v → ∀ ls : Array Slot, lv_has ls 30 [(0, .ref (ad_p0 0)), (3, .long u3), (5, .long u5), (7, .int u7), (8, .int u8), (9, .int u9), (10, .int u10), (11, .int u11), (12, .int u12), (14, .int (x14 + x89_0)), (16, .int x16)] → W p l e ({ frames := 74, cells := 1217, slots := 7302, locals := 3107 } : Room) s m ([.ref (ad_p0 0)] : List Value).toArray below meth c H locs (cc0 + 6) (ss0 + 36) (MQ below (qwI z D (fun r σ2 => r = b2i v ∧ OB K ad_p0 σ2 s_p0 ∧ KEO ad_p0 σ σ2)) ([.ref (ad_p0 0)] : List Value).toArray s 1217 7302 (zA z)) (F0 m 860 ls [.int (b2i x96_0)]) := by
                    intro x96_0 H locs σ1 hM hS hO_p0 hk h ls hl
                    rw [ek96] at h
                    refine lv_istore (lv' := [(15, .int (b2i x96_0)), (0, .ref (ad_p0 0)), (3, .long u3), (5, .long u5), (7, .int u7), (8, .int u8), (9, .int u9), (10, .int u10), (11, .int u11), (12, .int u12), (14, .int (x14 + x89_0)), (16, .int x16)]) hx hb dL_holds_860 hl (by decide) rfl (fun ls hl => ?_)
                    refine lv_iinc (v := (x16 + 1)) (lv' := [(16, .int (x16 + 1)), (15, .int (b2i x96_0)), (0, .ref (ad_p0 0)), (3, .long u3), (5, .long u5), (7, .int u7), (8, .int u8), (9, .int u9), (10, .int u10), (11, .int u11), (12, .int u12), (14, .int (x14 + x89_0))]) hx hb dL_holds_862 hl (k := 11) rfl rfl (by decide) rfl (fun ls hl => ?_)
                    refine lv_goto (tgt := 734) hx hb dL_holds_865 (by decide) ?_
                    exact ih0 (x14 + x89_0) x96_0 (x16 + 1) (cc0 + 6) (ss0 + 36) _ _ _ (by omega) (by omega) hM hS hO_p0 hk h ls (lv_sub hl [2, 3, 4, 5, 6, 7, 8, 9, 10, 11, 1, 0] rfl)
                  refine lv_icmp_ne (tgt := 859) hx hb dL_holds_810 (by decide) (fun c97 => ?_) (fun c97 => ?_)
                  · replace h := it_neg c97 h
                    refine lv_iconst (v := 0) hx hb dL_holds_859 (by decide) ?_
                    refine W.widen (k := (cc0 + 6)) (n := (ss0 + 36)) (by omega) (by omega) ?_
                    refine W.eq (g2 := F0 m 860 ls [.int (b2i false)]) rfl ?_
                    exact J96 false _ _ _ hM hS hO_p0 hk h ls (lv_sub hl [0, 1, 2, 3, 4, 5, 6, 7, 8, 9, 10] rfl)
                  · replace h := it_pos c97 h
                    refine lv_aload_n hx hb dL_holds_813 rfl (lv_at hl 0 rfl) ?_
                    refine lv_iconst (v := 3) hx hb dL_holds_814 (by decide) ?_
                    refine lv_iload hx hb dL_holds_815 (lv_at hl 10 rfl) ?_
                    refine lv_iconst (v := 2) hx hb dL_holds_817 (by decide) ?_
                    refine lv_iconst (v := 0) hx hb dL_holds_818 (by decide) ?_
                    obtain ⟨r98, hr98, h⟩ := ob_some h
                    refine mw_wi (my_runS (As := [.ref (ad_p0 0), .int 3, .int x16, .int 2, .int 0]) (rest := []) hC hX hM hS (c_L_call_3 (ad_p0 := ad_p0) (s_p0 := s_p0) (hO_p0 := hO_p0) (hlt := hlt) (v := r98) hr98) gL_holds_L_call rfl rfl rfl q_L_call ⟨(Nat.le_of_ble_eq_true rfl), (Nat.le_of_ble_eq_true rfl)⟩ rfl rfl (Nat.le_of_ble_eq_true rfl) hl.1 dL_holds_819 ⟨(by dsimp only; omega), (by dsimp only; omega)⟩) hS (fun r9 H locs σ1 hp99 hM hS => ?_)
                    obtain ⟨hr9, hO9, hk100⟩ := hp99
                    replace hr9 := hr9.symm
                    subst hr9
                    replace hO_p0 := hO9
                    have hk101 := KEO.tr hk hk100
                    refine W.eq (g2 := F0 m 822 ls [.int r98]) rfl ?_
                    refine W.widen (k := (cc0 + 3)) (n := (ss0 + 18)) (by omega) (by omega) ?_
                    refine lv_aload_n hx hb dL_holds_822 rfl (lv_at hl 0 rfl) ?_
                    refine lv_iconst (v := 3) hx hb dL_holds_823 (by decide) ?_
                    refine lv_iload hx hb dL_holds_824 (lv_at hl 10 rfl) ?_
                    refine lv_iconst (v := 0) hx hb dL_holds_826 (by decide) ?_
                    refine lv_iconst (v := 0) hx hb dL_holds_827 (by decide) ?_
                    obtain ⟨r102, hr102, h⟩ := ob_some h
                    refine mw_wi (my_runS (As := [.ref (ad_p0 0), .int 3, .int x16, .int 0, .int 0]) (rest := [.int r98]) hC hX hM hS (c_L_call_3 (ad_p0 := ad_p0) (s_p0 := s_p0) (hO_p0 := hO_p0) (hlt := hlt) (v := r102) hr102) gL_holds_L_call rfl rfl rfl q_L_call ⟨(Nat.le_of_ble_eq_true rfl), (Nat.le_of_ble_eq_true rfl)⟩ rfl rfl (Nat.le_of_ble_eq_true rfl) hl.1 dL_holds_828 ⟨(by dsimp only; omega), (by dsimp only; omega)⟩) hS (fun r9 H locs σ1 hp103 hM hS => ?_)
                    obtain ⟨hr9, hO9, hk104⟩ := hp103
                    replace hr9 := hr9.symm
                    subst hr9
                    replace hO_p0 := hO9
                    have hk105 := KEO.tr hk101 hk104
                    refine W.eq (g2 := F0 m 831 ls [.int r102, .int r98]) rfl ?_
                    refine W.widen (k := (cc0 + 4)) (n := (ss0 + 24)) (by omega) (by omega) ?_
                    refine lv_icmp_lt (tgt := 859) hx hb dL_holds_831 (by decide) (fun c106 => ?_) (fun c106 => ?_)
                    · replace h := it_pos c106 h
                      refine lv_iconst (v := 0) hx hb dL_holds_859 (by decide) ?_
                      refine W.widen (k := (cc0 + 6)) (n := (ss0 + 36)) (by omega) (by omega) ?_
                      refine W.eq (g2 := F0 m 860 ls [.int (b2i false)]) rfl ?_
                      exact J96 false _ _ _ hM hS hO_p0 hk105 h ls (lv_sub hl [0, 1, 2, 3, 4, 5, 6, 7, 8, 9, 10] rfl)
                    · replace h := it_neg c106 h
                      refine lv_aload_n hx hb dL_holds_834 rfl (lv_at hl 0 rfl) ?_
                      refine lv_iconst (v := 3) hx hb dL_holds_835 (by decide) ?_
                      refine lv_iload hx hb dL_holds_836 (lv_at hl 10 rfl) ?_
                      refine lv_iconst (v := 5) hx hb dL_holds_838 (by decide) ?_
                      refine lv_iconst (v := 0) hx hb dL_holds_839 (by decide) ?_
                      obtain ⟨r107, hr107, h⟩ := ob_some h
                      refine mw_wi (my_runS (As := [.ref (ad_p0 0), .int 3, .int x16, .int 5, .int 0]) (rest := []) hC hX hM hS (c_L_call_3 (ad_p0 := ad_p0) (s_p0 := s_p0) (hO_p0 := hO_p0) (hlt := hlt) (v := r107) hr107) gL_holds_L_call rfl rfl rfl q_L_call ⟨(Nat.le_of_ble_eq_true rfl), (Nat.le_of_ble_eq_true rfl)⟩ rfl rfl (Nat.le_of_ble_eq_true rfl) hl.1 dL_holds_840 ⟨(by dsimp only; omega), (by dsimp only; omega)⟩) hS (fun r9 H locs σ1 hp108 hM hS => ?_)
                      obtain ⟨hr9, hO9, hk109⟩ := hp108
                      replace hr9 := hr9.symm
                      subst hr9
                      replace hO_p0 := hO9
                      have hk110 := KEO.tr hk105 hk109
                      refine W.eq (g2 := F0 m 843 ls [.int r107]) rfl ?_
                      refine W.widen (k := (cc0 + 5)) (n := (ss0 + 30)) (by omega) (by omega) ?_
                      refine lv_aload_n hx hb dL_holds_843 rfl (lv_at hl 0 rfl) ?_
                      refine lv_iconst (v := 3) hx hb dL_holds_844 (by decide) ?_
                      refine lv_iload hx hb dL_holds_845 (lv_at hl 10 rfl) ?_
                      refine lv_iconst (v := 0) hx hb dL_holds_847 (by decide) ?_
                      refine lv_iconst (v := 0) hx hb dL_holds_848 (by decide) ?_
                      obtain ⟨r111, hr111, h⟩ := ob_some h
                      refine mw_wi (my_runS (As := [.ref (ad_p0 0), .int 3, .int x16, .int 0, .int 0]) (rest := [.int r107]) hC hX hM hS (c_L_call_3 (ad_p0 := ad_p0) (s_p0 := s_p0) (hO_p0 := hO_p0) (hlt := hlt) (v := r111) hr111) gL_holds_L_call rfl rfl rfl q_L_call ⟨(Nat.le_of_ble_eq_true rfl), (Nat.le_of_ble_eq_true rfl)⟩ rfl rfl (Nat.le_of_ble_eq_true rfl) hl.1 dL_holds_849 ⟨(by dsimp only; omega), (by dsimp only; omega)⟩) hS (fun r9 H locs σ1 hp112 hM hS => ?_)
                      obtain ⟨hr9, hO9, hk113⟩ := hp112
                      replace hr9 := hr9.symm
                      subst hr9
                      replace hO_p0 := hO9
                      have hk114 := KEO.tr hk110 hk113
                      refine W.eq (g2 := F0 m 852 ls [.int r111, .int r107]) rfl ?_
                      refine W.widen (k := (cc0 + 6)) (n := (ss0 + 36)) (by omega) (by omega) ?_
                      refine lv_icmp_gt (tgt := 859) hx hb dL_holds_852 (by decide) (fun c115 => ?_) (fun c115 => ?_)
                      · replace h := it_pos c115 h
                        refine lv_iconst (v := 0) hx hb dL_holds_859 (by decide) ?_
                        refine W.eq (g2 := F0 m 860 ls [.int (b2i false)]) rfl ?_
                        exact J96 false _ _ _ hM hS hO_p0 hk114 h ls (lv_sub hl [0, 1, 2, 3, 4, 5, 6, 7, 8, 9, 10] rfl)
                      · replace h := it_neg c115 h
                        refine lv_iconst (v := 1) hx hb dL_holds_855 (by decide) ?_
                        refine lv_goto (tgt := 860) hx hb dL_holds_856 (by decide) ?_
                        refine W.eq (g2 := F0 m 860 ls [.int (b2i true)]) rfl ?_
                        exact J96 true _ _ _ hM hS hO_p0 hk114 h ls (lv_sub hl [0, 1, 2, 3, 4, 5, 6, 7, 8, 9, 10] rfl)
                refine lv_if_ne (tgt := 805) hx hb dL_holds_798 (by decide) (fun c116 => ?_) (fun c116 => ?_)
                · replace h := it_neg c116 h
                  refine lv_lload hx hb dL_holds_805 (lv_at hl 3 rfl) ?_
                  exact J94 u5 _ _ _ hM hS hO_p0 hk93 h ls (lv_sub hl [1, 2, 3, 4, 5, 6, 7, 8, 9, 0, 10] rfl)
                · replace h := it_pos c116 h
                  refine lv_lload_n hx hb dL_holds_801 rfl (lv_at hl 2 rfl) ?_
                  refine lv_goto (tgt := 807) hx hb dL_holds_802 (by decide) ?_
                  exact J94 u3 _ _ _ hM hS hO_p0 hk93 h ls (lv_sub hl [1, 2, 3, 4, 5, 6, 7, 8, 9, 0, 10] rfl)
              refine lv_if_ne (tgt := 769) hx hb dL_holds_749 (by decide) (fun c117 => ?_) (fun c117 => ?_)
              · replace h := it_neg c117 h
                refine lv_lload hx hb dL_holds_769 (lv_at hl 2 rfl) ?_
                obtain ⟨r118, hr118, h⟩ := ob_some h
                refine mw_ci (mw_runS (As := [.long u5]) (rest := [.int x14]) hC hM hS (c_L_count (v := r118) hr118) gL_holds_L_count rfl rfl rfl q_L_count ⟨(Nat.le_of_ble_eq_true rfl), (Nat.le_of_ble_eq_true rfl)⟩ rfl rfl (Nat.le_of_ble_eq_true rfl) hl.1 dL_holds_771 ⟨(by dsimp only; omega), (by dsimp only; omega)⟩) ?_
                refine lv_aload_n hx hb dL_holds_774 rfl (lv_at hl 0 rfl) ?_
                refine lv_iconst (v := 3) hx hb dL_holds_775 (by decide) ?_
                refine lv_iload hx hb dL_holds_776 (lv_at hl 11 rfl) ?_
                refine lv_iconst (v := 2) hx hb dL_holds_778 (by decide) ?_
                refine lv_iconst (v := 0) hx hb dL_holds_779 (by decide) ?_
                obtain ⟨r119, hr119, h⟩ := ob_some h
                refine mw_wi (my_runS (As := [.ref (ad_p0 0), .int 3, .int x16, .int 2, .int 0]) (rest := [.int r118, .int x14]) hC hX hM hS (c_L_call_3 (ad_p0 := ad_p0) (s_p0 := s_p0) (hO_p0 := hO_p0) (hlt := hlt) (v := r119) hr119) gL_holds_L_call rfl rfl rfl q_L_call ⟨(Nat.le_of_ble_eq_true rfl), (Nat.le_of_ble_eq_true rfl)⟩ rfl rfl (Nat.le_of_ble_eq_true rfl) hl.1 dL_holds_780 ⟨(by dsimp only; omega), (by dsimp only; omega)⟩) hS (fun r9 H locs σ1 hp120 hM hS => ?_)
                obtain ⟨hr9, hO9, hk121⟩ := hp120
                replace hr9 := hr9.symm
                subst hr9
                replace hO_p0 := hO9
                have hk122 := KEO.tr hk hk121
                refine W.eq (g2 := F0 m 783 ls [.int r119, .int r118, .int x14]) rfl ?_
                refine W.widen (k := (cc0 + 1)) (n := (ss0 + 6)) (by omega) (by omega) ?_
                refine lv_isub hx hb dL_holds_783 ?_
                exact J89 (r118 - r119) _ _ _ hM hS hO_p0 hk122 h ls (lv_sub hl [0, 1, 2, 3, 4, 5, 6, 7, 8, 11] rfl)
              · replace h := it_pos c117 h
                refine lv_aload_n hx hb dL_holds_752 rfl (lv_at hl 0 rfl) ?_
                refine lv_iconst (v := 3) hx hb dL_holds_753 (by decide) ?_
                refine lv_iload hx hb dL_holds_754 (lv_at hl 11 rfl) ?_
                refine lv_iconst (v := 2) hx hb dL_holds_756 (by decide) ?_
                refine lv_iconst (v := 0) hx hb dL_holds_757 (by decide) ?_
                obtain ⟨r123, hr123, h⟩ := ob_some h
                refine mw_wi (my_runS (As := [.ref (ad_p0 0), .int 3, .int x16, .int 2, .int 0]) (rest := [.int x14]) hC hX hM hS (c_L_call_3 (ad_p0 := ad_p0) (s_p0 := s_p0) (hO_p0 := hO_p0) (hlt := hlt) (v := r123) hr123) gL_holds_L_call rfl rfl rfl q_L_call ⟨(Nat.le_of_ble_eq_true rfl), (Nat.le_of_ble_eq_true rfl)⟩ rfl rfl (Nat.le_of_ble_eq_true rfl) hl.1 dL_holds_758 ⟨(by dsimp only; omega), (by dsimp only; omega)⟩) hS (fun r9 H locs σ1 hp124 hM hS => ?_)
                obtain ⟨hr9, hO9, hk125⟩ := hp124
                replace hr9 := hr9.symm
                subst hr9
                replace hO_p0 := hO9
                have hk126 := KEO.tr hk hk125
                refine W.eq (g2 := F0 m 761 ls [.int r123, .int x14]) rfl ?_
                refine W.widen (k := (cc0 + 1)) (n := (ss0 + 6)) (by omega) (by omega) ?_
                refine lv_lload_n hx hb dL_holds_761 rfl (lv_at hl 1 rfl) ?_
                obtain ⟨r127, hr127, h⟩ := ob_some h
                refine mw_ci (mw_runS (As := [.long u3]) (rest := [.int r123, .int x14]) hC hM hS (c_L_count (v := r127) hr127) gL_holds_L_count rfl rfl rfl q_L_count ⟨(Nat.le_of_ble_eq_true rfl), (Nat.le_of_ble_eq_true rfl)⟩ rfl rfl (Nat.le_of_ble_eq_true rfl) hl.1 dL_holds_762 ⟨(by dsimp only; omega), (by dsimp only; omega)⟩) ?_
                refine lv_isub hx hb dL_holds_765 ?_
                refine lv_goto (tgt := 784) hx hb dL_holds_766 (by decide) ?_
                exact J89 (r123 - r127) _ _ _ hM hS hO_p0 hk126 h ls (lv_sub hl [0, 1, 2, 3, 4, 5, 6, 7, 8, 11] rfl)
      exact L734 x15_l3 x15_l5 x15_l7 x15_l8 x15_l9 x15_l10 x15_l11 x15_l12 60 x15_l14 x15_l15 (0 : Int32) 843 5058 _ _ _ (Nat.le_of_ble_eq_true rfl) (Nat.le_of_ble_eq_true rfl) hM hS hO_p0 hk h ls (lv_sub hl [1, 2, 3, 4, 5, 6, 7, 8, 9, 10, 11, 0] rfl)
    have L89 : ∀ (u1 : Int32) (u2 : Int32) (u3 : Int64) (u5 : Int64) (u14 : Int32) (fu0 : Nat) (x7 : Int32) (x8 : Int32) (x9 : Int32) (x10 : Int32) (x11 : Int32) (x12 : Int32) (x13 : Int32) (x15 : Bool) (x16 : Int32) (cc0 ss0 : Nat) (H : Heap) (locs : List Loc) (σ1 : mwm), cc0 + fu0 * 14 ≤ 843 → ss0 + fu0 * 84 ≤ 5058 → MW z D σ1 H → va_S (zA z) s.heap H locs → OB K ad_p0 σ1 s_p0 → KEO ad_p0 σ σ1 → fL_holds_89 s_p0 u1 u2 u3 u5 u14 k15 fu0 x7 x8 x9 x10 x11 x12 x13 x15 x16 = some v → ∀ ls : Array Slot, lv_has ls 30 [(0, .ref (ad_p0 0)), (1, .int u1), (2, .int u2), (3, .long u3), (5, .long u5), (14, .int u14), (7, .int x7), (8, .int x8), (9, .int x9), (10, .int x10), (11, .int x11), (12, .int x12), (13, .int x13), (15, .int (b2i x15)), (16, .int x16)] → W p l e ({ frames := 74, cells := 1217, slots := 7302, locals := 3107 } : Room) s m ([.ref (ad_p0 0)] : List Value).toArray below meth c H locs cc0 ss0 (MQ below (qwI z D (fun r σ2 => r = b2i v ∧ OB K ad_p0 σ2 s_p0 ∧ KEO ad_p0 σ σ2)) ([.ref (ad_p0 0)] : List Value).toArray s 1217 7302 (zA z)) (F0 m 89 ls []) := by
      intro u1 u2 u3 u5 u14 fu0
      induction fu0 with
      | zero =>
        intro x7 x8 x9 x10 x11 x12 x13 x15 x16 cc0 ss0 H locs σ1 hcc hss hM hS hO_p0 hk h
        unfold fL_holds_89 at h
        cases h
      | succ fu0 ih0 =>
        intro x7 x8 x9 x10 x11 x12 x13 x15 x16 cc0 ss0 H locs σ1 hcc hss hM hS hO_p0 hk h ls hl
        unfold fL_holds_89 at h
        refine lv_iload hx hb dL_holds_89 (lv_at hl 14 rfl) ?_
        refine lv_iload_n hx hb dL_holds_91 rfl (lv_at hl 2 rfl) ?_
        refine lv_icmp_ge (tgt := 731) hx hb dL_holds_92 (by decide) (fun c128 => ?_) (fun c128 => ?_)
        · replace h := it_pos c128 h
          refine W.widen (k := 843) (n := 5058) (by omega) (by omega) ?_
          exact J15 u3 u5 x7 x8 x9 x10 x11 x12 u14 x15 _ _ _ hM hS hO_p0 hk h ls (lv_sub hl [0, 3, 4, 6, 7, 8, 9, 10, 11, 5, 13] rfl)
        · replace h := it_neg c128 h
          refine lv_iload hx hb dL_holds_95 (lv_at hl 13 rfl) ?_
          refine lv_if_eq (tgt := 731) hx hb dL_holds_97 (by decide) (fun c129 => ?_) (fun c129 => ?_)
          · replace c129 := b2i_eq0.mp c129
            replace h := it_neg c129 h
            refine W.widen (k := 843) (n := 5058) (by omega) (by omega) ?_
            exact J15 u3 u5 x7 x8 x9 x10 x11 x12 u14 x15 _ _ _ hM hS hO_p0 hk h ls (lv_sub hl [0, 3, 4, 6, 7, 8, 9, 10, 11, 5, 13] rfl)
          · replace c129 := b2i_ne0.mp c129
            replace h := it_pos c129 h
            refine lv_aload_n hx hb dL_holds_100 rfl (lv_at hl 0 rfl) ?_
            refine lv_iconst (v := 4) hx hb dL_holds_101 (by decide) ?_
            refine lv_iload hx hb dL_holds_102 (lv_at hl 14 rfl) ?_
            refine lv_iconst (v := 0) hx hb dL_holds_104 (by decide) ?_
            refine lv_iconst (v := 0) hx hb dL_holds_105 (by decide) ?_
            obtain ⟨r130, hr130, h⟩ := ob_some h
            refine mw_wi (my_runS (As := [.ref (ad_p0 0), .int 4, .int x16, .int 0, .int 0]) (rest := []) hC hX hM hS (c_L_call_4 (ad_p0 := ad_p0) (s_p0 := s_p0) (hO_p0 := hO_p0) (hlt := hlt) (v := r130) hr130) gL_holds_L_call rfl rfl rfl q_L_call ⟨(Nat.le_of_ble_eq_true rfl), (Nat.le_of_ble_eq_true rfl)⟩ rfl rfl (Nat.le_of_ble_eq_true rfl) hl.1 dL_holds_106 ⟨(by dsimp only; omega), (by dsimp only; omega)⟩) hS (fun r9 H locs σ1 hp131 hM hS => ?_)
            obtain ⟨hr9, hO9, hk132⟩ := hp131
            replace hr9 := hr9.symm
            subst hr9
            replace hO_p0 := hO9
            have hk133 := KEO.tr hk hk132
            refine W.eq (g2 := F0 m 109 ls [.int r130]) rfl ?_
            refine W.widen (k := (cc0 + 1)) (n := (ss0 + 6)) (by omega) (by omega) ?_
            refine lv_istore (lv' := [(17, .int r130), (0, .ref (ad_p0 0)), (1, .int u1), (2, .int u2), (3, .long u3), (5, .long u5), (14, .int u14), (7, .int x7), (8, .int x8), (9, .int x9), (10, .int x10), (11, .int x11), (12, .int x12), (13, .int x13), (15, .int (b2i x15)), (16, .int x16)]) hx hb dL_holds_109 hl (by decide) rfl (fun ls hl => ?_)
            refine lv_aload_n hx hb dL_holds_111 rfl (lv_at hl 1 rfl) ?_
            refine lv_iload hx hb dL_holds_112 (lv_at hl 15 rfl) ?_
            refine lv_iconst (v := 0) hx hb dL_holds_114 (by decide) ?_
            obtain ⟨r134, hr134, h⟩ := ob_some h
            refine mw_wl (mw_runSW (As := [.ref (ad_p0 0), .int x16, .int 0]) (rest := []) hC hX hM hS (c_L_groups (ad_p0 := ad_p0) (s_p0 := s_p0) (hO_p0 := hO_p0) (hlt := hlt) (v := r134) hr134) gL_holds_L_groups rfl rfl rfl q_L_groups ⟨(Nat.le_of_ble_eq_true rfl), (Nat.le_of_ble_eq_true rfl)⟩ rfl rfl (Nat.le_of_ble_eq_true rfl) hl.1 dL_holds_115 ⟨(by dsimp only; omega), (by dsimp only; omega)⟩) hS (fun r9 H locs σ1 hp135 hM hS => ?_)
            obtain ⟨hr9, hO9, hk136⟩ := hp135
            replace hr9 := hr9.symm
            subst hr9
            replace hO_p0 := hO9
            have hk137 := KEO.tr hk133 hk136
            refine W.eq (g2 := F0 m 118 ls [.long r134]) rfl ?_
            refine W.widen (k := (cc0 + 2)) (n := (ss0 + 12)) (by omega) (by omega) ?_
            refine lv_lstore (lv' := [(18, .long r134), (17, .int r130), (0, .ref (ad_p0 0)), (1, .int u1), (2, .int u2), (3, .long u3), (5, .long u5), (14, .int u14), (7, .int x7), (8, .int x8), (9, .int x9), (10, .int x10), (11, .int x11), (12, .int x12), (13, .int x13), (15, .int (b2i x15)), (16, .int x16)]) hx hb dL_holds_118 hl (by decide) rfl (fun ls hl => ?_)
            refine lv_aload_n hx hb dL_holds_120 rfl (lv_at hl 2 rfl) ?_
            refine lv_iload hx hb dL_holds_121 (lv_at hl 16 rfl) ?_
            refine lv_iconst (v := 1) hx hb dL_holds_123 (by decide) ?_
            obtain ⟨r138, hr138, h⟩ := ob_some h
            refine mw_wl (mw_runSW (As := [.ref (ad_p0 0), .int x16, .int 1]) (rest := []) hC hX hM hS (c_L_groups (ad_p0 := ad_p0) (s_p0 := s_p0) (hO_p0 := hO_p0) (hlt := hlt) (v := r138) hr138) gL_holds_L_groups rfl rfl rfl q_L_groups ⟨(Nat.le_of_ble_eq_true rfl), (Nat.le_of_ble_eq_true rfl)⟩ rfl rfl (Nat.le_of_ble_eq_true rfl) hl.1 dL_holds_124 ⟨(by dsimp only; omega), (by dsimp only; omega)⟩) hS (fun r9 H locs σ1 hp139 hM hS => ?_)
            obtain ⟨hr9, hO9, hk140⟩ := hp139
            replace hr9 := hr9.symm
            subst hr9
            replace hO_p0 := hO9
            have hk141 := KEO.tr hk137 hk140
            refine W.eq (g2 := F0 m 127 ls [.long r138]) rfl ?_
            refine W.widen (k := (cc0 + 3)) (n := (ss0 + 18)) (by omega) (by omega) ?_
            refine lv_lstore (lv' := [(20, .long r138), (18, .long r134), (17, .int r130), (0, .ref (ad_p0 0)), (1, .int u1), (2, .int u2), (3, .long u3), (5, .long u5), (14, .int u14), (7, .int x7), (8, .int x8), (9, .int x9), (10, .int x10), (11, .int x11), (12, .int x12), (13, .int x13), (15, .int (b2i x15)), (16, .int x16)]) hx hb dL_holds_127 hl (by decide) rfl (fun ls hl => ?_)
            refine lv_iload_n hx hb dL_holds_129 rfl (lv_at hl 4 rfl) ?_
            refine lv_iload hx hb dL_holds_130 (lv_at hl 17 rfl) ?_
            obtain ⟨r142, hr142, h⟩ := ob_some h
            refine mw_cl (mw_runS (As := [.int u1, .int x16]) (rest := []) hC hM hS (c_L_beside (v := r142) hr142) gL_holds_L_beside rfl rfl rfl q_L_beside ⟨(Nat.le_of_ble_eq_true rfl), (Nat.le_of_ble_eq_true rfl)⟩ rfl rfl (Nat.le_of_ble_eq_true rfl) hl.1 dL_holds_132 ⟨(by dsimp only; omega), (by dsimp only; omega)⟩) ?_
            refine lv_lstore (lv' := [(22, .long r142), (20, .long r138), (18, .long r134), (17, .int r130), (0, .ref (ad_p0 0)), (1, .int u1), (2, .int u2), (3, .long u3), (5, .long u5), (14, .int u14), (7, .int x7), (8, .int x8), (9, .int x9), (10, .int x10), (11, .int x11), (12, .int x12), (13, .int x13), (15, .int (b2i x15)), (16, .int x16)]) hx hb dL_holds_135 hl (by decide) rfl (fun ls hl => ?_)
            refine lv_aload_n hx hb dL_holds_137 rfl (lv_at hl 4 rfl) ?_
            refine lv_iconst (v := 5) hx hb dL_holds_138 (by decide) ?_
            refine lv_iload hx hb dL_holds_139 (lv_at hl 18 rfl) ?_
            refine lv_iconst (v := 0) hx hb dL_holds_141 (by decide) ?_
            refine lv_iconst (v := 0) hx hb dL_holds_142 (by decide) ?_
            obtain ⟨r143, hr143, h⟩ := ob_some h
            refine mw_wi (my_runS (As := [.ref (ad_p0 0), .int 5, .int x16, .int 0, .int 0]) (rest := []) hC hX hM hS (c_L_call_5 (ad_p0 := ad_p0) (s_p0 := s_p0) (hO_p0 := hO_p0) (hlt := hlt) (v := r143) hr143) gL_holds_L_call rfl rfl rfl q_L_call ⟨(Nat.le_of_ble_eq_true rfl), (Nat.le_of_ble_eq_true rfl)⟩ rfl rfl (Nat.le_of_ble_eq_true rfl) hl.1 dL_holds_143 ⟨(by dsimp only; omega), (by dsimp only; omega)⟩) hS (fun r9 H locs σ1 hp144 hM hS => ?_)
            obtain ⟨hr9, hO9, hk145⟩ := hp144
            replace hr9 := hr9.symm
            subst hr9
            replace hO_p0 := hO9
            have hk146 := KEO.tr hk141 hk145
            refine W.eq (g2 := F0 m 146 ls [.int r143]) rfl ?_
            refine W.widen (k := (cc0 + 4)) (n := (ss0 + 24)) (by omega) (by omega) ?_
            refine lv_istore (lv' := [(24, .int r143), (22, .long r142), (20, .long r138), (18, .long r134), (17, .int r130), (0, .ref (ad_p0 0)), (1, .int u1), (2, .int u2), (3, .long u3), (5, .long u5), (14, .int u14), (7, .int x7), (8, .int x8), (9, .int x9), (10, .int x10), (11, .int x11), (12, .int x12), (13, .int x13), (15, .int (b2i x15)), (16, .int x16)]) hx hb dL_holds_146 hl (by decide) rfl (fun ls hl => ?_)
            refine lv_aload_n hx hb dL_holds_148 rfl (lv_at hl 5 rfl) ?_
            refine lv_iconst (v := 4) hx hb dL_holds_149 (by decide) ?_
            refine lv_iload hx hb dL_holds_150 (lv_at hl 19 rfl) ?_
            refine lv_iconst (v := 3) hx hb dL_holds_152 (by decide) ?_
            refine lv_iconst (v := 0) hx hb dL_holds_153 (by decide) ?_
            obtain ⟨r147, hr147, h⟩ := ob_some h
            refine mw_wi (my_runS (As := [.ref (ad_p0 0), .int 4, .int x16, .int 3, .int 0]) (rest := []) hC hX hM hS (c_L_call_4 (ad_p0 := ad_p0) (s_p0 := s_p0) (hO_p0 := hO_p0) (hlt := hlt) (v := r147) hr147) gL_holds_L_call rfl rfl rfl q_L_call ⟨(Nat.le_of_ble_eq_true rfl), (Nat.le_of_ble_eq_true rfl)⟩ rfl rfl (Nat.le_of_ble_eq_true rfl) hl.1 dL_holds_154 ⟨(by dsimp only; omega), (by dsimp only; omega)⟩) hS (fun r9 H locs σ1 hp148 hM hS => ?_)
            obtain ⟨hr9, hO9, hk149⟩ := hp148
            replace hr9 := hr9.symm
            subst hr9
            replace hO_p0 := hO9
            have hk150 := KEO.tr hk146 hk149
            refine W.eq (g2 := F0 m 157 ls [.int r147]) rfl ?_
            refine W.widen (k := (cc0 + 5)) (n := (ss0 + 30)) (by omega) (by omega) ?_
            refine lv_istore (lv' := [(25, .int r147), (24, .int r143), (22, .long r142), (20, .long r138), (18, .long r134), (17, .int r130), (0, .ref (ad_p0 0)), (1, .int u1), (2, .int u2), (3, .long u3), (5, .long u5), (14, .int u14), (7, .int x7), (8, .int x8), (9, .int x9), (10, .int x10), (11, .int x11), (12, .int x12), (13, .int x13), (15, .int (b2i x15)), (16, .int x16)]) hx hb dL_holds_157 hl (by decide) rfl (fun ls hl => ?_)
            refine lv_iload hx hb dL_holds_159 (lv_at hl 14 rfl) ?_
            refine lv_iload hx hb dL_holds_161 (lv_at hl 1 rfl) ?_
            obtain ⟨k151, ek151, h⟩ := bnd_ex h
            have J151 : ∀ (x151_0 : Bool) (H : Heap) (locs : List Loc) (σ1 : mwm), MW z D σ1 H → va_S (zA z) s.heap H locs → OB K ad_p0 σ1 s_p0 → KEO ad_p0 σ σ1 → k151 x151_0 = some v → ∀ ls : Array Slot, lv_has ls 30 [(0, .ref (ad_p0 0)), (1, .int u1), (2, .int u2), (3, .long u3), (5, .long u5), (7, .int x7), (8, .int x8), (10, .int x10), (11, .int x11), (12, .int x12), (13, .int x13), (14, .int u14), (16, .int x16), (17, .int r130), (18, .long r134), (20, .long r138), (22, .long r142), (24, .int r143), (25, .int r147)] → W p l e ({ frames := 74, cells := 1217, slots := 7302, locals := 3107 } : Room) s m ([.ref (ad_p0 0)] : List Value).toArray below meth c H locs (cc0 + 5) (ss0 + 30) (MQ below (qwI z D (fun r σ2 => r = b2i v ∧ OB K ad_p0 σ2 s_p0 ∧ KEO ad_p0 σ σ2)) ([.ref (ad_p0 0)] : List Value).toArray s 1217 7302 (zA z)) (F0 m 171 ls [.int (b2i x151_0), .int x9]) := by
              intro x151_0 H locs σ1 hM hS hO_p0 hk h ls hl
              rw [ek151] at h
              refine lv_iadd hx hb dL_holds_171 ?_
              refine lv_istore (lv' := [(9, .int (x9 + (b2i x151_0))), (0, .ref (ad_p0 0)), (1, .int u1), (2, .int u2), (3, .long u3), (5, .long u5), (7, .int x7), (8, .int x8), (10, .int x10), (11, .int x11), (12, .int x12), (13, .int x13), (14, .int u14), (16, .int x16), (17, .int r130), (18, .long r134), (20, .long r138), (22, .long r142), (24, .int r143), (25, .int r147)]) hx hb dL_holds_172 hl (by decide) rfl (fun ls hl => ?_)
              refine lv_aload_n hx hb dL_holds_174 rfl (lv_at hl 1 rfl) ?_
              refine lv_bipush (v := 11) hx hb dL_holds_175 (by decide) ?_
              refine lv_iload hx hb dL_holds_177 (lv_at hl 13 rfl) ?_
              refine lv_iconst (v := 0) hx hb dL_holds_179 (by decide) ?_
              refine lv_iconst (v := 0) hx hb dL_holds_180 (by decide) ?_
              obtain ⟨r152, hr152, h⟩ := ob_some h
              refine mw_wi (my_runS (As := [.ref (ad_p0 0), .int 11, .int x16, .int 0, .int 0]) (rest := []) hC hX hM hS (c_L_call_11 (ad_p0 := ad_p0) (s_p0 := s_p0) (hO_p0 := hO_p0) (hlt := hlt) (v := r152) hr152) gL_holds_L_call rfl rfl rfl q_L_call ⟨(Nat.le_of_ble_eq_true rfl), (Nat.le_of_ble_eq_true rfl)⟩ rfl rfl (Nat.le_of_ble_eq_true rfl) hl.1 dL_holds_181 ⟨(by dsimp only; omega), (by dsimp only; omega)⟩) hS (fun r9 H locs σ1 hp153 hM hS => ?_)
              obtain ⟨hr9, hO9, hk154⟩ := hp153
              replace hr9 := hr9.symm
              subst hr9
              replace hO_p0 := hO9
              have hk155 := KEO.tr hk hk154
              refine W.eq (g2 := F0 m 184 ls [.int r152]) rfl ?_
              refine W.widen (k := (cc0 + 6)) (n := (ss0 + 36)) (by omega) (by omega) ?_
              refine lv_istore (lv' := [(26, .int r152), (9, .int (x9 + (b2i x151_0))), (0, .ref (ad_p0 0)), (1, .int u1), (2, .int u2), (3, .long u3), (5, .long u5), (7, .int x7), (8, .int x8), (10, .int x10), (11, .int x11), (12, .int x12), (13, .int x13), (14, .int u14), (16, .int x16), (17, .int r130), (18, .long r134), (20, .long r138), (22, .long r142), (24, .int r143), (25, .int r147)]) hx hb dL_holds_184 hl (by decide) rfl (fun ls hl => ?_)
              refine lv_iload hx hb dL_holds_186 (lv_at hl 0 rfl) ?_
              refine lv_iload hx hb dL_holds_188 (lv_at hl 12 rfl) ?_
              obtain ⟨k156, ek156, h⟩ := bnd_ex h
              have J156 : ∀ (x156_0 : Int32) (H : Heap) (locs : List Loc) (σ1 : mwm), MW z D σ1 H → va_S (zA z) s.heap H locs → OB K ad_p0 σ1 s_p0 → KEO ad_p0 σ σ1 → k156 x156_0 = some v → ∀ ls : Array Slot, lv_has ls 30 [(0, .ref (ad_p0 0)), (1, .int u1), (2, .int u2), (3, .long u3), (5, .long u5), (7, .int x7), (8, .int x8), (9, .int (x9 + (b2i x151_0))), (10, .int x10), (11, .int x11), (13, .int x13), (14, .int u14), (16, .int x16), (17, .int r130), (18, .long r134), (20, .long r138), (22, .long r142), (24, .int r143), (25, .int r147), (26, .int r152)] → W p l e ({ frames := 74, cells := 1217, slots := 7302, locals := 3107 } : Room) s m ([.ref (ad_p0 0)] : List Value).toArray below meth c H locs (cc0 + 6) (ss0 + 36) (MQ below (qwI z D (fun r σ2 => r = b2i v ∧ OB K ad_p0 σ2 s_p0 ∧ KEO ad_p0 σ σ2)) ([.ref (ad_p0 0)] : List Value).toArray s 1217 7302 (zA z)) (F0 m 200 ls [.int x156_0]) := by
                intro x156_0 H locs σ1 hM hS hO_p0 hk h ls hl
                rw [ek156] at h
                refine lv_istore (lv' := [(12, .int x156_0), (0, .ref (ad_p0 0)), (1, .int u1), (2, .int u2), (3, .long u3), (5, .long u5), (7, .int x7), (8, .int x8), (9, .int (x9 + (b2i x151_0))), (10, .int x10), (11, .int x11), (13, .int x13), (14, .int u14), (16, .int x16), (17, .int r130), (18, .long r134), (20, .long r138), (22, .long r142), (24, .int r143), (25, .int r147), (26, .int r152)]) hx hb dL_holds_200 hl (by decide) rfl (fun ls hl => ?_)
                refine lv_iload hx hb dL_holds_202 (lv_at hl 20 rfl) ?_
                refine lv_iload hx hb dL_holds_204 (lv_at hl 11 rfl) ?_
                obtain ⟨k157, ek157, h⟩ := bnd_ex h
                have J157 : ∀ (x157_0 : Int32) (H : Heap) (locs : List Loc) (σ1 : mwm), MW z D σ1 H → va_S (zA z) s.heap H locs → OB K ad_p0 σ1 s_p0 → KEO ad_p0 σ σ1 → k157 x157_0 = some v → ∀ ls : Array Slot, lv_has ls 30 [(0, .ref (ad_p0 0)), (1, .int u1), (2, .int u2), (3, .long u3), (5, .long u5), (7, .int x7), (8, .int x8), (9, .int (x9 + (b2i x151_0))), (10, .int x10), (11, .int x11), (12, .int x156_0), (14, .int u14), (16, .int x16), (17, .int r130), (18, .long r134), (20, .long r138), (22, .long r142), (24, .int r143), (25, .int r147), (26, .int r152)] → W p l e ({ frames := 74, cells := 1217, slots := 7302, locals := 3107 } : Room) s m ([.ref (ad_p0 0)] : List Value).toArray below meth c H locs (cc0 + 6) (ss0 + 36) (MQ below (qwI z D (fun r σ2 => r = b2i v ∧ OB K ad_p0 σ2 s_p0 ∧ KEO ad_p0 σ σ2)) ([.ref (ad_p0 0)] : List Value).toArray s 1217 7302 (zA z)) (F0 m 216 ls [.int x157_0]) := by
                  intro x157_0 H locs σ1 hM hS hO_p0 hk h ls hl
                  rw [ek157] at h
                  refine lv_istore (lv' := [(13, .int x157_0), (0, .ref (ad_p0 0)), (1, .int u1), (2, .int u2), (3, .long u3), (5, .long u5), (7, .int x7), (8, .int x8), (9, .int (x9 + (b2i x151_0))), (10, .int x10), (11, .int x11), (12, .int x156_0), (14, .int u14), (16, .int x16), (17, .int r130), (18, .long r134), (20, .long r138), (22, .long r142), (24, .int r143), (25, .int r147), (26, .int r152)]) hx hb dL_holds_216 hl (by decide) rfl (fun ls hl => ?_)
                  refine lv_iload hx hb dL_holds_218 (lv_at hl 14 rfl) ?_
                  refine lv_iconst (v := -1) hx hb dL_holds_220 (by decide) ?_
                  obtain ⟨k158, ek158, h⟩ := bnd_ex h
                  have J158 : ∀ (x158_l7 : Int32) (x158_l8 : Int32) (x158_l10 : Int32) (x158_l11 : Int32) (x158_l15 : Bool) (H : Heap) (locs : List Loc) (σ1 : mwm), MW z D σ1 H → va_S (zA z) s.heap H locs → OB K ad_p0 σ1 s_p0 → KEO ad_p0 σ σ1 → k158 x158_l7 x158_l8 x158_l10 x158_l11 x158_l15 = some v → ∀ ls : Array Slot, lv_has ls 30 [(0, .ref (ad_p0 0)), (1, .int u1), (2, .int u2), (3, .long u3), (5, .long u5), (7, .int x158_l7), (8, .int x158_l8), (9, .int (x9 + (b2i x151_0))), (10, .int x158_l10), (11, .int x158_l11), (12, .int x156_0), (13, .int x157_0), (14, .int u14), (15, .int (b2i x158_l15)), (16, .int x16)] → W p l e ({ frames := 74, cells := 1217, slots := 7302, locals := 3107 } : Room) s m ([.ref (ad_p0 0)] : List Value).toArray below meth c H locs (cc0 + 14) (ss0 + 84) (MQ below (qwI z D (fun r σ2 => r = b2i v ∧ OB K ad_p0 σ2 s_p0 ∧ KEO ad_p0 σ σ2)) ([.ref (ad_p0 0)] : List Value).toArray s 1217 7302 (zA z)) (F0 m 725 ls []) := by
                    intro x158_l7 x158_l8 x158_l10 x158_l11 x158_l15 H locs σ1 hM hS hO_p0 hk h ls hl
                    rw [ek158] at h
                    refine lv_iinc (v := (x16 + 1)) (lv' := [(16, .int (x16 + 1)), (0, .ref (ad_p0 0)), (1, .int u1), (2, .int u2), (3, .long u3), (5, .long u5), (7, .int x158_l7), (8, .int x158_l8), (9, .int (x9 + (b2i x151_0))), (10, .int x158_l10), (11, .int x158_l11), (12, .int x156_0), (13, .int x157_0), (14, .int u14), (15, .int (b2i x158_l15))]) hx hb dL_holds_725 hl (k := 14) rfl rfl (by decide) rfl (fun ls hl => ?_)
                    refine lv_goto (tgt := 89) hx hb dL_holds_728 (by decide) ?_
                    exact ih0 x158_l7 x158_l8 (x9 + (b2i x151_0)) x158_l10 x158_l11 x156_0 x157_0 x158_l15 (x16 + 1) (cc0 + 14) (ss0 + 84) _ _ _ (by omega) (by omega) hM hS hO_p0 hk h ls (lv_sub hl [1, 2, 3, 4, 5, 13, 6, 7, 8, 9, 10, 11, 12, 14, 0] rfl)
                  refine lv_icmp_ne (tgt := 412) hx hb dL_holds_221 (by decide) (fun c159 => ?_) (fun c159 => ?_)
                  · replace h := it_neg c159 h
                    refine lv_iload hx hb dL_holds_412 (lv_at hl 14 rfl) ?_
                    obtain ⟨k160, ek160, h⟩ := bnd_ex h
                    have J160 : ∀ (x160_0 : Int64) (H : Heap) (locs : List Loc) (σ1 : mwm), MW z D σ1 H → va_S (zA z) s.heap H locs → OB K ad_p0 σ1 s_p0 → KEO ad_p0 σ σ1 → k160 x160_0 = some v → ∀ ls : Array Slot, lv_has ls 30 [(0, .ref (ad_p0 0)), (1, .int u1), (2, .int u2), (3, .long u3), (5, .long u5), (7, .int x7), (8, .int x8), (9, .int (x9 + (b2i x151_0))), (10, .int x10), (11, .int x11), (12, .int x156_0), (13, .int x157_0), (14, .int u14), (16, .int x16), (17, .int r130), (18, .long r134), (20, .long r138), (22, .long r142), (24, .int r143), (25, .int r147)] → W p l e ({ frames := 74, cells := 1217, slots := 7302, locals := 3107 } : Room) s m ([.ref (ad_p0 0)] : List Value).toArray below meth c H locs (cc0 + 6) (ss0 + 36) (MQ below (qwI z D (fun r σ2 => r = b2i v ∧ OB K ad_p0 σ2 s_p0 ∧ KEO ad_p0 σ σ2)) ([.ref (ad_p0 0)] : List Value).toArray s 1217 7302 (zA z)) (F0 m 423 ls [.long x160_0]) := by
                      intro x160_0 H locs σ1 hM hS hO_p0 hk h ls hl
                      rw [ek160] at h
                      refine lv_lstore (lv' := [(27, .long x160_0), (0, .ref (ad_p0 0)), (1, .int u1), (2, .int u2), (3, .long u3), (5, .long u5), (7, .int x7), (8, .int x8), (9, .int (x9 + (b2i x151_0))), (10, .int x10), (11, .int x11), (12, .int x156_0), (13, .int x157_0), (14, .int u14), (16, .int x16), (17, .int r130), (18, .long r134), (20, .long r138), (22, .long r142), (24, .int r143), (25, .int r147)]) hx hb dL_holds_423 hl (by decide) rfl (fun ls hl => ?_)
                      refine lv_lload hx hb dL_holds_425 (lv_at hl 16 rfl) ?_
                      refine lv_lconst (v := 1) hx hb dL_holds_427 (by decide) ?_
                      refine lv_iload hx hb dL_holds_428 (lv_at hl 14 rfl) ?_
                      refine lv_lshl (v := (shlL 1 x16)) hx hb dL_holds_430 rfl ?_
                      refine lv_lconst (v := 1) hx hb dL_holds_431 (by decide) ?_
                      refine lv_lsub hx hb dL_holds_432 ?_
                      refine lv_land hx hb dL_holds_433 ?_
                      refine lv_lconst (v := 0) hx hb dL_holds_434 (by decide) ?_
                      refine W.lcmp hx hb dL_holds_435 ?_
                      obtain ⟨k161, ek161, h⟩ := bnd_ex h
                      have J161 : ∀ (x161_0 : Bool) (H : Heap) (locs : List Loc) (σ1 : mwm), MW z D σ1 H → va_S (zA z) s.heap H locs → OB K ad_p0 σ1 s_p0 → KEO ad_p0 σ σ1 → k161 x161_0 = some v → ∀ ls : Array Slot, lv_has ls 30 [(0, .ref (ad_p0 0)), (1, .int u1), (2, .int u2), (3, .long u3), (5, .long u5), (7, .int x7), (8, .int x8), (9, .int (x9 + (b2i x151_0))), (10, .int x10), (11, .int x11), (12, .int x156_0), (13, .int x157_0), (14, .int u14), (16, .int x16), (17, .int r130), (18, .long r134), (20, .long r138), (22, .long r142), (24, .int r143), (25, .int r147), (27, .long x160_0)] → W p l e ({ frames := 74, cells := 1217, slots := 7302, locals := 3107 } : Room) s m ([.ref (ad_p0 0)] : List Value).toArray below meth c H locs (cc0 + 6) (ss0 + 36) (MQ below (qwI z D (fun r σ2 => r = b2i v ∧ OB K ad_p0 σ2 s_p0 ∧ KEO ad_p0 σ σ2)) ([.ref (ad_p0 0)] : List Value).toArray s 1217 7302 (zA z)) (F0 m 444 ls [.int (b2i x161_0)]) := by
                        intro x161_0 H locs σ1 hM hS hO_p0 hk h ls hl
                        rw [ek161] at h
                        refine lv_istore (lv' := [(29, .int (b2i x161_0)), (0, .ref (ad_p0 0)), (1, .int u1), (2, .int u2), (3, .long u3), (5, .long u5), (7, .int x7), (8, .int x8), (9, .int (x9 + (b2i x151_0))), (10, .int x10), (11, .int x11), (12, .int x156_0), (13, .int x157_0), (14, .int u14), (16, .int x16), (17, .int r130), (18, .long r134), (20, .long r138), (22, .long r142), (24, .int r143), (25, .int r147), (27, .long x160_0)]) hx hb dL_holds_444 hl (by decide) rfl (fun ls hl => ?_)
                        refine lv_iload hx hb dL_holds_446 (lv_at hl 6 rfl) ?_
                        refine lv_iload hx hb dL_holds_448 (lv_at hl 0 rfl) ?_
                        obtain ⟨k162, ek162, h⟩ := bnd_ex h
                        have J162 : ∀ (x162_0 : Bool) (H : Heap) (locs : List Loc) (σ1 : mwm), MW z D σ1 H → va_S (zA z) s.heap H locs → OB K ad_p0 σ1 s_p0 → KEO ad_p0 σ σ1 → k162 x162_0 = some v → ∀ ls : Array Slot, lv_has ls 30 [(0, .ref (ad_p0 0)), (1, .int u1), (2, .int u2), (3, .long u3), (5, .long u5), (8, .int x8), (9, .int (x9 + (b2i x151_0))), (10, .int x10), (11, .int x11), (12, .int x156_0), (13, .int x157_0), (14, .int u14), (16, .int x16), (17, .int r130), (18, .long r134), (20, .long r138), (22, .long r142), (24, .int r143), (25, .int r147), (27, .long x160_0), (29, .int (b2i x161_0))] → W p l e ({ frames := 74, cells := 1217, slots := 7302, locals := 3107 } : Room) s m ([.ref (ad_p0 0)] : List Value).toArray below meth c H locs (cc0 + 6) (ss0 + 36) (MQ below (qwI z D (fun r σ2 => r = b2i v ∧ OB K ad_p0 σ2 s_p0 ∧ KEO ad_p0 σ σ2)) ([.ref (ad_p0 0)] : List Value).toArray s 1217 7302 (zA z)) (F0 m 458 ls [.int (b2i x162_0), .int x7]) := by
                          intro x162_0 H locs σ1 hM hS hO_p0 hk h ls hl
                          rw [ek162] at h
                          refine lv_iadd hx hb dL_holds_458 ?_
                          refine lv_istore (lv' := [(7, .int (x7 + (b2i x162_0))), (0, .ref (ad_p0 0)), (1, .int u1), (2, .int u2), (3, .long u3), (5, .long u5), (8, .int x8), (9, .int (x9 + (b2i x151_0))), (10, .int x10), (11, .int x11), (12, .int x156_0), (13, .int x157_0), (14, .int u14), (16, .int x16), (17, .int r130), (18, .long r134), (20, .long r138), (22, .long r142), (24, .int r143), (25, .int r147), (27, .long x160_0), (29, .int (b2i x161_0))]) hx hb dL_holds_459 hl (by decide) rfl (fun ls hl => ?_)
                          refine lv_iload hx hb dL_holds_461 (lv_at hl 6 rfl) ?_
                          refine lv_iload hx hb dL_holds_463 (lv_at hl 21 rfl) ?_
                          obtain ⟨k163, ek163, h⟩ := bnd_ex h
                          have J163 : ∀ (x163_0 : Bool) (H : Heap) (locs : List Loc) (σ1 : mwm), MW z D σ1 H → va_S (zA z) s.heap H locs → OB K ad_p0 σ1 s_p0 → KEO ad_p0 σ σ1 → k163 x163_0 = some v → ∀ ls : Array Slot, lv_has ls 30 [(0, .ref (ad_p0 0)), (1, .int u1), (2, .int u2), (3, .long u3), (5, .long u5), (7, .int (x7 + (b2i x162_0))), (9, .int (x9 + (b2i x151_0))), (10, .int x10), (11, .int x11), (12, .int x156_0), (13, .int x157_0), (14, .int u14), (16, .int x16), (17, .int r130), (18, .long r134), (20, .long r138), (22, .long r142), (24, .int r143), (25, .int r147), (27, .long x160_0)] → W p l e ({ frames := 74, cells := 1217, slots := 7302, locals := 3107 } : Room) s m ([.ref (ad_p0 0)] : List Value).toArray below meth c H locs (cc0 + 6) (ss0 + 36) (MQ below (qwI z D (fun r σ2 => r = b2i v ∧ OB K ad_p0 σ2 s_p0 ∧ KEO ad_p0 σ σ2)) ([.ref (ad_p0 0)] : List Value).toArray s 1217 7302 (zA z)) (F0 m 482 ls [.int (b2i x163_0), .int x8]) := by
                            intro x163_0 H locs σ1 hM hS hO_p0 hk h ls hl
                            rw [ek163] at h
                            refine lv_iadd hx hb dL_holds_482 ?_
                            refine lv_istore (lv' := [(8, .int (x8 + (b2i x163_0))), (0, .ref (ad_p0 0)), (1, .int u1), (2, .int u2), (3, .long u3), (5, .long u5), (7, .int (x7 + (b2i x162_0))), (9, .int (x9 + (b2i x151_0))), (10, .int x10), (11, .int x11), (12, .int x156_0), (13, .int x157_0), (14, .int u14), (16, .int x16), (17, .int r130), (18, .long r134), (20, .long r138), (22, .long r142), (24, .int r143), (25, .int r147), (27, .long x160_0)]) hx hb dL_holds_483 hl (by decide) rfl (fun ls hl => ?_)
                            refine lv_lload hx hb dL_holds_485 (lv_at hl 20 rfl) ?_
                            refine lv_iload hx hb dL_holds_487 (lv_at hl 13 rfl) ?_
                            refine lv_lshr (v := (shrL x160_0 x16)) hx hb dL_holds_489 rfl ?_
                            refine lv_lconst (v := 1) hx hb dL_holds_490 (by decide) ?_
                            refine lv_land hx hb dL_holds_491 ?_
                            refine lv_lconst (v := 1) hx hb dL_holds_492 (by decide) ?_
                            refine W.lcmp hx hb dL_holds_493 ?_
                            obtain ⟨k164, ek164, h⟩ := bnd_ex h
                            have J164 : ∀ (x164_0 : Bool) (H : Heap) (locs : List Loc) (σ1 : mwm), MW z D σ1 H → va_S (zA z) s.heap H locs → OB K ad_p0 σ1 s_p0 → KEO ad_p0 σ σ1 → k164 x164_0 = some v → ∀ ls : Array Slot, lv_has ls 30 [(0, .ref (ad_p0 0)), (1, .int u1), (2, .int u2), (3, .long u3), (5, .long u5), (7, .int (x7 + (b2i x162_0))), (8, .int (x8 + (b2i x163_0))), (9, .int (x9 + (b2i x151_0))), (10, .int x10), (11, .int x11), (12, .int x156_0), (13, .int x157_0), (14, .int u14), (16, .int x16)] → W p l e ({ frames := 74, cells := 1217, slots := 7302, locals := 3107 } : Room) s m ([.ref (ad_p0 0)] : List Value).toArray below meth c H locs (cc0 + 14) (ss0 + 84) (MQ below (qwI z D (fun r σ2 => r = b2i v ∧ OB K ad_p0 σ2 s_p0 ∧ KEO ad_p0 σ σ2)) ([.ref (ad_p0 0)] : List Value).toArray s 1217 7302 (zA z)) (F0 m 723 ls [.int (b2i x164_0)]) := by
                              intro x164_0 H locs σ1 hM hS hO_p0 hk h ls hl
                              rw [ek164] at h
                              refine lv_istore (lv' := [(15, .int (b2i x164_0)), (0, .ref (ad_p0 0)), (1, .int u1), (2, .int u2), (3, .long u3), (5, .long u5), (7, .int (x7 + (b2i x162_0))), (8, .int (x8 + (b2i x163_0))), (9, .int (x9 + (b2i x151_0))), (10, .int x10), (11, .int x11), (12, .int x156_0), (13, .int x157_0), (14, .int u14), (16, .int x16)]) hx hb dL_holds_723 hl (by decide) rfl (fun ls hl => ?_)
                              exact J158 (x7 + (b2i x162_0)) (x8 + (b2i x163_0)) x10 x11 x164_0 _ _ _ hM hS hO_p0 hk h ls (lv_sub hl [1, 2, 3, 4, 5, 6, 7, 8, 9, 10, 11, 12, 13, 0, 14] rfl)
                            refine lv_if_ne (tgt := 722) hx hb dL_holds_494 (by decide) (fun c165 => ?_) (fun c165 => ?_)
                            · replace c165 := mt (lg_cmp_eq _ _).mpr c165
                              replace h := it_neg c165 h
                              refine lv_iconst (v := 0) hx hb dL_holds_722 (by decide) ?_
                              refine W.widen (k := (cc0 + 14)) (n := (ss0 + 84)) (by omega) (by omega) ?_
                              refine W.eq (g2 := F0 m 723 ls [.int (b2i false)]) rfl ?_
                              exact J164 false _ _ _ hM hS hO_p0 hk h ls (lv_sub hl [1, 2, 3, 4, 5, 6, 0, 7, 8, 9, 10, 11, 12, 13] rfl)
                            · replace c165 := (lg_cmp_eq _ _).mp c165
                              replace h := it_pos c165 h
                              refine lv_lload hx hb dL_holds_497 (lv_at hl 15 rfl) ?_
                              refine lv_iload hx hb dL_holds_499 (lv_at hl 13 rfl) ?_
                              refine lv_lshr (v := (shrL r134 x16)) hx hb dL_holds_501 rfl ?_
                              refine lv_lconst (v := 1) hx hb dL_holds_502 (by decide) ?_
                              refine lv_land hx hb dL_holds_503 ?_
                              refine lv_lconst (v := 1) hx hb dL_holds_504 (by decide) ?_
                              refine W.lcmp hx hb dL_holds_505 ?_
                              refine lv_if_ne (tgt := 722) hx hb dL_holds_506 (by decide) (fun c166 => ?_) (fun c166 => ?_)
                              · replace c166 := mt (lg_cmp_eq _ _).mpr c166
                                replace h := it_neg c166 h
                                refine lv_iconst (v := 0) hx hb dL_holds_722 (by decide) ?_
                                refine W.widen (k := (cc0 + 14)) (n := (ss0 + 84)) (by omega) (by omega) ?_
                                refine W.eq (g2 := F0 m 723 ls [.int (b2i false)]) rfl ?_
                                exact J164 false _ _ _ hM hS hO_p0 hk h ls (lv_sub hl [1, 2, 3, 4, 5, 6, 0, 7, 8, 9, 10, 11, 12, 13] rfl)
                              · replace c166 := (lg_cmp_eq _ _).mp c166
                                replace h := it_pos c166 h
                                refine lv_lload hx hb dL_holds_509 (lv_at hl 15 rfl) ?_
                                refine lv_lload hx hb dL_holds_511 (lv_at hl 20 rfl) ?_
                                refine lv_ldc2 (v := -1) hx hb hown (hts _ l_L_holds_0) dL_holds_513 ?_
                                refine lv_lxor hx hb dL_holds_516 ?_
                                refine lv_land hx hb dL_holds_517 ?_
                                refine lv_lconst (v := 0) hx hb dL_holds_518 (by decide) ?_
                                refine W.lcmp hx hb dL_holds_519 ?_
                                refine lv_if_ne (tgt := 722) hx hb dL_holds_520 (by decide) (fun c167 => ?_) (fun c167 => ?_)
                                · replace c167 := mt (lg_cmp_eq _ _).mpr c167
                                  replace h := it_neg c167 h
                                  refine lv_iconst (v := 0) hx hb dL_holds_722 (by decide) ?_
                                  refine W.widen (k := (cc0 + 14)) (n := (ss0 + 84)) (by omega) (by omega) ?_
                                  refine W.eq (g2 := F0 m 723 ls [.int (b2i false)]) rfl ?_
                                  exact J164 false _ _ _ hM hS hO_p0 hk h ls (lv_sub hl [1, 2, 3, 4, 5, 6, 0, 7, 8, 9, 10, 11, 12, 13] rfl)
                                · replace c167 := (lg_cmp_eq _ _).mp c167
                                  replace h := it_pos c167 h
                                  refine lv_lload hx hb dL_holds_523 (lv_at hl 17 rfl) ?_
                                  refine lv_lload hx hb dL_holds_525 (lv_at hl 20 rfl) ?_
                                  refine lv_land hx hb dL_holds_527 ?_
                                  refine lv_lload hx hb dL_holds_528 (lv_at hl 15 rfl) ?_
                                  refine lv_ldc2 (v := -1) hx hb hown (hts _ l_L_holds_0) dL_holds_530 ?_
                                  refine lv_lxor hx hb dL_holds_533 ?_
                                  refine lv_land hx hb dL_holds_534 ?_
                                  refine lv_lconst (v := 0) hx hb dL_holds_535 (by decide) ?_
                                  refine W.lcmp hx hb dL_holds_536 ?_
                                  refine lv_if_ne (tgt := 722) hx hb dL_holds_537 (by decide) (fun c168 => ?_) (fun c168 => ?_)
                                  · replace c168 := mt (lg_cmp_eq _ _).mpr c168
                                    replace h := it_neg c168 h
                                    refine lv_iconst (v := 0) hx hb dL_holds_722 (by decide) ?_
                                    refine W.widen (k := (cc0 + 14)) (n := (ss0 + 84)) (by omega) (by omega) ?_
                                    refine W.eq (g2 := F0 m 723 ls [.int (b2i false)]) rfl ?_
                                    exact J164 false _ _ _ hM hS hO_p0 hk h ls (lv_sub hl [1, 2, 3, 4, 5, 6, 0, 7, 8, 9, 10, 11, 12, 13] rfl)
                                  · replace c168 := (lg_cmp_eq _ _).mp c168
                                    replace h := it_pos c168 h
                                    refine lv_lload hx hb dL_holds_540 (lv_at hl 17 rfl) ?_
                                    refine lv_lload_n hx hb dL_holds_542 rfl (lv_at hl 4 rfl) ?_
                                    refine lv_lload hx hb dL_holds_543 (lv_at hl 5 rfl) ?_
                                    refine lv_lor hx hb dL_holds_545 ?_
                                    refine lv_ldc2 (v := -1) hx hb hown (hts _ l_L_holds_0) dL_holds_546 ?_
                                    refine lv_lxor hx hb dL_holds_549 ?_
                                    refine lv_land hx hb dL_holds_550 ?_
                                    refine lv_lload hx hb dL_holds_551 (lv_at hl 16 rfl) ?_
                                    refine lv_ldc2 (v := -1) hx hb hown (hts _ l_L_holds_0) dL_holds_553 ?_
                                    refine lv_lxor hx hb dL_holds_556 ?_
                                    refine lv_land hx hb dL_holds_557 ?_
                                    refine lv_lconst (v := 0) hx hb dL_holds_558 (by decide) ?_
                                    refine W.lcmp hx hb dL_holds_559 ?_
                                    refine lv_if_ne (tgt := 722) hx hb dL_holds_560 (by decide) (fun c169 => ?_) (fun c169 => ?_)
                                    · replace c169 := mt (lg_cmp_eq _ _).mpr c169
                                      replace h := it_neg c169 h
                                      refine lv_iconst (v := 0) hx hb dL_holds_722 (by decide) ?_
                                      refine W.widen (k := (cc0 + 14)) (n := (ss0 + 84)) (by omega) (by omega) ?_
                                      refine W.eq (g2 := F0 m 723 ls [.int (b2i false)]) rfl ?_
                                      exact J164 false _ _ _ hM hS hO_p0 hk h ls (lv_sub hl [1, 2, 3, 4, 5, 6, 0, 7, 8, 9, 10, 11, 12, 13] rfl)
                                    · replace c169 := (lg_cmp_eq _ _).mp c169
                                      replace h := it_pos c169 h
                                      refine lv_lload hx hb dL_holds_563 (lv_at hl 16 rfl) ?_
                                      refine lv_lload_n hx hb dL_holds_565 rfl (lv_at hl 4 rfl) ?_
                                      refine lv_lload hx hb dL_holds_566 (lv_at hl 5 rfl) ?_
                                      refine lv_lor hx hb dL_holds_568 ?_
                                      refine lv_land hx hb dL_holds_569 ?_
                                      refine lv_lconst (v := 0) hx hb dL_holds_570 (by decide) ?_
                                      refine W.lcmp hx hb dL_holds_571 ?_
                                      refine lv_if_ne (tgt := 722) hx hb dL_holds_572 (by decide) (fun c170 => ?_) (fun c170 => ?_)
                                      · replace c170 := mt (lg_cmp_eq _ _).mpr c170
                                        replace h := it_neg c170 h
                                        refine lv_iconst (v := 0) hx hb dL_holds_722 (by decide) ?_
                                        refine W.widen (k := (cc0 + 14)) (n := (ss0 + 84)) (by omega) (by omega) ?_
                                        refine W.eq (g2 := F0 m 723 ls [.int (b2i false)]) rfl ?_
                                        exact J164 false _ _ _ hM hS hO_p0 hk h ls (lv_sub hl [1, 2, 3, 4, 5, 6, 0, 7, 8, 9, 10, 11, 12, 13] rfl)
                                      · replace c170 := (lg_cmp_eq _ _).mp c170
                                        replace h := it_pos c170 h
                                        refine lv_lload hx hb dL_holds_575 (lv_at hl 16 rfl) ?_
                                        refine lv_lconst (v := 0) hx hb dL_holds_577 (by decide) ?_
                                        refine W.lcmp hx hb dL_holds_578 ?_
                                        refine lv_if_eq (tgt := 722) hx hb dL_holds_579 (by decide) (fun c171 => ?_) (fun c171 => ?_)
                                        · replace c171 := (lg_cmp_eq _ _).mp c171
                                          replace h := it_pos c171 h
                                          refine lv_iconst (v := 0) hx hb dL_holds_722 (by decide) ?_
                                          refine W.widen (k := (cc0 + 14)) (n := (ss0 + 84)) (by omega) (by omega) ?_
                                          refine W.eq (g2 := F0 m 723 ls [.int (b2i false)]) rfl ?_
                                          exact J164 false _ _ _ hM hS hO_p0 hk h ls (lv_sub hl [1, 2, 3, 4, 5, 6, 0, 7, 8, 9, 10, 11, 12, 13] rfl)
                                        · replace c171 := mt (lg_cmp_eq _ _).mpr c171
                                          replace h := it_neg c171 h
                                          refine lv_aload_n hx hb dL_holds_582 rfl (lv_at hl 1 rfl) ?_
                                          refine lv_iconst (v := 4) hx hb dL_holds_583 (by decide) ?_
                                          refine lv_iload hx hb dL_holds_584 (lv_at hl 13 rfl) ?_
                                          refine lv_iconst (v := 1) hx hb dL_holds_586 (by decide) ?_
                                          refine lv_iconst (v := 0) hx hb dL_holds_587 (by decide) ?_
                                          obtain ⟨r172, hr172, h⟩ := ob_some h
                                          refine mw_wi (my_runS (As := [.ref (ad_p0 0), .int 4, .int x16, .int 1, .int 0]) (rest := []) hC hX hM hS (c_L_call_4 (ad_p0 := ad_p0) (s_p0 := s_p0) (hO_p0 := hO_p0) (hlt := hlt) (v := r172) hr172) gL_holds_L_call rfl rfl rfl q_L_call ⟨(Nat.le_of_ble_eq_true rfl), (Nat.le_of_ble_eq_true rfl)⟩ rfl rfl (Nat.le_of_ble_eq_true rfl) hl.1 dL_holds_588 ⟨(by dsimp only; omega), (by dsimp only; omega)⟩) hS (fun r9 H locs σ1 hp173 hM hS => ?_)
                                          obtain ⟨hr9, hO9, hk174⟩ := hp173
                                          replace hr9 := hr9.symm
                                          subst hr9
                                          replace hO_p0 := hO9
                                          have hk175 := KEO.tr hk hk174
                                          refine W.eq (g2 := F0 m 591 ls [.int r172]) rfl ?_
                                          refine W.widen (k := (cc0 + 7)) (n := (ss0 + 42)) (by omega) (by omega) ?_
                                          refine lv_lload hx hb dL_holds_591 (lv_at hl 15 rfl) ?_
                                          obtain ⟨r176, hr176, h⟩ := ob_some h
                                          refine mw_ci (mw_runS (As := [.long r134]) (rest := [.int r172]) hC hM hS (c_L_count (v := r176) hr176) gL_holds_L_count rfl rfl rfl q_L_count ⟨(Nat.le_of_ble_eq_true rfl), (Nat.le_of_ble_eq_true rfl)⟩ rfl rfl (Nat.le_of_ble_eq_true rfl) hl.1 dL_holds_593 ⟨(by dsimp only; omega), (by dsimp only; omega)⟩) ?_
                                          refine lv_icmp_ne (tgt := 722) hx hb dL_holds_596 (by decide) (fun c177 => ?_) (fun c177 => ?_)
                                          · replace h := it_neg c177 h
                                            refine lv_iconst (v := 0) hx hb dL_holds_722 (by decide) ?_
                                            refine W.widen (k := (cc0 + 14)) (n := (ss0 + 84)) (by omega) (by omega) ?_
                                            refine W.eq (g2 := F0 m 723 ls [.int (b2i false)]) rfl ?_
                                            exact J164 false _ _ _ hM hS hO_p0 hk175 h ls (lv_sub hl [1, 2, 3, 4, 5, 6, 0, 7, 8, 9, 10, 11, 12, 13] rfl)
                                          · replace h := it_pos c177 h
                                            refine lv_aload_n hx hb dL_holds_599 rfl (lv_at hl 1 rfl) ?_
                                            refine lv_iconst (v := 4) hx hb dL_holds_600 (by decide) ?_
                                            refine lv_iload hx hb dL_holds_601 (lv_at hl 13 rfl) ?_
                                            refine lv_iconst (v := 2) hx hb dL_holds_603 (by decide) ?_
                                            refine lv_iconst (v := 0) hx hb dL_holds_604 (by decide) ?_
                                            obtain ⟨r178, hr178, h⟩ := ob_some h
                                            refine mw_wi (my_runS (As := [.ref (ad_p0 0), .int 4, .int x16, .int 2, .int 0]) (rest := []) hC hX hM hS (c_L_call_4 (ad_p0 := ad_p0) (s_p0 := s_p0) (hO_p0 := hO_p0) (hlt := hlt) (v := r178) hr178) gL_holds_L_call rfl rfl rfl q_L_call ⟨(Nat.le_of_ble_eq_true rfl), (Nat.le_of_ble_eq_true rfl)⟩ rfl rfl (Nat.le_of_ble_eq_true rfl) hl.1 dL_holds_605 ⟨(by dsimp only; omega), (by dsimp only; omega)⟩) hS (fun r9 H locs σ1 hp179 hM hS => ?_)
                                            obtain ⟨hr9, hO9, hk180⟩ := hp179
                                            replace hr9 := hr9.symm
                                            subst hr9
                                            replace hO_p0 := hO9
                                            have hk181 := KEO.tr hk175 hk180
                                            refine W.eq (g2 := F0 m 608 ls [.int r178]) rfl ?_
                                            refine W.widen (k := (cc0 + 8)) (n := (ss0 + 48)) (by omega) (by omega) ?_
                                            refine lv_lload hx hb dL_holds_608 (lv_at hl 16 rfl) ?_
                                            obtain ⟨r182, hr182, h⟩ := ob_some h
                                            refine mw_ci (mw_runS (As := [.long r138]) (rest := [.int r178]) hC hM hS (c_L_count (v := r182) hr182) gL_holds_L_count rfl rfl rfl q_L_count ⟨(Nat.le_of_ble_eq_true rfl), (Nat.le_of_ble_eq_true rfl)⟩ rfl rfl (Nat.le_of_ble_eq_true rfl) hl.1 dL_holds_610 ⟨(by dsimp only; omega), (by dsimp only; omega)⟩) ?_
                                            refine lv_icmp_ne (tgt := 722) hx hb dL_holds_613 (by decide) (fun c183 => ?_) (fun c183 => ?_)
                                            · replace h := it_neg c183 h
                                              refine lv_iconst (v := 0) hx hb dL_holds_722 (by decide) ?_
                                              refine W.widen (k := (cc0 + 14)) (n := (ss0 + 84)) (by omega) (by omega) ?_
                                              refine W.eq (g2 := F0 m 723 ls [.int (b2i false)]) rfl ?_
                                              exact J164 false _ _ _ hM hS hO_p0 hk181 h ls (lv_sub hl [1, 2, 3, 4, 5, 6, 0, 7, 8, 9, 10, 11, 12, 13] rfl)
                                            · replace h := it_pos c183 h
                                              refine lv_aload_n hx hb dL_holds_616 rfl (lv_at hl 1 rfl) ?_
                                              refine lv_iconst (v := 4) hx hb dL_holds_617 (by decide) ?_
                                              refine lv_iload hx hb dL_holds_618 (lv_at hl 13 rfl) ?_
                                              refine lv_iconst (v := 4) hx hb dL_holds_620 (by decide) ?_
                                              refine lv_iconst (v := 0) hx hb dL_holds_621 (by decide) ?_
                                              obtain ⟨r184, hr184, h⟩ := ob_some h
                                              refine mw_wi (my_runS (As := [.ref (ad_p0 0), .int 4, .int x16, .int 4, .int 0]) (rest := []) hC hX hM hS (c_L_call_4 (ad_p0 := ad_p0) (s_p0 := s_p0) (hO_p0 := hO_p0) (hlt := hlt) (v := r184) hr184) gL_holds_L_call rfl rfl rfl q_L_call ⟨(Nat.le_of_ble_eq_true rfl), (Nat.le_of_ble_eq_true rfl)⟩ rfl rfl (Nat.le_of_ble_eq_true rfl) hl.1 dL_holds_622 ⟨(by dsimp only; omega), (by dsimp only; omega)⟩) hS (fun r9 H locs σ1 hp185 hM hS => ?_)
                                              obtain ⟨hr9, hO9, hk186⟩ := hp185
                                              replace hr9 := hr9.symm
                                              subst hr9
                                              replace hO_p0 := hO9
                                              have hk187 := KEO.tr hk181 hk186
                                              refine W.eq (g2 := F0 m 625 ls [.int r184]) rfl ?_
                                              refine W.widen (k := (cc0 + 9)) (n := (ss0 + 54)) (by omega) (by omega) ?_
                                              refine lv_if_ne (tgt := 722) hx hb dL_holds_625 (by decide) (fun c188 => ?_) (fun c188 => ?_)
                                              · replace h := it_neg c188 h
                                                refine lv_iconst (v := 0) hx hb dL_holds_722 (by decide) ?_
                                                refine W.widen (k := (cc0 + 14)) (n := (ss0 + 84)) (by omega) (by omega) ?_
                                                refine W.eq (g2 := F0 m 723 ls [.int (b2i false)]) rfl ?_
                                                exact J164 false _ _ _ hM hS hO_p0 hk187 h ls (lv_sub hl [1, 2, 3, 4, 5, 6, 0, 7, 8, 9, 10, 11, 12, 13] rfl)
                                              · replace h := it_pos c188 h
                                                refine lv_iload hx hb dL_holds_628 (lv_at hl 19 rfl) ?_
                                                refine lv_if_ne (tgt := 722) hx hb dL_holds_630 (by decide) (fun c189 => ?_) (fun c189 => ?_)
                                                · replace h := it_neg c189 h
                                                  refine lv_iconst (v := 0) hx hb dL_holds_722 (by decide) ?_
                                                  refine W.widen (k := (cc0 + 14)) (n := (ss0 + 84)) (by omega) (by omega) ?_
                                                  refine W.eq (g2 := F0 m 723 ls [.int (b2i false)]) rfl ?_
                                                  exact J164 false _ _ _ hM hS hO_p0 hk187 h ls (lv_sub hl [1, 2, 3, 4, 5, 6, 0, 7, 8, 9, 10, 11, 12, 13] rfl)
                                                · replace h := it_pos c189 h
                                                  refine lv_iload hx hb dL_holds_633 (lv_at hl 18 rfl) ?_
                                                  refine lv_iconst (v := 1) hx hb dL_holds_635 (by decide) ?_
                                                  refine lv_icmp_ne (tgt := 722) hx hb dL_holds_636 (by decide) (fun c190 => ?_) (fun c190 => ?_)
                                                  · replace h := it_neg c190 h
                                                    refine lv_iconst (v := 0) hx hb dL_holds_722 (by decide) ?_
                                                    refine W.widen (k := (cc0 + 14)) (n := (ss0 + 84)) (by omega) (by omega) ?_
                                                    refine W.eq (g2 := F0 m 723 ls [.int (b2i false)]) rfl ?_
                                                    exact J164 false _ _ _ hM hS hO_p0 hk187 h ls (lv_sub hl [1, 2, 3, 4, 5, 6, 0, 7, 8, 9, 10, 11, 12, 13] rfl)
                                                  · replace h := it_pos c190 h
                                                    refine lv_aload_n hx hb dL_holds_639 rfl (lv_at hl 1 rfl) ?_
                                                    refine lv_iconst (v := 4) hx hb dL_holds_640 (by decide) ?_
                                                    refine lv_iload hx hb dL_holds_641 (lv_at hl 13 rfl) ?_
                                                    refine lv_iconst (v := 5) hx hb dL_holds_643 (by decide) ?_
                                                    refine lv_iconst (v := 0) hx hb dL_holds_644 (by decide) ?_
                                                    obtain ⟨r191, hr191, h⟩ := ob_some h
                                                    refine mw_wi (my_runS (As := [.ref (ad_p0 0), .int 4, .int x16, .int 5, .int 0]) (rest := []) hC hX hM hS (c_L_call_4 (ad_p0 := ad_p0) (s_p0 := s_p0) (hO_p0 := hO_p0) (hlt := hlt) (v := r191) hr191) gL_holds_L_call rfl rfl rfl q_L_call ⟨(Nat.le_of_ble_eq_true rfl), (Nat.le_of_ble_eq_true rfl)⟩ rfl rfl (Nat.le_of_ble_eq_true rfl) hl.1 dL_holds_645 ⟨(by dsimp only; omega), (by dsimp only; omega)⟩) hS (fun r9 H locs σ1 hp192 hM hS => ?_)
                                                    obtain ⟨hr9, hO9, hk193⟩ := hp192
                                                    replace hr9 := hr9.symm
                                                    subst hr9
                                                    replace hO_p0 := hO9
                                                    have hk194 := KEO.tr hk187 hk193
                                                    refine W.eq (g2 := F0 m 648 ls [.int r191]) rfl ?_
                                                    refine W.widen (k := (cc0 + 10)) (n := (ss0 + 60)) (by omega) (by omega) ?_
                                                    refine lv_aload_n hx hb dL_holds_648 rfl (lv_at hl 1 rfl) ?_
                                                    refine lv_iconst (v := 3) hx hb dL_holds_649 (by decide) ?_
                                                    refine lv_iload hx hb dL_holds_650 (lv_at hl 14 rfl) ?_
                                                    refine lv_iconst (v := 3) hx hb dL_holds_652 (by decide) ?_
                                                    refine lv_iconst (v := 0) hx hb dL_holds_653 (by decide) ?_
                                                    obtain ⟨r195, hr195, h⟩ := ob_some h
                                                    refine mw_wi (my_runS (As := [.ref (ad_p0 0), .int 3, .int r130, .int 3, .int 0]) (rest := [.int r191]) hC hX hM hS (c_L_call_3 (ad_p0 := ad_p0) (s_p0 := s_p0) (hO_p0 := hO_p0) (hlt := hlt) (v := r195) hr195) gL_holds_L_call rfl rfl rfl q_L_call ⟨(Nat.le_of_ble_eq_true rfl), (Nat.le_of_ble_eq_true rfl)⟩ rfl rfl (Nat.le_of_ble_eq_true rfl) hl.1 dL_holds_654 ⟨(by dsimp only; omega), (by dsimp only; omega)⟩) hS (fun r9 H locs σ1 hp196 hM hS => ?_)
                                                    obtain ⟨hr9, hO9, hk197⟩ := hp196
                                                    replace hr9 := hr9.symm
                                                    subst hr9
                                                    replace hO_p0 := hO9
                                                    have hk198 := KEO.tr hk194 hk197
                                                    refine W.eq (g2 := F0 m 657 ls [.int r195, .int r191]) rfl ?_
                                                    refine W.widen (k := (cc0 + 11)) (n := (ss0 + 66)) (by omega) (by omega) ?_
                                                    refine lv_icmp_gt (tgt := 722) hx hb dL_holds_657 (by decide) (fun c199 => ?_) (fun c199 => ?_)
                                                    · replace h := it_pos c199 h
                                                      refine lv_iconst (v := 0) hx hb dL_holds_722 (by decide) ?_
                                                      refine W.widen (k := (cc0 + 14)) (n := (ss0 + 84)) (by omega) (by omega) ?_
                                                      refine W.eq (g2 := F0 m 723 ls [.int (b2i false)]) rfl ?_
                                                      exact J164 false _ _ _ hM hS hO_p0 hk198 h ls (lv_sub hl [1, 2, 3, 4, 5, 6, 0, 7, 8, 9, 10, 11, 12, 13] rfl)
                                                    · replace h := it_neg c199 h
                                                      refine lv_lload hx hb dL_holds_660 (lv_at hl 16 rfl) ?_
                                                      obtain ⟨r200, hr200, h⟩ := ob_some h
                                                      refine mw_ci (mw_runS (As := [.long r138]) (rest := []) hC hM hS (c_L_count (v := r200) hr200) gL_holds_L_count rfl rfl rfl q_L_count ⟨(Nat.le_of_ble_eq_true rfl), (Nat.le_of_ble_eq_true rfl)⟩ rfl rfl (Nat.le_of_ble_eq_true rfl) hl.1 dL_holds_662 ⟨(by dsimp only; omega), (by dsimp only; omega)⟩) ?_
                                                      refine lv_iconst (v := 3) hx hb dL_holds_665 (by decide) ?_
                                                      refine lv_icmp_lt (tgt := 696) hx hb dL_holds_666 (by decide) (fun c201 => ?_) (fun c201 => ?_)
                                                      · replace h := it_pos c201 h
                                                        refine lv_lload hx hb dL_holds_696 (lv_at hl 16 rfl) ?_
                                                        obtain ⟨r202, hr202, h⟩ := ob_some h
                                                        refine mw_ci (mw_runS (As := [.long r138]) (rest := []) hC hM hS (c_L_count (v := r202) hr202) gL_holds_L_count rfl rfl rfl q_L_count ⟨(Nat.le_of_ble_eq_true rfl), (Nat.le_of_ble_eq_true rfl)⟩ rfl rfl (Nat.le_of_ble_eq_true rfl) hl.1 dL_holds_698 ⟨(by dsimp only; omega), (by dsimp only; omega)⟩) ?_
                                                        refine lv_iconst (v := 1) hx hb dL_holds_701 (by decide) ?_
                                                        refine lv_icmp_eq (tgt := 718) hx hb dL_holds_702 (by decide) (fun c203 => ?_) (fun c203 => ?_)
                                                        · replace h := it_pos c203 h
                                                          refine lv_iconst (v := 1) hx hb dL_holds_718 (by decide) ?_
                                                          refine lv_goto (tgt := 723) hx hb dL_holds_719 (by decide) ?_
                                                          refine W.widen (k := (cc0 + 14)) (n := (ss0 + 84)) (by omega) (by omega) ?_
                                                          refine W.eq (g2 := F0 m 723 ls [.int (b2i true)]) rfl ?_
                                                          exact J164 true _ _ _ hM hS hO_p0 hk198 h ls (lv_sub hl [1, 2, 3, 4, 5, 6, 0, 7, 8, 9, 10, 11, 12, 13] rfl)
                                                        · replace h := it_neg c203 h
                                                          refine lv_aload_n hx hb dL_holds_705 rfl (lv_at hl 1 rfl) ?_
                                                          refine lv_bipush (v := 12) hx hb dL_holds_706 (by decide) ?_
                                                          refine lv_iload hx hb dL_holds_708 (lv_at hl 13 rfl) ?_
                                                          refine lv_iconst (v := 1) hx hb dL_holds_710 (by decide) ?_
                                                          refine lv_iconst (v := 0) hx hb dL_holds_711 (by decide) ?_
                                                          obtain ⟨r204, hr204, h⟩ := ob_some h
                                                          refine mw_wi (my_runS (As := [.ref (ad_p0 0), .int 12, .int x16, .int 1, .int 0]) (rest := []) hC hX hM hS (c_L_call_12 (ad_p0 := ad_p0) (s_p0 := s_p0) (hO_p0 := hO_p0) (hlt := hlt) (v := r204) hr204) gL_holds_L_call rfl rfl rfl q_L_call ⟨(Nat.le_of_ble_eq_true rfl), (Nat.le_of_ble_eq_true rfl)⟩ rfl rfl (Nat.le_of_ble_eq_true rfl) hl.1 dL_holds_712 ⟨(by dsimp only; omega), (by dsimp only; omega)⟩) hS (fun r9 H locs σ1 hp205 hM hS => ?_)
                                                          obtain ⟨hr9, hO9, hk206⟩ := hp205
                                                          replace hr9 := hr9.symm
                                                          subst hr9
                                                          replace hO_p0 := hO9
                                                          have hk207 := KEO.tr hk198 hk206
                                                          refine W.eq (g2 := F0 m 715 ls [.int r204]) rfl ?_
                                                          refine W.widen (k := (cc0 + 12)) (n := (ss0 + 72)) (by omega) (by omega) ?_
                                                          refine lv_if_ne (tgt := 722) hx hb dL_holds_715 (by decide) (fun c208 => ?_) (fun c208 => ?_)
                                                          · replace h := it_neg c208 h
                                                            refine lv_iconst (v := 0) hx hb dL_holds_722 (by decide) ?_
                                                            refine W.widen (k := (cc0 + 14)) (n := (ss0 + 84)) (by omega) (by omega) ?_
                                                            refine W.eq (g2 := F0 m 723 ls [.int (b2i false)]) rfl ?_
                                                            exact J164 false _ _ _ hM hS hO_p0 hk207 h ls (lv_sub hl [1, 2, 3, 4, 5, 6, 0, 7, 8, 9, 10, 11, 12, 13] rfl)
                                                          · replace h := it_pos c208 h
                                                            refine lv_iconst (v := 1) hx hb dL_holds_718 (by decide) ?_
                                                            refine lv_goto (tgt := 723) hx hb dL_holds_719 (by decide) ?_
                                                            refine W.widen (k := (cc0 + 14)) (n := (ss0 + 84)) (by omega) (by omega) ?_
                                                            refine W.eq (g2 := F0 m 723 ls [.int (b2i true)]) rfl ?_
                                                            exact J164 true _ _ _ hM hS hO_p0 hk207 h ls (lv_sub hl [1, 2, 3, 4, 5, 6, 0, 7, 8, 9, 10, 11, 12, 13] rfl)
                                                      · replace h := it_neg c201 h
                                                        refine lv_aload_n hx hb dL_holds_669 rfl (lv_at hl 1 rfl) ?_
                                                        refine lv_bipush (v := 13) hx hb dL_holds_670 (by decide) ?_
                                                        refine lv_iload hx hb dL_holds_672 (lv_at hl 13 rfl) ?_
                                                        refine lv_iconst (v := 0) hx hb dL_holds_674 (by decide) ?_
                                                        refine lv_iconst (v := 0) hx hb dL_holds_675 (by decide) ?_
                                                        obtain ⟨r209, hr209, h⟩ := ob_some h
                                                        refine mw_wi (my_runS (As := [.ref (ad_p0 0), .int 13, .int x16, .int 0, .int 0]) (rest := []) hC hX hM hS (c_L_call_13 (ad_p0 := ad_p0) (s_p0 := s_p0) (hO_p0 := hO_p0) (hlt := hlt) (v := r209) hr209) gL_holds_L_call rfl rfl rfl q_L_call ⟨(Nat.le_of_ble_eq_true rfl), (Nat.le_of_ble_eq_true rfl)⟩ rfl rfl (Nat.le_of_ble_eq_true rfl) hl.1 dL_holds_676 ⟨(by dsimp only; omega), (by dsimp only; omega)⟩) hS (fun r9 H locs σ1 hp210 hM hS => ?_)
                                                        obtain ⟨hr9, hO9, hk211⟩ := hp210
                                                        replace hr9 := hr9.symm
                                                        subst hr9
                                                        replace hO_p0 := hO9
                                                        have hk212 := KEO.tr hk198 hk211
                                                        refine W.eq (g2 := F0 m 679 ls [.int r209]) rfl ?_
                                                        refine W.widen (k := (cc0 + 12)) (n := (ss0 + 72)) (by omega) (by omega) ?_
                                                        refine lv_iconst (v := -1) hx hb dL_holds_679 (by decide) ?_
                                                        refine lv_icmp_ne (tgt := 722) hx hb dL_holds_680 (by decide) (fun c213 => ?_) (fun c213 => ?_)
                                                        · replace h := it_neg c213 h
                                                          refine lv_iconst (v := 0) hx hb dL_holds_722 (by decide) ?_
                                                          refine W.widen (k := (cc0 + 14)) (n := (ss0 + 84)) (by omega) (by omega) ?_
                                                          refine W.eq (g2 := F0 m 723 ls [.int (b2i false)]) rfl ?_
                                                          exact J164 false _ _ _ hM hS hO_p0 hk212 h ls (lv_sub hl [1, 2, 3, 4, 5, 6, 0, 7, 8, 9, 10, 11, 12, 13] rfl)
                                                        · replace h := it_pos c213 h
                                                          refine lv_aload_n hx hb dL_holds_683 rfl (lv_at hl 1 rfl) ?_
                                                          refine lv_bipush (v := 12) hx hb dL_holds_684 (by decide) ?_
                                                          refine lv_iload hx hb dL_holds_686 (lv_at hl 13 rfl) ?_
                                                          refine lv_iconst (v := 0) hx hb dL_holds_688 (by decide) ?_
                                                          refine lv_iconst (v := 0) hx hb dL_holds_689 (by decide) ?_
                                                          obtain ⟨r214, hr214, h⟩ := ob_some h
                                                          refine mw_wi (my_runS (As := [.ref (ad_p0 0), .int 12, .int x16, .int 0, .int 0]) (rest := []) hC hX hM hS (c_L_call_12 (ad_p0 := ad_p0) (s_p0 := s_p0) (hO_p0 := hO_p0) (hlt := hlt) (v := r214) hr214) gL_holds_L_call rfl rfl rfl q_L_call ⟨(Nat.le_of_ble_eq_true rfl), (Nat.le_of_ble_eq_true rfl)⟩ rfl rfl (Nat.le_of_ble_eq_true rfl) hl.1 dL_holds_690 ⟨(by dsimp only; omega), (by dsimp only; omega)⟩) hS (fun r9 H locs σ1 hp215 hM hS => ?_)
                                                          obtain ⟨hr9, hO9, hk216⟩ := hp215
                                                          replace hr9 := hr9.symm
                                                          subst hr9
                                                          replace hO_p0 := hO9
                                                          have hk217 := KEO.tr hk212 hk216
                                                          refine W.eq (g2 := F0 m 693 ls [.int r214]) rfl ?_
                                                          refine W.widen (k := (cc0 + 13)) (n := (ss0 + 78)) (by omega) (by omega) ?_
                                                          refine lv_if_ne (tgt := 722) hx hb dL_holds_693 (by decide) (fun c218 => ?_) (fun c218 => ?_)
                                                          · replace h := it_neg c218 h
                                                            refine lv_iconst (v := 0) hx hb dL_holds_722 (by decide) ?_
                                                            refine W.widen (k := (cc0 + 14)) (n := (ss0 + 84)) (by omega) (by omega) ?_
                                                            refine W.eq (g2 := F0 m 723 ls [.int (b2i false)]) rfl ?_
                                                            exact J164 false _ _ _ hM hS hO_p0 hk217 h ls (lv_sub hl [1, 2, 3, 4, 5, 6, 0, 7, 8, 9, 10, 11, 12, 13] rfl)
                                                          · replace h := it_pos c218 h
                                                            refine lv_lload hx hb dL_holds_696 (lv_at hl 16 rfl) ?_
                                                            obtain ⟨r219, hr219, h⟩ := ob_some h
                                                            refine mw_ci (mw_runS (As := [.long r138]) (rest := []) hC hM hS (c_L_count (v := r219) hr219) gL_holds_L_count rfl rfl rfl q_L_count ⟨(Nat.le_of_ble_eq_true rfl), (Nat.le_of_ble_eq_true rfl)⟩ rfl rfl (Nat.le_of_ble_eq_true rfl) hl.1 dL_holds_698 ⟨(by dsimp only; omega), (by dsimp only; omega)⟩) ?_
                                                            refine lv_iconst (v := 1) hx hb dL_holds_701 (by decide) ?_
                                                            refine lv_icmp_eq (tgt := 718) hx hb dL_holds_702 (by decide) (fun c220 => ?_) (fun c220 => ?_)
                                                            · replace h := it_pos c220 h
                                                              refine lv_iconst (v := 1) hx hb dL_holds_718 (by decide) ?_
                                                              refine lv_goto (tgt := 723) hx hb dL_holds_719 (by decide) ?_
                                                              refine W.widen (k := (cc0 + 14)) (n := (ss0 + 84)) (by omega) (by omega) ?_
                                                              refine W.eq (g2 := F0 m 723 ls [.int (b2i true)]) rfl ?_
                                                              exact J164 true _ _ _ hM hS hO_p0 hk217 h ls (lv_sub hl [1, 2, 3, 4, 5, 6, 0, 7, 8, 9, 10, 11, 12, 13] rfl)
                                                            · replace h := it_neg c220 h
                                                              refine lv_aload_n hx hb dL_holds_705 rfl (lv_at hl 1 rfl) ?_
                                                              refine lv_bipush (v := 12) hx hb dL_holds_706 (by decide) ?_
                                                              refine lv_iload hx hb dL_holds_708 (lv_at hl 13 rfl) ?_
                                                              refine lv_iconst (v := 1) hx hb dL_holds_710 (by decide) ?_
                                                              refine lv_iconst (v := 0) hx hb dL_holds_711 (by decide) ?_
                                                              obtain ⟨r221, hr221, h⟩ := ob_some h
                                                              refine mw_wi (my_runS (As := [.ref (ad_p0 0), .int 12, .int x16, .int 1, .int 0]) (rest := []) hC hX hM hS (c_L_call_12 (ad_p0 := ad_p0) (s_p0 := s_p0) (hO_p0 := hO_p0) (hlt := hlt) (v := r221) hr221) gL_holds_L_call rfl rfl rfl q_L_call ⟨(Nat.le_of_ble_eq_true rfl), (Nat.le_of_ble_eq_true rfl)⟩ rfl rfl (Nat.le_of_ble_eq_true rfl) hl.1 dL_holds_712 ⟨(by dsimp only; omega), (by dsimp only; omega)⟩) hS (fun r9 H locs σ1 hp222 hM hS => ?_)
                                                              obtain ⟨hr9, hO9, hk223⟩ := hp222
                                                              replace hr9 := hr9.symm
                                                              subst hr9
                                                              replace hO_p0 := hO9
                                                              have hk224 := KEO.tr hk217 hk223
                                                              refine W.eq (g2 := F0 m 715 ls [.int r221]) rfl ?_
                                                              refine W.widen (k := (cc0 + 14)) (n := (ss0 + 84)) (by omega) (by omega) ?_
                                                              refine lv_if_ne (tgt := 722) hx hb dL_holds_715 (by decide) (fun c225 => ?_) (fun c225 => ?_)
                                                              · replace h := it_neg c225 h
                                                                refine lv_iconst (v := 0) hx hb dL_holds_722 (by decide) ?_
                                                                refine W.eq (g2 := F0 m 723 ls [.int (b2i false)]) rfl ?_
                                                                exact J164 false _ _ _ hM hS hO_p0 hk224 h ls (lv_sub hl [1, 2, 3, 4, 5, 6, 0, 7, 8, 9, 10, 11, 12, 13] rfl)
                                                              · replace h := it_pos c225 h
                                                                refine lv_iconst (v := 1) hx hb dL_holds_718 (by decide) ?_
                                                                refine lv_goto (tgt := 723) hx hb dL_holds_719 (by decide) ?_
                                                                refine W.eq (g2 := F0 m 723 ls [.int (b2i true)]) rfl ?_
                                                                exact J164 true _ _ _ hM hS hO_p0 hk224 h ls (lv_sub hl [1, 2, 3, 4, 5, 6, 0, 7, 8, 9, 10, 11, 12, 13] rfl)
                          refine lv_if_eq (tgt := 481) hx hb dL_holds_465 (by decide) (fun c226 => ?_) (fun c226 => ?_)
                          · replace c226 := b2i_eq0.mp c226
                            replace h := it_neg c226 h
                            refine lv_iconst (v := 0) hx hb dL_holds_481 (by decide) ?_
                            refine W.eq (g2 := F0 m 482 ls [.int (b2i false), .int x8]) rfl ?_
                            exact J163 false _ _ _ hM hS hO_p0 hk h ls (lv_sub hl [1, 2, 3, 4, 5, 0, 7, 8, 9, 10, 11, 12, 13, 14, 15, 16, 17, 18, 19, 20] rfl)
                          · replace c226 := b2i_ne0.mp c226
                            replace h := it_pos c226 h
                            refine lv_lload hx hb dL_holds_468 (lv_at hl 16 rfl) ?_
                            obtain ⟨r227, hr227, h⟩ := ob_some h
                            refine mw_ci (mw_runS (As := [.long r138]) (rest := [.int x8]) hC hM hS (c_L_count (v := r227) hr227) gL_holds_L_count rfl rfl rfl q_L_count ⟨(Nat.le_of_ble_eq_true rfl), (Nat.le_of_ble_eq_true rfl)⟩ rfl rfl (Nat.le_of_ble_eq_true rfl) hl.1 dL_holds_470 ⟨(by dsimp only; omega), (by dsimp only; omega)⟩) ?_
                            refine lv_iconst (v := 1) hx hb dL_holds_473 (by decide) ?_
                            refine lv_icmp_ne (tgt := 481) hx hb dL_holds_474 (by decide) (fun c228 => ?_) (fun c228 => ?_)
                            · replace h := it_neg c228 h
                              refine lv_iconst (v := 0) hx hb dL_holds_481 (by decide) ?_
                              refine W.eq (g2 := F0 m 482 ls [.int (b2i false), .int x8]) rfl ?_
                              exact J163 false _ _ _ hM hS hO_p0 hk h ls (lv_sub hl [1, 2, 3, 4, 5, 0, 7, 8, 9, 10, 11, 12, 13, 14, 15, 16, 17, 18, 19, 20] rfl)
                            · replace h := it_pos c228 h
                              refine lv_iconst (v := 1) hx hb dL_holds_477 (by decide) ?_
                              refine lv_goto (tgt := 482) hx hb dL_holds_478 (by decide) ?_
                              refine W.eq (g2 := F0 m 482 ls [.int (b2i true), .int x8]) rfl ?_
                              exact J163 true _ _ _ hM hS hO_p0 hk h ls (lv_sub hl [1, 2, 3, 4, 5, 0, 7, 8, 9, 10, 11, 12, 13, 14, 15, 16, 17, 18, 19, 20] rfl)
                        refine lv_if_eq (tgt := 457) hx hb dL_holds_450 (by decide) (fun c229 => ?_) (fun c229 => ?_)
                        · replace c229 := b2i_eq0.mp c229
                          replace h := it_neg c229 h
                          refine lv_iconst (v := 0) hx hb dL_holds_457 (by decide) ?_
                          refine W.eq (g2 := F0 m 458 ls [.int (b2i false), .int x7]) rfl ?_
                          exact J162 false _ _ _ hM hS hO_p0 hk h ls (lv_sub hl [1, 2, 3, 4, 5, 7, 8, 9, 10, 11, 12, 13, 14, 15, 16, 17, 18, 19, 20, 21, 0] rfl)
                        · replace c229 := b2i_ne0.mp c229
                          replace h := it_pos c229 h
                          refine lv_iconst (v := 1) hx hb dL_holds_453 (by decide) ?_
                          refine lv_goto (tgt := 458) hx hb dL_holds_454 (by decide) ?_
                          refine W.eq (g2 := F0 m 458 ls [.int (b2i true), .int x7]) rfl ?_
                          exact J162 true _ _ _ hM hS hO_p0 hk h ls (lv_sub hl [1, 2, 3, 4, 5, 7, 8, 9, 10, 11, 12, 13, 14, 15, 16, 17, 18, 19, 20, 21, 0] rfl)
                      refine lv_if_ne (tgt := 443) hx hb dL_holds_436 (by decide) (fun c230 => ?_) (fun c230 => ?_)
                      · replace c230 := mt (lg_cmp_eq _ _).mpr c230
                        replace h := it_neg c230 h
                        refine lv_iconst (v := 0) hx hb dL_holds_443 (by decide) ?_
                        refine W.eq (g2 := F0 m 444 ls [.int (b2i false)]) rfl ?_
                        exact J161 false _ _ _ hM hS hO_p0 hk h ls (lv_sub hl [1, 2, 3, 4, 5, 6, 7, 8, 9, 10, 11, 12, 13, 14, 15, 16, 17, 18, 19, 20, 0] rfl)
                      · replace c230 := (lg_cmp_eq _ _).mp c230
                        replace h := it_pos c230 h
                        refine lv_iconst (v := 1) hx hb dL_holds_439 (by decide) ?_
                        refine lv_goto (tgt := 444) hx hb dL_holds_440 (by decide) ?_
                        refine W.eq (g2 := F0 m 444 ls [.int (b2i true)]) rfl ?_
                        exact J161 true _ _ _ hM hS hO_p0 hk h ls (lv_sub hl [1, 2, 3, 4, 5, 6, 7, 8, 9, 10, 11, 12, 13, 14, 15, 16, 17, 18, 19, 20, 0] rfl)
                    refine lv_if_ne (tgt := 421) hx hb dL_holds_414 (by decide) (fun c231 => ?_) (fun c231 => ?_)
                    · replace h := it_neg c231 h
                      refine lv_lload hx hb dL_holds_421 (lv_at hl 5 rfl) ?_
                      exact J160 u5 _ _ _ hM hS hO_p0 hk h ls (lv_sub hl [1, 2, 3, 4, 5, 6, 7, 8, 9, 10, 11, 0, 12, 13, 14, 15, 16, 17, 18, 19] rfl)
                    · replace h := it_pos c231 h
                      refine lv_lload_n hx hb dL_holds_417 rfl (lv_at hl 4 rfl) ?_
                      refine lv_goto (tgt := 423) hx hb dL_holds_418 (by decide) ?_
                      exact J160 u3 _ _ _ hM hS hO_p0 hk h ls (lv_sub hl [1, 2, 3, 4, 5, 6, 7, 8, 9, 10, 11, 0, 12, 13, 14, 15, 16, 17, 18, 19] rfl)
                  · replace h := it_pos c159 h
                    refine lv_iload hx hb dL_holds_224 (lv_at hl 9 rfl) ?_
                    refine lv_iload hx hb dL_holds_226 (lv_at hl 19 rfl) ?_
                    refine lv_iconst (v := 2) hx hb dL_holds_228 (by decide) ?_
                    obtain ⟨k232, ek232, h⟩ := bnd_ex h
                    have J232 : ∀ (x232_0 : Bool) (H : Heap) (locs : List Loc) (σ1 : mwm), MW z D σ1 H → va_S (zA z) s.heap H locs → OB K ad_p0 σ1 s_p0 → KEO ad_p0 σ σ1 → k232 x232_0 = some v → ∀ ls : Array Slot, lv_has ls 30 [(0, .ref (ad_p0 0)), (1, .int u1), (2, .int u2), (3, .long u3), (5, .long u5), (7, .int x7), (8, .int x8), (9, .int (x9 + (b2i x151_0))), (11, .int x11), (12, .int x156_0), (13, .int x157_0), (14, .int u14), (16, .int x16), (18, .long r134), (20, .long r138), (22, .long r142), (24, .int r143), (25, .int r147), (26, .int r152)] → W p l e ({ frames := 74, cells := 1217, slots := 7302, locals := 3107 } : Room) s m ([.ref (ad_p0 0)] : List Value).toArray below meth c H locs (cc0 + 6) (ss0 + 36) (MQ below (qwI z D (fun r σ2 => r = b2i v ∧ OB K ad_p0 σ2 s_p0 ∧ KEO ad_p0 σ σ2)) ([.ref (ad_p0 0)] : List Value).toArray s 1217 7302 (zA z)) (F0 m 237 ls [.int (b2i x232_0), .int x10]) := by
                      intro x232_0 H locs σ1 hM hS hO_p0 hk h ls hl
                      rw [ek232] at h
                      refine lv_iadd hx hb dL_holds_237 ?_
                      refine lv_istore (lv' := [(10, .int (x10 + (b2i x232_0))), (0, .ref (ad_p0 0)), (1, .int u1), (2, .int u2), (3, .long u3), (5, .long u5), (7, .int x7), (8, .int x8), (9, .int (x9 + (b2i x151_0))), (11, .int x11), (12, .int x156_0), (13, .int x157_0), (14, .int u14), (16, .int x16), (18, .long r134), (20, .long r138), (22, .long r142), (24, .int r143), (25, .int r147), (26, .int r152)]) hx hb dL_holds_238 hl (by decide) rfl (fun ls hl => ?_)
                      refine lv_iload hx hb dL_holds_240 (lv_at hl 9 rfl) ?_
                      refine lv_iload hx hb dL_holds_242 (lv_at hl 18 rfl) ?_
                      refine lv_iconst (v := 1) hx hb dL_holds_244 (by decide) ?_
                      obtain ⟨k233, ek233, h⟩ := bnd_ex h
                      have J233 : ∀ (x233_0 : Bool) (H : Heap) (locs : List Loc) (σ1 : mwm), MW z D σ1 H → va_S (zA z) s.heap H locs → OB K ad_p0 σ1 s_p0 → KEO ad_p0 σ σ1 → k233 x233_0 = some v → ∀ ls : Array Slot, lv_has ls 30 [(0, .ref (ad_p0 0)), (1, .int u1), (2, .int u2), (3, .long u3), (5, .long u5), (7, .int x7), (8, .int x8), (9, .int (x9 + (b2i x151_0))), (10, .int (x10 + (b2i x232_0))), (12, .int x156_0), (13, .int x157_0), (14, .int u14), (16, .int x16), (18, .long r134), (20, .long r138), (22, .long r142), (24, .int r143), (25, .int r147), (26, .int r152)] → W p l e ({ frames := 74, cells := 1217, slots := 7302, locals := 3107 } : Room) s m ([.ref (ad_p0 0)] : List Value).toArray below meth c H locs (cc0 + 6) (ss0 + 36) (MQ below (qwI z D (fun r σ2 => r = b2i v ∧ OB K ad_p0 σ2 s_p0 ∧ KEO ad_p0 σ σ2)) ([.ref (ad_p0 0)] : List Value).toArray s 1217 7302 (zA z)) (F0 m 253 ls [.int (b2i x233_0), .int x11]) := by
                        intro x233_0 H locs σ1 hM hS hO_p0 hk h ls hl
                        rw [ek233] at h
                        refine lv_iadd hx hb dL_holds_253 ?_
                        refine lv_istore (lv' := [(11, .int (x11 + (b2i x233_0))), (0, .ref (ad_p0 0)), (1, .int u1), (2, .int u2), (3, .long u3), (5, .long u5), (7, .int x7), (8, .int x8), (9, .int (x9 + (b2i x151_0))), (10, .int (x10 + (b2i x232_0))), (12, .int x156_0), (13, .int x157_0), (14, .int u14), (16, .int x16), (18, .long r134), (20, .long r138), (22, .long r142), (24, .int r143), (25, .int r147), (26, .int r152)]) hx hb dL_holds_254 hl (by decide) rfl (fun ls hl => ?_)
                        refine lv_lload_n hx hb dL_holds_256 rfl (lv_at hl 4 rfl) ?_
                        refine lv_lload hx hb dL_holds_257 (lv_at hl 5 rfl) ?_
                        refine lv_lor hx hb dL_holds_259 ?_
                        refine lv_iload hx hb dL_holds_260 (lv_at hl 13 rfl) ?_
                        refine lv_lshr (v := (shrL (u3 ||| u5) x16)) hx hb dL_holds_262 rfl ?_
                        refine lv_lconst (v := 1) hx hb dL_holds_263 (by decide) ?_
                        refine lv_land hx hb dL_holds_264 ?_
                        refine lv_lconst (v := 0) hx hb dL_holds_265 (by decide) ?_
                        refine W.lcmp hx hb dL_holds_266 ?_
                        obtain ⟨k234, ek234, h⟩ := bnd_ex h
                        have J234 : ∀ (x234_0 : Bool) (H : Heap) (locs : List Loc) (σ1 : mwm), MW z D σ1 H → va_S (zA z) s.heap H locs → OB K ad_p0 σ1 s_p0 → KEO ad_p0 σ σ1 → k234 x234_0 = some v → ∀ ls : Array Slot, lv_has ls 30 [(0, .ref (ad_p0 0)), (1, .int u1), (2, .int u2), (3, .long u3), (5, .long u5), (7, .int x7), (8, .int x8), (9, .int (x9 + (b2i x151_0))), (10, .int (x10 + (b2i x232_0))), (11, .int (x11 + (b2i x233_0))), (12, .int x156_0), (13, .int x157_0), (14, .int u14), (16, .int x16)] → W p l e ({ frames := 74, cells := 1217, slots := 7302, locals := 3107 } : Room) s m ([.ref (ad_p0 0)] : List Value).toArray below meth c H locs (cc0 + 8) (ss0 + 48) (MQ below (qwI z D (fun r σ2 => r = b2i v ∧ OB K ad_p0 σ2 s_p0 ∧ KEO ad_p0 σ σ2)) ([.ref (ad_p0 0)] : List Value).toArray s 1217 7302 (zA z)) (F0 m 407 ls [.int (b2i x234_0)]) := by
                          intro x234_0 H locs σ1 hM hS hO_p0 hk h ls hl
                          rw [ek234] at h
                          refine lv_istore (lv' := [(15, .int (b2i x234_0)), (0, .ref (ad_p0 0)), (1, .int u1), (2, .int u2), (3, .long u3), (5, .long u5), (7, .int x7), (8, .int x8), (9, .int (x9 + (b2i x151_0))), (10, .int (x10 + (b2i x232_0))), (11, .int (x11 + (b2i x233_0))), (12, .int x156_0), (13, .int x157_0), (14, .int u14), (16, .int x16)]) hx hb dL_holds_407 hl (by decide) rfl (fun ls hl => ?_)
                          refine lv_goto (tgt := 725) hx hb dL_holds_409 (by decide) ?_
                          refine W.widen (k := (cc0 + 14)) (n := (ss0 + 84)) (by omega) (by omega) ?_
                          exact J158 x7 x8 (x10 + (b2i x232_0)) (x11 + (b2i x233_0)) x234_0 _ _ _ hM hS hO_p0 hk h ls (lv_sub hl [1, 2, 3, 4, 5, 6, 7, 8, 9, 10, 11, 12, 13, 0, 14] rfl)
                        refine lv_if_ne (tgt := 406) hx hb dL_holds_267 (by decide) (fun c235 => ?_) (fun c235 => ?_)
                        · replace c235 := mt (lg_cmp_eq _ _).mpr c235
                          replace h := it_neg c235 h
                          refine lv_iconst (v := 0) hx hb dL_holds_406 (by decide) ?_
                          refine W.widen (k := (cc0 + 8)) (n := (ss0 + 48)) (by omega) (by omega) ?_
                          refine W.eq (g2 := F0 m 407 ls [.int (b2i false)]) rfl ?_
                          exact J234 false _ _ _ hM hS hO_p0 hk h ls (lv_sub hl [1, 2, 3, 4, 5, 6, 7, 8, 9, 0, 10, 11, 12, 13] rfl)
                        · replace c235 := (lg_cmp_eq _ _).mp c235
                          replace h := it_pos c235 h
                          refine lv_lload hx hb dL_holds_270 (lv_at hl 14 rfl) ?_
                          refine lv_lconst (v := 0) hx hb dL_holds_272 (by decide) ?_
                          refine W.lcmp hx hb dL_holds_273 ?_
                          refine lv_if_ne (tgt := 406) hx hb dL_holds_274 (by decide) (fun c236 => ?_) (fun c236 => ?_)
                          · replace c236 := mt (lg_cmp_eq _ _).mpr c236
                            replace h := it_neg c236 h
                            refine lv_iconst (v := 0) hx hb dL_holds_406 (by decide) ?_
                            refine W.widen (k := (cc0 + 8)) (n := (ss0 + 48)) (by omega) (by omega) ?_
                            refine W.eq (g2 := F0 m 407 ls [.int (b2i false)]) rfl ?_
                            exact J234 false _ _ _ hM hS hO_p0 hk h ls (lv_sub hl [1, 2, 3, 4, 5, 6, 7, 8, 9, 0, 10, 11, 12, 13] rfl)
                          · replace c236 := (lg_cmp_eq _ _).mp c236
                            replace h := it_pos c236 h
                            refine lv_lload hx hb dL_holds_277 (lv_at hl 15 rfl) ?_
                            refine lv_lconst (v := 0) hx hb dL_holds_279 (by decide) ?_
                            refine W.lcmp hx hb dL_holds_280 ?_
                            refine lv_if_ne (tgt := 406) hx hb dL_holds_281 (by decide) (fun c237 => ?_) (fun c237 => ?_)
                            · replace c237 := mt (lg_cmp_eq _ _).mpr c237
                              replace h := it_neg c237 h
                              refine lv_iconst (v := 0) hx hb dL_holds_406 (by decide) ?_
                              refine W.widen (k := (cc0 + 8)) (n := (ss0 + 48)) (by omega) (by omega) ?_
                              refine W.eq (g2 := F0 m 407 ls [.int (b2i false)]) rfl ?_
                              exact J234 false _ _ _ hM hS hO_p0 hk h ls (lv_sub hl [1, 2, 3, 4, 5, 6, 7, 8, 9, 0, 10, 11, 12, 13] rfl)
                            · replace c237 := (lg_cmp_eq _ _).mp c237
                              replace h := it_pos c237 h
                              refine lv_aload_n hx hb dL_holds_284 rfl (lv_at hl 1 rfl) ?_
                              refine lv_iconst (v := 4) hx hb dL_holds_285 (by decide) ?_
                              refine lv_iload hx hb dL_holds_286 (lv_at hl 13 rfl) ?_
                              refine lv_iconst (v := 4) hx hb dL_holds_288 (by decide) ?_
                              refine lv_iconst (v := 0) hx hb dL_holds_289 (by decide) ?_
                              obtain ⟨r238, hr238, h⟩ := ob_some h
                              refine mw_wi (my_runS (As := [.ref (ad_p0 0), .int 4, .int x16, .int 4, .int 0]) (rest := []) hC hX hM hS (c_L_call_4 (ad_p0 := ad_p0) (s_p0 := s_p0) (hO_p0 := hO_p0) (hlt := hlt) (v := r238) hr238) gL_holds_L_call rfl rfl rfl q_L_call ⟨(Nat.le_of_ble_eq_true rfl), (Nat.le_of_ble_eq_true rfl)⟩ rfl rfl (Nat.le_of_ble_eq_true rfl) hl.1 dL_holds_290 ⟨(by dsimp only; omega), (by dsimp only; omega)⟩) hS (fun r9 H locs σ1 hp239 hM hS => ?_)
                              obtain ⟨hr9, hO9, hk240⟩ := hp239
                              replace hr9 := hr9.symm
                              subst hr9
                              replace hO_p0 := hO9
                              have hk241 := KEO.tr hk hk240
                              refine W.eq (g2 := F0 m 293 ls [.int r238]) rfl ?_
                              refine W.widen (k := (cc0 + 7)) (n := (ss0 + 42)) (by omega) (by omega) ?_
                              refine lv_if_le (tgt := 406) hx hb dL_holds_293 (by decide) (fun c242 => ?_) (fun c242 => ?_)
                              · replace h := it_pos c242 h
                                refine lv_iconst (v := 0) hx hb dL_holds_406 (by decide) ?_
                                refine W.widen (k := (cc0 + 8)) (n := (ss0 + 48)) (by omega) (by omega) ?_
                                refine W.eq (g2 := F0 m 407 ls [.int (b2i false)]) rfl ?_
                                exact J234 false _ _ _ hM hS hO_p0 hk241 h ls (lv_sub hl [1, 2, 3, 4, 5, 6, 7, 8, 9, 0, 10, 11, 12, 13] rfl)
                              · replace h := it_neg c242 h
                                refine lv_iload hx hb dL_holds_296 (lv_at hl 18 rfl) ?_
                                obtain ⟨k243, ek243, h⟩ := bnd_ex h
                                have J243 : ∀ (x243_0 : Bool) (H : Heap) (locs : List Loc) (σ1 : mwm), MW z D σ1 H → va_S (zA z) s.heap H locs → OB K ad_p0 σ1 s_p0 → KEO ad_p0 σ σ1 → k243 x243_0 = some v → ∀ ls : Array Slot, lv_has ls 30 [(0, .ref (ad_p0 0)), (1, .int u1), (2, .int u2), (3, .long u3), (5, .long u5), (7, .int x7), (8, .int x8), (9, .int (x9 + (b2i x151_0))), (10, .int (x10 + (b2i x232_0))), (11, .int (x11 + (b2i x233_0))), (12, .int x156_0), (13, .int x157_0), (14, .int u14), (16, .int x16), (22, .long r142), (24, .int r143), (26, .int r152)] → W p l e ({ frames := 74, cells := 1217, slots := 7302, locals := 3107 } : Room) s m ([.ref (ad_p0 0)] : List Value).toArray below meth c H locs (cc0 + 7) (ss0 + 42) (MQ below (qwI z D (fun r σ2 => r = b2i v ∧ OB K ad_p0 σ2 s_p0 ∧ KEO ad_p0 σ σ2)) ([.ref (ad_p0 0)] : List Value).toArray s 1217 7302 (zA z)) (F0 m 306 ls [.int (b2i x243_0)]) := by
                                  intro x243_0 H locs σ1 hM hS hO_p0 hk h ls hl
                                  rw [ek243] at h
                                  refine lv_lload hx hb dL_holds_306 (lv_at hl 14 rfl) ?_
                                  refine lv_lload_n hx hb dL_holds_308 rfl (lv_at hl 3 rfl) ?_
                                  refine lv_ldc2 (v := -1) hx hb hown (hts _ l_L_holds_0) dL_holds_309 ?_
                                  refine lv_lxor hx hb dL_holds_312 ?_
                                  refine lv_land hx hb dL_holds_313 ?_
                                  refine lv_lconst (v := 0) hx hb dL_holds_314 (by decide) ?_
                                  refine W.lcmp hx hb dL_holds_315 ?_
                                  obtain ⟨k244, ek244, h⟩ := bnd_ex h
                                  have J244 : ∀ (x244_0 : Bool) (H : Heap) (locs : List Loc) (σ1 : mwm), MW z D σ1 H → va_S (zA z) s.heap H locs → OB K ad_p0 σ1 s_p0 → KEO ad_p0 σ σ1 → k244 x244_0 = some v → ∀ ls : Array Slot, lv_has ls 30 [(0, .ref (ad_p0 0)), (1, .int u1), (2, .int u2), (3, .long u3), (5, .long u5), (7, .int x7), (8, .int x8), (9, .int (x9 + (b2i x151_0))), (10, .int (x10 + (b2i x232_0))), (11, .int (x11 + (b2i x233_0))), (12, .int x156_0), (13, .int x157_0), (14, .int u14), (16, .int x16), (24, .int r143), (26, .int r152)] → W p l e ({ frames := 74, cells := 1217, slots := 7302, locals := 3107 } : Room) s m ([.ref (ad_p0 0)] : List Value).toArray below meth c H locs (cc0 + 7) (ss0 + 42) (MQ below (qwI z D (fun r σ2 => r = b2i v ∧ OB K ad_p0 σ2 s_p0 ∧ KEO ad_p0 σ σ2)) ([.ref (ad_p0 0)] : List Value).toArray s 1217 7302 (zA z)) (F0 m 338 ls [.int (b2i x244_0), .int (b2i x243_0)]) := by
                                    intro x244_0 H locs σ1 hM hS hO_p0 hk h ls hl
                                    rw [ek244] at h
                                    refine lv_icmp_ne (tgt := 406) hx hb dL_holds_338 (by decide) (fun c245 => ?_) (fun c245 => ?_)
                                    · replace h := it_neg c245 h
                                      refine lv_iconst (v := 0) hx hb dL_holds_406 (by decide) ?_
                                      refine W.widen (k := (cc0 + 8)) (n := (ss0 + 48)) (by omega) (by omega) ?_
                                      refine W.eq (g2 := F0 m 407 ls [.int (b2i false)]) rfl ?_
                                      exact J234 false _ _ _ hM hS hO_p0 hk h ls (lv_sub hl [0, 1, 2, 3, 4, 5, 6, 7, 8, 9, 10, 11, 12, 13] rfl)
                                    · replace h := it_pos c245 h
                                      refine lv_iload hx hb dL_holds_341 (lv_at hl 14 rfl) ?_
                                      refine lv_iconst (v := 1) hx hb dL_holds_343 (by decide) ?_
                                      refine lv_icmp_eq (tgt := 406) hx hb dL_holds_344 (by decide) (fun c246 => ?_) (fun c246 => ?_)
                                      · replace h := it_pos c246 h
                                        refine lv_iconst (v := 0) hx hb dL_holds_406 (by decide) ?_
                                        refine W.widen (k := (cc0 + 8)) (n := (ss0 + 48)) (by omega) (by omega) ?_
                                        refine W.eq (g2 := F0 m 407 ls [.int (b2i false)]) rfl ?_
                                        exact J234 false _ _ _ hM hS hO_p0 hk h ls (lv_sub hl [0, 1, 2, 3, 4, 5, 6, 7, 8, 9, 10, 11, 12, 13] rfl)
                                      · replace h := it_neg c246 h
                                        refine lv_iload hx hb dL_holds_347 (lv_at hl 14 rfl) ?_
                                        obtain ⟨k247, ek247, h⟩ := bnd_ex h
                                        have J247 : ∀ (x247_0 : Bool) (H : Heap) (locs : List Loc) (σ1 : mwm), MW z D σ1 H → va_S (zA z) s.heap H locs → OB K ad_p0 σ1 s_p0 → KEO ad_p0 σ σ1 → k247 x247_0 = some v → ∀ ls : Array Slot, lv_has ls 30 [(0, .ref (ad_p0 0)), (1, .int u1), (2, .int u2), (3, .long u3), (5, .long u5), (7, .int x7), (8, .int x8), (9, .int (x9 + (b2i x151_0))), (10, .int (x10 + (b2i x232_0))), (11, .int (x11 + (b2i x233_0))), (12, .int x156_0), (13, .int x157_0), (14, .int u14), (16, .int x16), (24, .int r143), (26, .int r152)] → W p l e ({ frames := 74, cells := 1217, slots := 7302, locals := 3107 } : Room) s m ([.ref (ad_p0 0)] : List Value).toArray below meth c H locs (cc0 + 7) (ss0 + 42) (MQ below (qwI z D (fun r σ2 => r = b2i v ∧ OB K ad_p0 σ2 s_p0 ∧ KEO ad_p0 σ σ2)) ([.ref (ad_p0 0)] : List Value).toArray s 1217 7302 (zA z)) (F0 m 357 ls [.int (b2i x247_0)]) := by
                                          intro x247_0 H locs σ1 hM hS hO_p0 hk h ls hl
                                          rw [ek247] at h
                                          refine lv_iload hx hb dL_holds_357 (lv_at hl 15 rfl) ?_
                                          refine lv_iconst (v := -1) hx hb dL_holds_359 (by decide) ?_
                                          obtain ⟨k248, ek248, h⟩ := bnd_ex h
                                          have J248 : ∀ (x248_0 : Bool) (H : Heap) (locs : List Loc) (σ1 : mwm), MW z D σ1 H → va_S (zA z) s.heap H locs → OB K ad_p0 σ1 s_p0 → KEO ad_p0 σ σ1 → k248 x248_0 = some v → ∀ ls : Array Slot, lv_has ls 30 [(0, .ref (ad_p0 0)), (1, .int u1), (2, .int u2), (3, .long u3), (5, .long u5), (7, .int x7), (8, .int x8), (9, .int (x9 + (b2i x151_0))), (10, .int (x10 + (b2i x232_0))), (11, .int (x11 + (b2i x233_0))), (12, .int x156_0), (13, .int x157_0), (14, .int u14), (16, .int x16), (24, .int r143)] → W p l e ({ frames := 74, cells := 1217, slots := 7302, locals := 3107 } : Room) s m ([.ref (ad_p0 0)] : List Value).toArray below meth c H locs (cc0 + 7) (ss0 + 42) (MQ below (qwI z D (fun r σ2 => r = b2i v ∧ OB K ad_p0 σ2 s_p0 ∧ KEO ad_p0 σ σ2)) ([.ref (ad_p0 0)] : List Value).toArray s 1217 7302 (zA z)) (F0 m 368 ls [.int (b2i x248_0), .int (b2i x247_0)]) := by
                                            intro x248_0 H locs σ1 hM hS hO_p0 hk h ls hl
                                            rw [ek248] at h
                                            refine lv_icmp_ne (tgt := 406) hx hb dL_holds_368 (by decide) (fun c249 => ?_) (fun c249 => ?_)
                                            · replace h := it_neg c249 h
                                              refine lv_iconst (v := 0) hx hb dL_holds_406 (by decide) ?_
                                              refine W.widen (k := (cc0 + 8)) (n := (ss0 + 48)) (by omega) (by omega) ?_
                                              refine W.eq (g2 := F0 m 407 ls [.int (b2i false)]) rfl ?_
                                              exact J234 false _ _ _ hM hS hO_p0 hk h ls (lv_sub hl [0, 1, 2, 3, 4, 5, 6, 7, 8, 9, 10, 11, 12, 13] rfl)
                                            · replace h := it_pos c249 h
                                              refine lv_iload hx hb dL_holds_371 (lv_at hl 14 rfl) ?_
                                              obtain ⟨k250, ek250, h⟩ := bnd_ex h
                                              have J250 : ∀ (x250_0 : Bool) (H : Heap) (locs : List Loc) (σ1 : mwm), MW z D σ1 H → va_S (zA z) s.heap H locs → OB K ad_p0 σ1 s_p0 → KEO ad_p0 σ σ1 → k250 x250_0 = some v → ∀ ls : Array Slot, lv_has ls 30 [(0, .ref (ad_p0 0)), (1, .int u1), (2, .int u2), (3, .long u3), (5, .long u5), (7, .int x7), (8, .int x8), (9, .int (x9 + (b2i x151_0))), (10, .int (x10 + (b2i x232_0))), (11, .int (x11 + (b2i x233_0))), (12, .int x156_0), (13, .int x157_0), (14, .int u14), (16, .int x16)] → W p l e ({ frames := 74, cells := 1217, slots := 7302, locals := 3107 } : Room) s m ([.ref (ad_p0 0)] : List Value).toArray below meth c H locs (cc0 + 7) (ss0 + 42) (MQ below (qwI z D (fun r σ2 => r = b2i v ∧ OB K ad_p0 σ2 s_p0 ∧ KEO ad_p0 σ σ2)) ([.ref (ad_p0 0)] : List Value).toArray s 1217 7302 (zA z)) (F0 m 381 ls [.int (b2i x250_0)]) := by
                                                intro x250_0 H locs σ1 hM hS hO_p0 hk h ls hl
                                                rw [ek250] at h
                                                refine lv_aload_n hx hb dL_holds_381 rfl (lv_at hl 0 rfl) ?_
                                                refine lv_bipush (v := 11) hx hb dL_holds_382 (by decide) ?_
                                                refine lv_iload hx hb dL_holds_384 (lv_at hl 13 rfl) ?_
                                                refine lv_iconst (v := 1) hx hb dL_holds_386 (by decide) ?_
                                                refine lv_iconst (v := 0) hx hb dL_holds_387 (by decide) ?_
                                                obtain ⟨r251, hr251, h⟩ := ob_some h
                                                refine mw_wi (my_runS (As := [.ref (ad_p0 0), .int 11, .int x16, .int 1, .int 0]) (rest := [.int (b2i x250_0)]) hC hX hM hS (c_L_call_11 (ad_p0 := ad_p0) (s_p0 := s_p0) (hO_p0 := hO_p0) (hlt := hlt) (v := r251) hr251) gL_holds_L_call rfl rfl rfl q_L_call ⟨(Nat.le_of_ble_eq_true rfl), (Nat.le_of_ble_eq_true rfl)⟩ rfl rfl (Nat.le_of_ble_eq_true rfl) hl.1 dL_holds_388 ⟨(by dsimp only; omega), (by dsimp only; omega)⟩) hS (fun r9 H locs σ1 hp252 hM hS => ?_)
                                                obtain ⟨hr9, hO9, hk253⟩ := hp252
                                                replace hr9 := hr9.symm
                                                subst hr9
                                                replace hO_p0 := hO9
                                                have hk254 := KEO.tr hk hk253
                                                refine W.eq (g2 := F0 m 391 ls [.int r251, .int (b2i x250_0)]) rfl ?_
                                                refine W.widen (k := (cc0 + 8)) (n := (ss0 + 48)) (by omega) (by omega) ?_
                                                obtain ⟨k255, ek255, h⟩ := bnd_ex h
                                                have J255 : ∀ (x255_0 : Bool) (H : Heap) (locs : List Loc) (σ1 : mwm), MW z D σ1 H → va_S (zA z) s.heap H locs → OB K ad_p0 σ1 s_p0 → KEO ad_p0 σ σ1 → k255 x255_0 = some v → ∀ ls : Array Slot, lv_has ls 30 [(0, .ref (ad_p0 0)), (1, .int u1), (2, .int u2), (3, .long u3), (5, .long u5), (7, .int x7), (8, .int x8), (9, .int (x9 + (b2i x151_0))), (10, .int (x10 + (b2i x232_0))), (11, .int (x11 + (b2i x233_0))), (12, .int x156_0), (13, .int x157_0), (14, .int u14), (16, .int x16)] → W p l e ({ frames := 74, cells := 1217, slots := 7302, locals := 3107 } : Room) s m ([.ref (ad_p0 0)] : List Value).toArray below meth c H locs (cc0 + 8) (ss0 + 48) (MQ below (qwI z D (fun r σ2 => r = b2i v ∧ OB K ad_p0 σ2 s_p0 ∧ KEO ad_p0 σ σ2)) ([.ref (ad_p0 0)] : List Value).toArray s 1217 7302 (zA z)) (F0 m 399 ls [.int (b2i x255_0), .int (b2i x250_0)]) := by
                                                  intro x255_0 H locs σ1 hM hS hO_p0 hk h ls hl
                                                  rw [ek255] at h
                                                  refine lv_icmp_ne (tgt := 406) hx hb dL_holds_399 (by decide) (fun c256 => ?_) (fun c256 => ?_)
                                                  · replace h := it_neg c256 h
                                                    refine lv_iconst (v := 0) hx hb dL_holds_406 (by decide) ?_
                                                    refine W.eq (g2 := F0 m 407 ls [.int (b2i false)]) rfl ?_
                                                    exact J234 false _ _ _ hM hS hO_p0 hk h ls (lv_sub hl [0, 1, 2, 3, 4, 5, 6, 7, 8, 9, 10, 11, 12, 13] rfl)
                                                  · replace h := it_pos c256 h
                                                    refine lv_iconst (v := 1) hx hb dL_holds_402 (by decide) ?_
                                                    refine lv_goto (tgt := 407) hx hb dL_holds_403 (by decide) ?_
                                                    refine W.eq (g2 := F0 m 407 ls [.int (b2i true)]) rfl ?_
                                                    exact J234 true _ _ _ hM hS hO_p0 hk h ls (lv_sub hl [0, 1, 2, 3, 4, 5, 6, 7, 8, 9, 10, 11, 12, 13] rfl)
                                                refine lv_if_le (tgt := 398) hx hb dL_holds_391 (by decide) (fun c257 => ?_) (fun c257 => ?_)
                                                · replace h := it_pos c257 h
                                                  refine lv_iconst (v := 0) hx hb dL_holds_398 (by decide) ?_
                                                  refine W.eq (g2 := F0 m 399 ls [.int (b2i false), .int (b2i x250_0)]) rfl ?_
                                                  exact J255 false _ _ _ hM hS hO_p0 hk254 h ls (lv_sub hl [0, 1, 2, 3, 4, 5, 6, 7, 8, 9, 10, 11, 12, 13] rfl)
                                                · replace h := it_neg c257 h
                                                  refine lv_iconst (v := 1) hx hb dL_holds_394 (by decide) ?_
                                                  refine lv_goto (tgt := 399) hx hb dL_holds_395 (by decide) ?_
                                                  refine W.eq (g2 := F0 m 399 ls [.int (b2i true), .int (b2i x250_0)]) rfl ?_
                                                  exact J255 true _ _ _ hM hS hO_p0 hk254 h ls (lv_sub hl [0, 1, 2, 3, 4, 5, 6, 7, 8, 9, 10, 11, 12, 13] rfl)
                                              refine lv_if_ne (tgt := 380) hx hb dL_holds_373 (by decide) (fun c258 => ?_) (fun c258 => ?_)
                                              · replace h := it_neg c258 h
                                                refine lv_iconst (v := 0) hx hb dL_holds_380 (by decide) ?_
                                                refine W.eq (g2 := F0 m 381 ls [.int (b2i false)]) rfl ?_
                                                exact J250 false _ _ _ hM hS hO_p0 hk h ls (lv_sub hl [0, 1, 2, 3, 4, 5, 6, 7, 8, 9, 10, 11, 12, 13] rfl)
                                              · replace h := it_pos c258 h
                                                refine lv_iconst (v := 1) hx hb dL_holds_376 (by decide) ?_
                                                refine lv_goto (tgt := 381) hx hb dL_holds_377 (by decide) ?_
                                                refine W.eq (g2 := F0 m 381 ls [.int (b2i true)]) rfl ?_
                                                exact J250 true _ _ _ hM hS hO_p0 hk h ls (lv_sub hl [0, 1, 2, 3, 4, 5, 6, 7, 8, 9, 10, 11, 12, 13] rfl)
                                          refine lv_icmp_eq (tgt := 367) hx hb dL_holds_360 (by decide) (fun c259 => ?_) (fun c259 => ?_)
                                          · replace h := it_pos c259 h
                                            refine lv_iconst (v := 0) hx hb dL_holds_367 (by decide) ?_
                                            refine W.eq (g2 := F0 m 368 ls [.int (b2i false), .int (b2i x247_0)]) rfl ?_
                                            exact J248 false _ _ _ hM hS hO_p0 hk h ls (lv_sub hl [0, 1, 2, 3, 4, 5, 6, 7, 8, 9, 10, 11, 12, 13, 14] rfl)
                                          · replace h := it_neg c259 h
                                            refine lv_iconst (v := 1) hx hb dL_holds_363 (by decide) ?_
                                            refine lv_goto (tgt := 368) hx hb dL_holds_364 (by decide) ?_
                                            refine W.eq (g2 := F0 m 368 ls [.int (b2i true), .int (b2i x247_0)]) rfl ?_
                                            exact J248 true _ _ _ hM hS hO_p0 hk h ls (lv_sub hl [0, 1, 2, 3, 4, 5, 6, 7, 8, 9, 10, 11, 12, 13, 14] rfl)
                                        refine lv_if_ne (tgt := 356) hx hb dL_holds_349 (by decide) (fun c260 => ?_) (fun c260 => ?_)
                                        · replace h := it_neg c260 h
                                          refine lv_iconst (v := 0) hx hb dL_holds_356 (by decide) ?_
                                          refine W.eq (g2 := F0 m 357 ls [.int (b2i false)]) rfl ?_
                                          exact J247 false _ _ _ hM hS hO_p0 hk h ls (lv_sub hl [0, 1, 2, 3, 4, 5, 6, 7, 8, 9, 10, 11, 12, 13, 14, 15] rfl)
                                        · replace h := it_pos c260 h
                                          refine lv_iconst (v := 1) hx hb dL_holds_352 (by decide) ?_
                                          refine lv_goto (tgt := 357) hx hb dL_holds_353 (by decide) ?_
                                          refine W.eq (g2 := F0 m 357 ls [.int (b2i true)]) rfl ?_
                                          exact J247 true _ _ _ hM hS hO_p0 hk h ls (lv_sub hl [0, 1, 2, 3, 4, 5, 6, 7, 8, 9, 10, 11, 12, 13, 14, 15] rfl)
                                  refine lv_if_eq (tgt := 333) hx hb dL_holds_316 (by decide) (fun c261 => ?_) (fun c261 => ?_)
                                  · replace c261 := (lg_cmp_eq _ _).mp c261
                                    replace h := it_pos c261 h
                                    refine lv_iconst (v := 1) hx hb dL_holds_333 (by decide) ?_
                                    refine lv_goto (tgt := 338) hx hb dL_holds_334 (by decide) ?_
                                    refine W.eq (g2 := F0 m 338 ls [.int (b2i true), .int (b2i x243_0)]) rfl ?_
                                    exact J244 true _ _ _ hM hS hO_p0 hk h ls (lv_sub hl [0, 1, 2, 3, 4, 5, 6, 7, 8, 9, 10, 11, 12, 13, 15, 16] rfl)
                                  · replace c261 := mt (lg_cmp_eq _ _).mpr c261
                                    replace h := it_neg c261 h
                                    refine lv_lload hx hb dL_holds_319 (lv_at hl 14 rfl) ?_
                                    refine lv_lload hx hb dL_holds_321 (lv_at hl 4 rfl) ?_
                                    refine lv_ldc2 (v := -1) hx hb hown (hts _ l_L_holds_0) dL_holds_323 ?_
                                    refine lv_lxor hx hb dL_holds_326 ?_
                                    refine lv_land hx hb dL_holds_327 ?_
                                    refine lv_lconst (v := 0) hx hb dL_holds_328 (by decide) ?_
                                    refine W.lcmp hx hb dL_holds_329 ?_
                                    refine lv_if_ne (tgt := 337) hx hb dL_holds_330 (by decide) (fun c262 => ?_) (fun c262 => ?_)
                                    · replace c262 := mt (lg_cmp_eq _ _).mpr c262
                                      replace h := it_neg c262 h
                                      refine lv_iconst (v := 0) hx hb dL_holds_337 (by decide) ?_
                                      refine W.eq (g2 := F0 m 338 ls [.int (b2i false), .int (b2i x243_0)]) rfl ?_
                                      exact J244 false _ _ _ hM hS hO_p0 hk h ls (lv_sub hl [0, 1, 2, 3, 4, 5, 6, 7, 8, 9, 10, 11, 12, 13, 15, 16] rfl)
                                    · replace c262 := (lg_cmp_eq _ _).mp c262
                                      replace h := it_pos c262 h
                                      refine lv_iconst (v := 1) hx hb dL_holds_333 (by decide) ?_
                                      refine lv_goto (tgt := 338) hx hb dL_holds_334 (by decide) ?_
                                      refine W.eq (g2 := F0 m 338 ls [.int (b2i true), .int (b2i x243_0)]) rfl ?_
                                      exact J244 true _ _ _ hM hS hO_p0 hk h ls (lv_sub hl [0, 1, 2, 3, 4, 5, 6, 7, 8, 9, 10, 11, 12, 13, 15, 16] rfl)
                                refine lv_if_le (tgt := 305) hx hb dL_holds_298 (by decide) (fun c263 => ?_) (fun c263 => ?_)
                                · replace h := it_pos c263 h
                                  refine lv_iconst (v := 0) hx hb dL_holds_305 (by decide) ?_
                                  refine W.eq (g2 := F0 m 306 ls [.int (b2i false)]) rfl ?_
                                  exact J243 false _ _ _ hM hS hO_p0 hk241 h ls (lv_sub hl [1, 2, 3, 4, 5, 6, 7, 8, 9, 0, 10, 11, 12, 13, 16, 17, 19] rfl)
                                · replace h := it_neg c263 h
                                  refine lv_iconst (v := 1) hx hb dL_holds_301 (by decide) ?_
                                  refine lv_goto (tgt := 306) hx hb dL_holds_302 (by decide) ?_
                                  refine W.eq (g2 := F0 m 306 ls [.int (b2i true)]) rfl ?_
                                  exact J243 true _ _ _ hM hS hO_p0 hk241 h ls (lv_sub hl [1, 2, 3, 4, 5, 6, 7, 8, 9, 0, 10, 11, 12, 13, 16, 17, 19] rfl)
                      refine lv_icmp_ne (tgt := 252) hx hb dL_holds_245 (by decide) (fun c264 => ?_) (fun c264 => ?_)
                      · replace h := it_neg c264 h
                        refine lv_iconst (v := 0) hx hb dL_holds_252 (by decide) ?_
                        refine W.eq (g2 := F0 m 253 ls [.int (b2i false), .int x11]) rfl ?_
                        exact J233 false _ _ _ hM hS hO_p0 hk h ls (lv_sub hl [1, 2, 3, 4, 5, 6, 7, 8, 0, 10, 11, 12, 13, 14, 15, 16, 17, 18, 19] rfl)
                      · replace h := it_pos c264 h
                        refine lv_iconst (v := 1) hx hb dL_holds_248 (by decide) ?_
                        refine lv_goto (tgt := 253) hx hb dL_holds_249 (by decide) ?_
                        refine W.eq (g2 := F0 m 253 ls [.int (b2i true), .int x11]) rfl ?_
                        exact J233 true _ _ _ hM hS hO_p0 hk h ls (lv_sub hl [1, 2, 3, 4, 5, 6, 7, 8, 0, 10, 11, 12, 13, 14, 15, 16, 17, 18, 19] rfl)
                    refine lv_icmp_ne (tgt := 236) hx hb dL_holds_229 (by decide) (fun c265 => ?_) (fun c265 => ?_)
                    · replace h := it_neg c265 h
                      refine lv_iconst (v := 0) hx hb dL_holds_236 (by decide) ?_
                      refine W.eq (g2 := F0 m 237 ls [.int (b2i false), .int x10]) rfl ?_
                      exact J232 false _ _ _ hM hS hO_p0 hk h ls (lv_sub hl [1, 2, 3, 4, 5, 6, 7, 8, 10, 11, 0, 12, 13, 15, 16, 17, 18, 19, 20] rfl)
                    · replace h := it_pos c265 h
                      refine lv_iconst (v := 1) hx hb dL_holds_232 (by decide) ?_
                      refine lv_goto (tgt := 237) hx hb dL_holds_233 (by decide) ?_
                      refine W.eq (g2 := F0 m 237 ls [.int (b2i true), .int x10]) rfl ?_
                      exact J232 true _ _ _ hM hS hO_p0 hk h ls (lv_sub hl [1, 2, 3, 4, 5, 6, 7, 8, 10, 11, 0, 12, 13, 15, 16, 17, 18, 19, 20] rfl)
                refine lv_icmp_le (tgt := 214) hx hb dL_holds_206 (by decide) (fun c266 => ?_) (fun c266 => ?_)
                · replace h := it_pos c266 h
                  refine lv_iload hx hb dL_holds_214 (lv_at hl 11 rfl) ?_
                  exact J157 x13 _ _ _ hM hS hO_p0 hk h ls (lv_sub hl [1, 2, 3, 4, 5, 6, 7, 8, 9, 10, 0, 12, 13, 14, 15, 16, 17, 18, 19, 20] rfl)
                · replace h := it_neg c266 h
                  refine lv_iload hx hb dL_holds_209 (lv_at hl 20 rfl) ?_
                  refine lv_goto (tgt := 216) hx hb dL_holds_211 (by decide) ?_
                  exact J157 r152 _ _ _ hM hS hO_p0 hk h ls (lv_sub hl [1, 2, 3, 4, 5, 6, 7, 8, 9, 10, 0, 12, 13, 14, 15, 16, 17, 18, 19, 20] rfl)
              refine lv_icmp_le (tgt := 198) hx hb dL_holds_190 (by decide) (fun c267 => ?_) (fun c267 => ?_)
              · replace h := it_pos c267 h
                refine lv_iload hx hb dL_holds_198 (lv_at hl 11 rfl) ?_
                exact J156 x12 _ _ _ hM hS hO_p0 hk155 h ls (lv_sub hl [2, 3, 4, 5, 6, 7, 8, 1, 9, 10, 12, 13, 14, 15, 16, 17, 18, 19, 20, 0] rfl)
              · replace h := it_neg c267 h
                refine lv_iload hx hb dL_holds_193 (lv_at hl 14 rfl) ?_
                refine lv_goto (tgt := 200) hx hb dL_holds_195 (by decide) ?_
                exact J156 x16 _ _ _ hM hS hO_p0 hk155 h ls (lv_sub hl [2, 3, 4, 5, 6, 7, 8, 1, 9, 10, 12, 13, 14, 15, 16, 17, 18, 19, 20, 0] rfl)
            refine lv_if_ne (tgt := 170) hx hb dL_holds_163 (by decide) (fun c268 => ?_) (fun c268 => ?_)
            · replace h := it_neg c268 h
              refine lv_iconst (v := 0) hx hb dL_holds_170 (by decide) ?_
              refine W.eq (g2 := F0 m 171 ls [.int (b2i false), .int x9]) rfl ?_
              exact J151 false _ _ _ hM hS hO_p0 hk150 h ls (lv_sub hl [6, 7, 8, 9, 10, 12, 13, 15, 16, 17, 18, 11, 20, 5, 4, 3, 2, 1, 0] rfl)
            · replace h := it_pos c268 h
              refine lv_iconst (v := 1) hx hb dL_holds_166 (by decide) ?_
              refine lv_goto (tgt := 171) hx hb dL_holds_167 (by decide) ?_
              refine W.eq (g2 := F0 m 171 ls [.int (b2i true), .int x9]) rfl ?_
              exact J151 true _ _ _ hM hS hO_p0 hk150 h ls (lv_sub hl [6, 7, 8, 9, 10, 12, 13, 15, 16, 17, 18, 11, 20, 5, 4, 3, 2, 1, 0] rfl)
    exact L89 r1 (r1 * r1) r4 r8 (r12 - r13) 60 (0 : Int32) (0 : Int32) (0 : Int32) (0 : Int32) (0 : Int32) ((-1) : Int32) (0 : Int32) x14_0 (0 : Int32) 3 18 _ _ _ (Nat.le_of_ble_eq_true rfl) (Nat.le_of_ble_eq_true rfl) hM hS hO_p0 hk h ls (lv_sub hl [2, 3, 4, 5, 6, 14, 7, 8, 9, 10, 11, 12, 13, 1, 0] rfl)
  refine lv_if_ne (tgt := 83) hx hb dL_holds_65 (by decide) (fun c269 => ?_) (fun c269 => ?_)
  · replace c269 := mt (lg_cmp_eq _ _).mpr c269
    replace h := it_neg c269 h
    refine lv_iconst (v := 0) hx hb dL_holds_83 (by decide) ?_
    refine W.eq (g2 := F0 m 84 ls [.int (b2i false)]) rfl ?_
    exact J14 false _ _ _ hM hS hO_p0 hk11 h ls (lv_sub hl [12, 11, 10, 9, 8, 7, 6, 5, 4, 3, 2, 1, 0] rfl)
  · replace c269 := (lg_cmp_eq _ _).mp c269
    replace h := it_pos c269 h
    refine lv_lload_n hx hb dL_holds_68 rfl (lv_at hl 9 rfl) ?_
    refine lv_lload hx hb dL_holds_69 (lv_at hl 8 rfl) ?_
    refine lv_lor hx hb dL_holds_71 ?_
    refine lv_iload_n hx hb dL_holds_72 rfl (lv_at hl 10 rfl) ?_
    refine lv_lushr (v := (ushrL (r4 ||| r8) (r1 * r1))) hx hb dL_holds_73 rfl ?_
    refine lv_lconst (v := 0) hx hb dL_holds_74 (by decide) ?_
    refine W.lcmp hx hb dL_holds_75 ?_
    refine lv_if_ne (tgt := 83) hx hb dL_holds_76 (by decide) (fun c270 => ?_) (fun c270 => ?_)
    · replace c270 := mt (lg_cmp_eq _ _).mpr c270
      replace h := it_neg c270 h
      refine lv_iconst (v := 0) hx hb dL_holds_83 (by decide) ?_
      refine W.eq (g2 := F0 m 84 ls [.int (b2i false)]) rfl ?_
      exact J14 false _ _ _ hM hS hO_p0 hk11 h ls (lv_sub hl [12, 11, 10, 9, 8, 7, 6, 5, 4, 3, 2, 1, 0] rfl)
    · replace c270 := (lg_cmp_eq _ _).mp c270
      replace h := it_pos c270 h
      refine lv_iconst (v := 1) hx hb dL_holds_79 (by decide) ?_
      refine lv_goto (tgt := 84) hx hb dL_holds_80 (by decide) ?_
      refine W.eq (g2 := F0 m 84 ls [.int (b2i true)]) rfl ?_
      exact J14 true _ _ _ hM hS hO_p0 hk11 h ls (lv_sub hl [12, 11, 10, 9, 8, 7, 6, 5, 4, 3, 2, 1, 0] rfl)
