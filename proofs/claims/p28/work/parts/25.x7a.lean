theorem a_X7_append_A : ∀ w ∈ (vx_atS RX7 54 "java/lang/IllegalArgumentException" ["java/lang/RuntimeException", "java/lang/Exception"]).filter goodWord, w ∈ wsX7_append := fun _ h => (List.mem_cons_of_mem _ (List.mem_append_left _ (List.mem_append_right _ h)))
theorem l_X7_append_1 : Cond.classLink RX7 50 "java/lang/IllegalArgumentException" ∈ wsX7_append := (List.mem_cons_of_mem _ (List.mem_append_left _ (List.mem_append_left _ (List.mem_append_left _ (List.mem_append_left _ (List.mem_of_getElem? (i := 0) rfl))))))
theorem l_X7_append_2 : Cond.initialized "java/lang/IllegalArgumentException" ∈ wsX7_append := (List.mem_cons_of_mem _ (List.mem_append_left _ (List.mem_append_left _ (List.mem_append_left _ (List.mem_append_left _ (List.mem_of_getElem? (i := 1) rfl))))))
theorem l_X7_append_3 : Cond.fieldLink RX7 17 "CornerStones" "text" "LCornerStones$GameText;" ∈ wsX7_append := (List.mem_cons_of_mem _ (List.mem_append_left _ (List.mem_append_left _ (List.mem_append_left _ (List.mem_append_left _ (List.mem_of_getElem? (i := 4) rfl))))))
theorem i_X7_append_X7 : ∀ w ∈ wsX70, w ∈ wsX7_append := fun _ h => (List.mem_cons_of_mem _ (List.mem_append_left _ (List.mem_append_left _ (List.mem_append_left _ (List.mem_append_right _ h)))))
theorem a_X7_append_S : ∀ w ∈ (vx_atS RX7 65 "java/lang/IllegalStateException" ["java/lang/RuntimeException", "java/lang/Exception"]).filter goodWord, w ∈ wsX7_append := fun _ h => (List.mem_cons_of_mem _ (List.mem_append_right _ h))
theorem l_X7_append_6 : Cond.classLink RX7 61 "java/lang/IllegalStateException" ∈ wsX7_append := (List.mem_cons_of_mem _ (List.mem_append_left _ (List.mem_append_left _ (List.mem_append_left _ (List.mem_append_left _ (List.mem_of_getElem? (i := 2) rfl))))))
theorem l_X7_append_7 : Cond.initialized "java/lang/IllegalStateException" ∈ wsX7_append := (List.mem_cons_of_mem _ (List.mem_append_left _ (List.mem_append_left _ (List.mem_append_left _ (List.mem_append_left _ (List.mem_of_getElem? (i := 3) rfl))))))
theorem q_X7_append : yX7_append.cls ≠ "java/lang/invoke/MethodHandle" ∧ yX7_append.cls ≠ "java/lang/invoke/VarHandle" ∧ (parseMethodDescriptor yX7_append.desc).map (fun d => d.parameters.length) = some 1 := by decide +kernel
def fX7_append (w_t_text : Int32) (f_t_text_characters : Nat → Int32) (p0 : Int32) : Option (String ⊕ (Int32 × Int32 × (Nat → Int32))) := if p0 < 0 then (some (Sum.inl "java/lang/IllegalArgumentException")) else (if p0 ≤ 255 then (if (fX1_isFull w_t_text) = true then (some (Sum.inl "java/lang/IllegalStateException")) else ((fX1_add w_t_text f_t_text_characters ((p0.toUInt32 % 65536).toInt32)).bind fun r4 => some (Sum.inr ((r4.1, r4.2.1, r4.2.2))))) else (some (Sum.inl "java/lang/IllegalArgumentException")))
set_option maxHeartbeats 4000000 in
set_option maxRecDepth 100000 in
theorem c_X7_append {l : Launch} {z : Nat} {D : va_G} {K : Nat → ClassId} {σ : mwm} {a_t a_t_text a_t_now a_t_copy a_t_memory a_t_slot0 a_t_slot1 a_t_text_characters : Nat} {w_t_text : Int32} {f_t_text_characters : Nat → Int32} {p0 : Int32} (hc_t : σ a_t = some (cl5 a_t_text a_t_now a_t_copy a_t_memory a_t_slot0 a_t_slot1)) (hc_t_text : σ a_t_text = some (cl1 a_t_text_characters w_t_text)) (hc_t_text_characters : σ a_t_text_characters = some (eC K 120 f_t_text_characters)) (n_t_text_t_text_characters : a_t_text ≠ a_t_text_characters) (hlt : l.stackTraces = false) {v : String ⊕ (Int32 × Int32 × (Nat → Int32))} (h : fX7_append w_t_text f_t_text_characters p0 = some v) : vx_Met l yX7_append wsX7_append ({ frames := 6, cells := 1, slots := 6, locals := 99 } : Room) (PCx z D K [.ref a_t, .int p0] σ) (qwI z D (fun r σ2 => ∃ w9 : Int32 × Int32 × (Nat → Int32), v = Sum.inr w9 ∧ r = w9.1 ∧ σ2 a_t_text = some (cl1 a_t_text_characters w9.2.1) ∧ σ2 a_t_text_characters = some (eC K 120 w9.2.2) ∧ ∀ (q : Nat) (f : va_E), σ q = some f → q ≠ a_t_text → q ≠ a_t_text_characters → σ2 q = some f)) (XQ z D σ v) 1 6 (zA z) := by
  refine mx_enter (cc := cX7_append) (maxL := 2) (ret := (some .int)) (own := RX7) (lv := [(0, .ref a_t), (1, .int p0)]) (by decide) rfl rfl (Nat.le_of_ble_eq_true rfl) rfl ?_
  intro p e s m below meth c ls hC hx hb hown hts hK hr hlocks hnm hz hM hS hl hX hex
  unfold fX7_append at h
  refine lv_iload_n hx hb dX7_append_0 rfl (lv_at hl 1 rfl) ?_
  refine lv_if_lt (tgt := 11) hx hb dX7_append_1 (by decide) (fun c1 => ?_) (fun c1 => ?_)
  · replace h := it_pos c1 h
    cases h
    exact mx_throw hC hX hlt hM hS rfl (by decide +kernel) l_X7_append_1 l_X7_append_2 (sx_52 hX.2.2.1) a_X7_append_A xb_A (xc_A hX) xg_A hl.1 dX7_append_11 dX7_append_14 dX7_append_15 dX7_append_17 dX7_append_20 hex (Nat.le_of_ble_eq_true rfl) (Nat.le_of_ble_eq_true rfl) (Nat.le_of_ble_eq_true rfl) (Nat.le_of_ble_eq_true rfl) hlocks (Nat.le_of_ble_eq_true rfl) (Nat.le_of_ble_eq_true rfl)
  · replace h := it_neg c1 h
    refine lv_iload_n hx hb dX7_append_4 rfl (lv_at hl 1 rfl) ?_
    refine lv_sipush (v := 255) hx hb dX7_append_5 (by decide) ?_
    refine lv_icmp_le (tgt := 21) hx hb dX7_append_8 (by decide) (fun c2 => ?_) (fun c2 => ?_)
    · replace h := it_pos c2 h
      refine lv_aload_n hx hb dX7_append_21 rfl (lv_at hl 0 rfl) ?_
      refine mw_get (ci := 5) (C := RX7) (T := TX7) (N := 6) (v := .ref a_t_text) hC i_X7_append_X7 hM hc_t rfl 0 (by decide) l_X7_append_3 rfl rfl dX7_append_22 ?_
      refine mw_ci (mw_runV (As := []) (rest := []) (ci := 1) (C := RX1) (T := TX1) (N := 2) hC hM hS hc_t_text rfl (c_X1_isFull (a_t := a_t_text) (a_t_characters := a_t_text_characters) (w_t := w_t_text) (hc_t := hc_t_text) (v := (fX1_isFull w_t_text)) rfl) gX7_append_X1_isFull rfl rfl rfl rfl q_X1_isFull ⟨Nat.le_of_ble_eq_true rfl, Nat.le_of_ble_eq_true rfl⟩ rfl rfl (Nat.le_of_ble_eq_true rfl) hl.1 dX7_append_25 ⟨Nat.le_of_ble_eq_true rfl, Nat.le_of_ble_eq_true rfl⟩) ?_
      refine lv_if_eq (tgt := 41) hx hb dX7_append_28 (by decide) (fun c3 => ?_) (fun c3 => ?_)
      · replace c3 := b2i_eq0.mp c3
        replace h := it_neg c3 h
        refine lv_aload_n hx hb dX7_append_41 rfl (lv_at hl 0 rfl) ?_
        refine mw_get (ci := 5) (C := RX7) (T := TX7) (N := 6) (v := .ref a_t_text) hC i_X7_append_X7 hM hc_t rfl 0 (by decide) l_X7_append_3 rfl rfl dX7_append_42 ?_
        refine lv_iload_n hx hb dX7_append_45 rfl (lv_at hl 1 rfl) ?_
        refine lv_i2c hx hb dX7_append_46 rfl ?_
        obtain ⟨r4, hr4, h⟩ := ob_some h
        refine mw_wi (mw_runV (As := [.int ((p0.toUInt32 % 65536).toInt32)]) (rest := []) (ci := 1) (C := RX1) (T := TX1) (N := 2) hC hM hS hc_t_text rfl (c_X1_add (a_t := a_t_text) (a_t_characters := a_t_text_characters) (w_t := w_t_text) (f_t_characters := f_t_text_characters) (p0 := (p0.toUInt32 % 65536).toInt32) (hc_t := hc_t_text) (hc_t_characters := hc_t_text_characters) (n_t_t_characters := n_t_text_t_text_characters) (v := r4) hr4) gX7_append_X1_add rfl rfl rfl rfl q_X1_add ⟨Nat.le_of_ble_eq_true rfl, Nat.le_of_ble_eq_true rfl⟩ rfl rfl (Nat.le_of_ble_eq_true rfl) hl.1 dX7_append_47 ⟨Nat.le_of_ble_eq_true rfl, Nat.le_of_ble_eq_true rfl⟩) hS (fun r9 H locs σ1 hp6 hM hS => ?_)
        obtain ⟨rfl, hc_t_text, hc_t_text_characters, ho5⟩ := hp6
        have hf7 := fun (q : Nat) (f : va_E) (hf : σ q = some f) (n0 : q ≠ a_t_text) (n1 : q ≠ a_t_text_characters) => ho5 q f hf n0 n1
        cases h
        refine W.widen (k := 1) (n := 6) (by decide) (by decide) ?_
        exact vx_ret (W.iret hx hb hr (fun t ht hW => ⟨⟨_, _, rfl, ⟨_, rfl, rfl, hc_t_text, hc_t_text_characters, hf7⟩, by show MW z D _ t.heap; rw [ht]; exact hM⟩, hS.F ht⟩) hS.2.2 dX7_append_50 hlocks)
      · replace c3 := b2i_ne0.mp c3
        replace h := it_pos c3 h
        cases h
        exact mx_throw hC hX hlt hM hS rfl (by decide +kernel) l_X7_append_6 l_X7_append_7 (sx_63 hX.2.2.1) a_X7_append_S xb_S (xc_S hX) xg_S hl.1 dX7_append_31 dX7_append_34 dX7_append_35 dX7_append_37 dX7_append_40 hex (Nat.le_of_ble_eq_true rfl) (Nat.le_of_ble_eq_true rfl) (Nat.le_of_ble_eq_true rfl) (Nat.le_of_ble_eq_true rfl) hlocks (Nat.le_of_ble_eq_true rfl) (Nat.le_of_ble_eq_true rfl)
    · replace h := it_neg c2 h
      cases h
      exact mx_throw hC hX hlt hM hS rfl (by decide +kernel) l_X7_append_1 l_X7_append_2 (sx_52 hX.2.2.1) a_X7_append_A xb_A (xc_A hX) xg_A hl.1 dX7_append_11 dX7_append_14 dX7_append_15 dX7_append_17 dX7_append_20 hex (Nat.le_of_ble_eq_true rfl) (Nat.le_of_ble_eq_true rfl) (Nat.le_of_ble_eq_true rfl) (Nat.le_of_ble_eq_true rfl) hlocks (Nat.le_of_ble_eq_true rfl) (Nat.le_of_ble_eq_true rfl)
theorem l_X7_about_0 : Cond.fieldLink RX7 26 "CornerStones" "now" "LCornerStones$Game;" ∈ wsX7_about := (List.mem_cons_of_mem _ (List.mem_append_left _ (List.mem_append_left _ (List.mem_append_left _ (List.mem_append_left _ (List.mem_append_left _ (List.mem_of_getElem? (i := 2) rfl)))))))
theorem i_X7_about_X7 : ∀ w ∈ wsX70, w ∈ wsX7_about := fun _ h => (List.mem_cons_of_mem _ (List.mem_append_left _ (List.mem_append_left _ (List.mem_append_left _ (List.mem_append_right _ h)))))
theorem i_X7_about_X0 : ∀ w ∈ wsX00, w ∈ wsX7_about := fun _ h => (List.mem_cons_of_mem _ (List.mem_append_left _ (List.mem_append_left _ (List.mem_append_right _ h))))
theorem l_X7_about_3 : Cond.fieldLink RX7 122 "CornerStones$Grid" "rows" "I" ∈ wsX7_about := (List.mem_cons_of_mem _ (List.mem_append_left _ (List.mem_append_left _ (List.mem_append_left _ (List.mem_append_left _ (List.mem_append_left _ (List.mem_of_getElem? (i := 3) rfl)))))))
theorem i_X7_about_X2 : ∀ w ∈ wsX20, w ∈ wsX7_about := fun _ h => (List.mem_cons_of_mem _ (List.mem_append_left _ (List.mem_append_right _ h)))
theorem a_X7_about_A : ∀ w ∈ (vx_atS RX7 54 "java/lang/IllegalArgumentException" ["java/lang/RuntimeException", "java/lang/Exception"]).filter goodWord, w ∈ wsX7_about := fun _ h => (List.mem_cons_of_mem _ (List.mem_append_right _ h))
theorem l_X7_about_6 : Cond.classLink RX7 50 "java/lang/IllegalArgumentException" ∈ wsX7_about := (List.mem_cons_of_mem _ (List.mem_append_left _ (List.mem_append_left _ (List.mem_append_left _ (List.mem_append_left _ (List.mem_append_left _ (List.mem_of_getElem? (i := 0) rfl)))))))
theorem l_X7_about_7 : Cond.initialized "java/lang/IllegalArgumentException" ∈ wsX7_about := (List.mem_cons_of_mem _ (List.mem_append_left _ (List.mem_append_left _ (List.mem_append_left _ (List.mem_append_left _ (List.mem_append_left _ (List.mem_of_getElem? (i := 1) rfl)))))))
theorem q_X7_about : yX7_about.cls ≠ "java/lang/invoke/MethodHandle" ∧ yX7_about.cls ≠ "java/lang/invoke/VarHandle" ∧ (parseMethodDescriptor yX7_about.desc).map (fun d => d.parameters.length) = some 1 := by decide +kernel
def fX7_about (w_t_now : Int32 × Int32 × Int32 × Int32 × Int64 × Int64 × Int32 × Int32) (w_t_now_grid : Int32 × Int32 × Int64 × Int64 × Int64) (p0 : Int32) : Option (String ⊕ (Int32)) := if p0 = 0 then (some (Sum.inr (w_t_now_grid.1))) else (if p0 = 1 then (some (Sum.inr (w_t_now.2.1))) else (if p0 = 2 then (some (Sum.inr ((fX0_turn w_t_now)))) else (if p0 = 3 then (some (Sum.inr (w_t_now.2.2.1))) else (if p0 = 4 then (if w_t_now.2.2.2.1 < 2 then (some (Sum.inr ((0 : Int32)))) else (some (Sum.inr ((1 : Int32))))) else (if p0 = 5 then ((fX0_groupsOf w_t_now w_t_now_grid 0).bind fun r8 => (fX0_groupsOf w_t_now w_t_now_grid 1).bind fun r9 => some (Sum.inr ((r8 + r9)))) else (if p0 = 6 then ((fX0_groupsWithOneLiberty w_t_now w_t_now_grid).bind fun r11 => some (Sum.inr (r11))) else (if p0 = 7 then (some (Sum.inr (w_t_now.1))) else (some (Sum.inl "java/lang/IllegalArgumentException")))))))))
set_option maxHeartbeats 4000000 in
set_option maxRecDepth 100000 in
theorem c_X7_about {l : Launch} {z : Nat} {D : va_G} {K : Nat → ClassId} {σ : mwm} {a_t a_t_text a_t_now a_t_copy a_t_memory a_t_slot0 a_t_slot1 a_t_now_before0 a_t_now_before1 a_t_now_grid : Nat} {w_t_now : Int32 × Int32 × Int32 × Int32 × Int64 × Int64 × Int32 × Int32} {w_t_now_grid : Int32 × Int32 × Int64 × Int64 × Int64} {p0 : Int32} (hc_t : σ a_t = some (cl5 a_t_text a_t_now a_t_copy a_t_memory a_t_slot0 a_t_slot1)) (hc_t_now : σ a_t_now = some (cl0 a_t_now_before0 a_t_now_before1 a_t_now_grid w_t_now)) (hc_t_now_grid : σ a_t_now_grid = some (cl2  w_t_now_grid)) (hlt : l.stackTraces = false) {v : String ⊕ (Int32)} (h : fX7_about w_t_now w_t_now_grid p0 = some v) : vx_Met l yX7_about wsX7_about ({ frames := 6, cells := 1, slots := 6, locals := 127 } : Room) (PCx z D K [.ref a_t, .int p0] σ) (qwI z D (fun r σ2 => ∃ w9 : Int32, v = Sum.inr w9 ∧ r = w9 ∧ ∀ (q : Nat) (f : va_E), σ q = some f → σ2 q = some f)) (XQ z D σ v) 1 6 (zA z) := by
  refine mx_enter (cc := cX7_about) (maxL := 2) (ret := (some .int)) (own := RX7) (lv := [(0, .ref a_t), (1, .int p0)]) (by decide) rfl rfl (Nat.le_of_ble_eq_true rfl) rfl ?_
  intro p e s m below meth c ls hC hx hb hown hts hK hr hlocks hnm hz hM hS hl hX hex
  unfold fX7_about at h
  refine lv_iload_n hx hb dX7_about_0 rfl (lv_at hl 1 rfl) ?_
  by_cases c1 : p0 = 0
  · replace h := it_pos c1 h
    refine lv_tableIn (tgt := 48) hx hb dX7_about_1 (by rw [c1]; decide) (by rw [c1]; decide) (by rw [c1]; rfl) (by decide) ?_
    refine lv_aload_n hx hb dX7_about_48 rfl (lv_at hl 0 rfl) ?_
    refine mw_get (ci := 5) (C := RX7) (T := TX7) (N := 6) (v := .ref a_t_now) hC i_X7_about_X7 hM hc_t rfl 1 (by decide) l_X7_about_0 rfl rfl dX7_about_49 ?_
    refine mw_getN (ci := 0) (C := RX0) (T := TX0) (N := 11) (v := .ref a_t_now_grid) hC i_X7_about_X0 hM hc_t_now rfl 2 (by decide) (nx_RX7_118 hC.2.2.2) rfl rfl dX7_about_52 ?_
    refine mw_get (ci := 2) (C := RX2) (T := TX2) (N := 5) (v := .int w_t_now_grid.1) hC i_X7_about_X2 hM hc_t_now_grid rfl 0 (by decide) l_X7_about_3 rfl rfl dX7_about_55 ?_
    cases h
    refine W.widen (k := 1) (n := 6) (by decide) (by decide) ?_
    exact vx_ret (W.iret hx hb hr (fun t ht hW => ⟨⟨_, _, rfl, ⟨_, rfl, rfl, (fun _ _ h9  => h9)⟩, by show MW z D _ t.heap; rw [ht]; exact hM⟩, hS.F ht⟩) hS.2.2 dX7_about_58 hlocks)
  replace h := it_neg c1 h
  by_cases c2 : p0 = 1
  · replace h := it_pos c2 h
    refine lv_tableIn (tgt := 59) hx hb dX7_about_1 (by rw [c2]; decide) (by rw [c2]; decide) (by rw [c2]; rfl) (by decide) ?_
    refine lv_aload_n hx hb dX7_about_59 rfl (lv_at hl 0 rfl) ?_
    refine mw_get (ci := 5) (C := RX7) (T := TX7) (N := 6) (v := .ref a_t_now) hC i_X7_about_X7 hM hc_t rfl 1 (by decide) l_X7_about_0 rfl rfl dX7_about_60 ?_
    refine mw_getN (ci := 0) (C := RX0) (T := TX0) (N := 11) (v := .int w_t_now.2.1) hC i_X7_about_X0 hM hc_t_now rfl 4 (by decide) (nx_RX7_124 hC.2.2.2) rfl rfl dX7_about_63 ?_
    cases h
    refine W.widen (k := 1) (n := 6) (by decide) (by decide) ?_
    exact vx_ret (W.iret hx hb hr (fun t ht hW => ⟨⟨_, _, rfl, ⟨_, rfl, rfl, (fun _ _ h9  => h9)⟩, by show MW z D _ t.heap; rw [ht]; exact hM⟩, hS.F ht⟩) hS.2.2 dX7_about_66 hlocks)
  replace h := it_neg c2 h
  by_cases c3 : p0 = 2
  · replace h := it_pos c3 h
    refine lv_tableIn (tgt := 67) hx hb dX7_about_1 (by rw [c3]; decide) (by rw [c3]; decide) (by rw [c3]; rfl) (by decide) ?_
    refine lv_aload_n hx hb dX7_about_67 rfl (lv_at hl 0 rfl) ?_
    refine mw_get (ci := 5) (C := RX7) (T := TX7) (N := 6) (v := .ref a_t_now) hC i_X7_about_X7 hM hc_t rfl 1 (by decide) l_X7_about_0 rfl rfl dX7_about_68 ?_
    refine mw_ci (mw_runV (As := []) (rest := []) (ci := 0) (C := RX0) (T := TX0) (N := 11) hC hM hS hc_t_now rfl (c_X0_turn (a_t := a_t_now) (a_t_before0 := a_t_now_before0) (a_t_before1 := a_t_now_before1) (a_t_grid := a_t_now_grid) (w_t := w_t_now) (hc_t := hc_t_now) (v := (fX0_turn w_t_now)) rfl) gX7_about_X0_turn rfl rfl rfl rfl q_X0_turn ⟨Nat.le_of_ble_eq_true rfl, Nat.le_of_ble_eq_true rfl⟩ rfl rfl (Nat.le_of_ble_eq_true rfl) hl.1 dX7_about_71 ⟨Nat.le_of_ble_eq_true rfl, Nat.le_of_ble_eq_true rfl⟩) ?_
    cases h
    refine W.widen (k := 1) (n := 6) (by decide) (by decide) ?_
    exact vx_ret (W.iret hx hb hr (fun t ht hW => ⟨⟨_, _, rfl, ⟨_, rfl, rfl, (fun _ _ h9  => h9)⟩, by show MW z D _ t.heap; rw [ht]; exact hM⟩, hS.F ht⟩) hS.2.2 dX7_about_74 hlocks)
  replace h := it_neg c3 h
  by_cases c4 : p0 = 3
  · replace h := it_pos c4 h
    refine lv_tableIn (tgt := 75) hx hb dX7_about_1 (by rw [c4]; decide) (by rw [c4]; decide) (by rw [c4]; rfl) (by decide) ?_
    refine lv_aload_n hx hb dX7_about_75 rfl (lv_at hl 0 rfl) ?_
    refine mw_get (ci := 5) (C := RX7) (T := TX7) (N := 6) (v := .ref a_t_now) hC i_X7_about_X7 hM hc_t rfl 1 (by decide) l_X7_about_0 rfl rfl dX7_about_76 ?_
    refine mw_getN (ci := 0) (C := RX0) (T := TX0) (N := 11) (v := .int w_t_now.2.2.1) hC i_X7_about_X0 hM hc_t_now rfl 5 (by decide) (nx_RX7_130 hC.2.2.2) rfl rfl dX7_about_79 ?_
    cases h
    refine W.widen (k := 1) (n := 6) (by decide) (by decide) ?_
    exact vx_ret (W.iret hx hb hr (fun t ht hW => ⟨⟨_, _, rfl, ⟨_, rfl, rfl, (fun _ _ h9  => h9)⟩, by show MW z D _ t.heap; rw [ht]; exact hM⟩, hS.F ht⟩) hS.2.2 dX7_about_82 hlocks)
  replace h := it_neg c4 h
  by_cases c5 : p0 = 4
  · replace h := it_pos c5 h
    refine lv_tableIn (tgt := 83) hx hb dX7_about_1 (by rw [c5]; decide) (by rw [c5]; decide) (by rw [c5]; rfl) (by decide) ?_
    refine lv_aload_n hx hb dX7_about_83 rfl (lv_at hl 0 rfl) ?_
    refine mw_get (ci := 5) (C := RX7) (T := TX7) (N := 6) (v := .ref a_t_now) hC i_X7_about_X7 hM hc_t rfl 1 (by decide) l_X7_about_0 rfl rfl dX7_about_84 ?_
    refine mw_getN (ci := 0) (C := RX0) (T := TX0) (N := 11) (v := .int w_t_now.2.2.2.1) hC i_X7_about_X0 hM hc_t_now rfl 6 (by decide) (nx_RX7_133 hC.2.2.2) rfl rfl dX7_about_87 ?_
    refine lv_iconst (v := 2) hx hb dX7_about_90 (by decide) ?_
    refine lv_icmp_lt (tgt := 98) hx hb dX7_about_91 (by decide) (fun c6 => ?_) (fun c6 => ?_)
    · replace h := it_pos c6 h
      refine lv_iconst (v := 0) hx hb dX7_about_98 (by decide) ?_
      cases h
      refine W.widen (k := 1) (n := 6) (by decide) (by decide) ?_
      exact vx_ret (W.iret hx hb hr (fun t ht hW => ⟨⟨_, _, rfl, ⟨_, rfl, rfl, (fun _ _ h9  => h9)⟩, by show MW z D _ t.heap; rw [ht]; exact hM⟩, hS.F ht⟩) hS.2.2 dX7_about_99 hlocks)
    · replace h := it_neg c6 h
      refine lv_iconst (v := 1) hx hb dX7_about_94 (by decide) ?_
      refine lv_goto (tgt := 99) hx hb dX7_about_95 (by decide) ?_
      cases h
      refine W.widen (k := 1) (n := 6) (by decide) (by decide) ?_
      exact vx_ret (W.iret hx hb hr (fun t ht hW => ⟨⟨_, _, rfl, ⟨_, rfl, rfl, (fun _ _ h9  => h9)⟩, by show MW z D _ t.heap; rw [ht]; exact hM⟩, hS.F ht⟩) hS.2.2 dX7_about_99 hlocks)
  replace h := it_neg c5 h
  by_cases c7 : p0 = 5
  · replace h := it_pos c7 h
    refine lv_tableIn (tgt := 100) hx hb dX7_about_1 (by rw [c7]; decide) (by rw [c7]; decide) (by rw [c7]; rfl) (by decide) ?_
    refine lv_aload_n hx hb dX7_about_100 rfl (lv_at hl 0 rfl) ?_
    refine mw_get (ci := 5) (C := RX7) (T := TX7) (N := 6) (v := .ref a_t_now) hC i_X7_about_X7 hM hc_t rfl 1 (by decide) l_X7_about_0 rfl rfl dX7_about_101 ?_
    refine lv_iconst (v := 0) hx hb dX7_about_104 (by decide) ?_
    obtain ⟨r8, hr8, h⟩ := ob_some h
    refine mw_ci (mw_runV (As := [.int 0]) (rest := []) (ci := 0) (C := RX0) (T := TX0) (N := 11) hC hM hS hc_t_now rfl (c_X0_groupsOf (a_t := a_t_now) (a_t_before0 := a_t_now_before0) (a_t_before1 := a_t_now_before1) (a_t_grid := a_t_now_grid) (w_t := w_t_now) (w_t_grid := w_t_now_grid) (p0 := 0) (hc_t := hc_t_now) (hc_t_grid := hc_t_now_grid) (v := r8) hr8) gX7_about_X0_groupsOf rfl rfl rfl rfl q_X0_groupsOf ⟨Nat.le_of_ble_eq_true rfl, Nat.le_of_ble_eq_true rfl⟩ rfl rfl (Nat.le_of_ble_eq_true rfl) hl.1 dX7_about_105 ⟨Nat.le_of_ble_eq_true rfl, Nat.le_of_ble_eq_true rfl⟩) ?_
    refine lv_aload_n hx hb dX7_about_108 rfl (lv_at hl 0 rfl) ?_
    refine mw_get (ci := 5) (C := RX7) (T := TX7) (N := 6) (v := .ref a_t_now) hC i_X7_about_X7 hM hc_t rfl 1 (by decide) l_X7_about_0 rfl rfl dX7_about_109 ?_
    refine lv_iconst (v := 1) hx hb dX7_about_112 (by decide) ?_
    obtain ⟨r9, hr9, h⟩ := ob_some h
    refine mw_ci (mw_runV (As := [.int 1]) (rest := [.int r8]) (ci := 0) (C := RX0) (T := TX0) (N := 11) hC hM hS hc_t_now rfl (c_X0_groupsOf (a_t := a_t_now) (a_t_before0 := a_t_now_before0) (a_t_before1 := a_t_now_before1) (a_t_grid := a_t_now_grid) (w_t := w_t_now) (w_t_grid := w_t_now_grid) (p0 := 1) (hc_t := hc_t_now) (hc_t_grid := hc_t_now_grid) (v := r9) hr9) gX7_about_X0_groupsOf rfl rfl rfl rfl q_X0_groupsOf ⟨Nat.le_of_ble_eq_true rfl, Nat.le_of_ble_eq_true rfl⟩ rfl rfl (Nat.le_of_ble_eq_true rfl) hl.1 dX7_about_113 ⟨Nat.le_of_ble_eq_true rfl, Nat.le_of_ble_eq_true rfl⟩) ?_
    refine lv_iadd hx hb dX7_about_116 ?_
    cases h
    refine W.widen (k := 1) (n := 6) (by decide) (by decide) ?_
    exact vx_ret (W.iret hx hb hr (fun t ht hW => ⟨⟨_, _, rfl, ⟨_, rfl, rfl, (fun _ _ h9  => h9)⟩, by show MW z D _ t.heap; rw [ht]; exact hM⟩, hS.F ht⟩) hS.2.2 dX7_about_117 hlocks)
  replace h := it_neg c7 h
  by_cases c10 : p0 = 6
  · replace h := it_pos c10 h
    refine lv_tableIn (tgt := 118) hx hb dX7_about_1 (by rw [c10]; decide) (by rw [c10]; decide) (by rw [c10]; rfl) (by decide) ?_
    refine lv_aload_n hx hb dX7_about_118 rfl (lv_at hl 0 rfl) ?_
    refine mw_get (ci := 5) (C := RX7) (T := TX7) (N := 6) (v := .ref a_t_now) hC i_X7_about_X7 hM hc_t rfl 1 (by decide) l_X7_about_0 rfl rfl dX7_about_119 ?_
    obtain ⟨r11, hr11, h⟩ := ob_some h
    refine mw_ci (mw_runV (As := []) (rest := []) (ci := 0) (C := RX0) (T := TX0) (N := 11) hC hM hS hc_t_now rfl (c_X0_groupsWithOneLiberty (a_t := a_t_now) (a_t_before0 := a_t_now_before0) (a_t_before1 := a_t_now_before1) (a_t_grid := a_t_now_grid) (w_t := w_t_now) (w_t_grid := w_t_now_grid) (hc_t := hc_t_now) (hc_t_grid := hc_t_now_grid) (v := r11) hr11) gX7_about_X0_groupsWithOneLiberty rfl rfl rfl rfl q_X0_groupsWithOneLiberty ⟨Nat.le_of_ble_eq_true rfl, Nat.le_of_ble_eq_true rfl⟩ rfl rfl (Nat.le_of_ble_eq_true rfl) hl.1 dX7_about_122 ⟨Nat.le_of_ble_eq_true rfl, Nat.le_of_ble_eq_true rfl⟩) ?_
    cases h
    refine W.widen (k := 1) (n := 6) (by decide) (by decide) ?_
    exact vx_ret (W.iret hx hb hr (fun t ht hW => ⟨⟨_, _, rfl, ⟨_, rfl, rfl, (fun _ _ h9  => h9)⟩, by show MW z D _ t.heap; rw [ht]; exact hM⟩, hS.F ht⟩) hS.2.2 dX7_about_125 hlocks)
  replace h := it_neg c10 h
  by_cases c12 : p0 = 7
  · replace h := it_pos c12 h
    refine lv_tableIn (tgt := 126) hx hb dX7_about_1 (by rw [c12]; decide) (by rw [c12]; decide) (by rw [c12]; rfl) (by decide) ?_
    refine lv_aload_n hx hb dX7_about_126 rfl (lv_at hl 0 rfl) ?_
    refine mw_get (ci := 5) (C := RX7) (T := TX7) (N := 6) (v := .ref a_t_now) hC i_X7_about_X7 hM hc_t rfl 1 (by decide) l_X7_about_0 rfl rfl dX7_about_127 ?_
    refine mw_getN (ci := 0) (C := RX0) (T := TX0) (N := 11) (v := .int w_t_now.1) hC i_X7_about_X0 hM hc_t_now rfl 3 (by decide) (nx_RX7_88 hC.2.2.2) rfl rfl dX7_about_130 ?_
    cases h
    refine W.widen (k := 1) (n := 6) (by decide) (by decide) ?_
    exact vx_ret (W.iret hx hb hr (fun t ht hW => ⟨⟨_, _, rfl, ⟨_, rfl, rfl, (fun _ _ h9  => h9)⟩, by show MW z D _ t.heap; rw [ht]; exact hM⟩, hS.F ht⟩) hS.2.2 dX7_about_133 hlocks)
  replace h := it_neg c12 h
  refine lv_tableOut (tgt := 134) hx hb dX7_about_1 (by have t0 := lv_neT (a := 0) c1 rfl; have t1 := lv_neT (a := 1) c2 rfl; have t2 := lv_neT (a := 2) c3 rfl; have t3 := lv_neT (a := 3) c4 rfl; have t4 := lv_neT (a := 4) c5 rfl; have t5 := lv_neT (a := 5) c7 rfl; have t6 := lv_neT (a := 6) c10 rfl; have t7 := lv_neT (a := 7) c12 rfl; omega) (by decide) ?_
  cases h
  exact mx_throw hC hX hlt hM hS rfl (by decide +kernel) l_X7_about_6 l_X7_about_7 (sx_142 hX.2.2.1) a_X7_about_A xb_A (xc_A hX) xg_A hl.1 dX7_about_134 dX7_about_137 dX7_about_138 dX7_about_140 dX7_about_143 hex (Nat.le_of_ble_eq_true rfl) (Nat.le_of_ble_eq_true rfl) (Nat.le_of_ble_eq_true rfl) (Nat.le_of_ble_eq_true rfl) hlocks (Nat.le_of_ble_eq_true rfl) (Nat.le_of_ble_eq_true rfl)
theorem l_X7_stones_0 : Cond.fieldLink RX7 26 "CornerStones" "now" "LCornerStones$Game;" ∈ wsX7_stones := (List.mem_cons_of_mem _ (List.mem_append_left _ (List.mem_append_left _ (List.mem_append_left _ (List.mem_of_getElem? (i := 2) rfl)))))
theorem i_X7_stones_X7 : ∀ w ∈ wsX70, w ∈ wsX7_stones := fun _ h => (List.mem_cons_of_mem _ (List.mem_append_left _ (List.mem_append_left _ (List.mem_append_right _ h))))
theorem a_X7_stones_O : ∀ w ∈ (vx_atS RX7 151 "java/lang/IndexOutOfBoundsException" ["java/lang/RuntimeException", "java/lang/Exception"]).filter goodWord, w ∈ wsX7_stones := fun _ h => (List.mem_cons_of_mem _ (List.mem_append_right _ h))
theorem l_X7_stones_3 : Cond.classLink RX7 147 "java/lang/IndexOutOfBoundsException" ∈ wsX7_stones := (List.mem_cons_of_mem _ (List.mem_append_left _ (List.mem_append_left _ (List.mem_append_left _ (List.mem_of_getElem? (i := 0) rfl)))))
theorem l_X7_stones_4 : Cond.initialized "java/lang/IndexOutOfBoundsException" ∈ wsX7_stones := (List.mem_cons_of_mem _ (List.mem_append_left _ (List.mem_append_left _ (List.mem_append_left _ (List.mem_of_getElem? (i := 1) rfl)))))
theorem q_X7_stones : yX7_stones.cls ≠ "java/lang/invoke/MethodHandle" ∧ yX7_stones.cls ≠ "java/lang/invoke/VarHandle" ∧ (parseMethodDescriptor yX7_stones.desc).map (fun d => d.parameters.length) = some 1 := by decide +kernel
def fX7_stones (w_t_now : Int32 × Int32 × Int32 × Int32 × Int64 × Int64 × Int32 × Int32) (p0 : Int32) : Option (String ⊕ (Int64)) := if (fX7_isColour p0) = true then (some (Sum.inr ((fX0_stonesOf w_t_now p0)))) else (some (Sum.inl "java/lang/IndexOutOfBoundsException"))
set_option maxHeartbeats 4000000 in
set_option maxRecDepth 100000 in
theorem c_X7_stones {l : Launch} {z : Nat} {D : va_G} {K : Nat → ClassId} {σ : mwm} {a_t a_t_text a_t_now a_t_copy a_t_memory a_t_slot0 a_t_slot1 a_t_now_before0 a_t_now_before1 a_t_now_grid : Nat} {w_t_now : Int32 × Int32 × Int32 × Int32 × Int64 × Int64 × Int32 × Int32} {p0 : Int32} (hc_t : σ a_t = some (cl5 a_t_text a_t_now a_t_copy a_t_memory a_t_slot0 a_t_slot1)) (hc_t_now : σ a_t_now = some (cl0 a_t_now_before0 a_t_now_before1 a_t_now_grid w_t_now)) (hlt : l.stackTraces = false) {v : String ⊕ (Int64)} (h : fX7_stones w_t_now p0 = some v) : vx_Met l yX7_stones wsX7_stones ({ frames := 6, cells := 1, slots := 6, locals := 99 } : Room) (PCx z D K [.ref a_t, .int p0] σ) (qwL z D (fun r σ2 => ∃ w9 : Int64, v = Sum.inr w9 ∧ r = w9 ∧ ∀ (q : Nat) (f : va_E), σ q = some f → σ2 q = some f)) (XQ z D σ v) 1 6 (zA z) := by
  refine mx_enter (cc := cX7_stones) (maxL := 2) (ret := (some .long)) (own := RX7) (lv := [(0, .ref a_t), (1, .int p0)]) (by decide) rfl rfl (Nat.le_of_ble_eq_true rfl) rfl ?_
  intro p e s m below meth c ls hC hx hb hown hts hK hr hlocks hnm hz hM hS hl hX hex
  unfold fX7_stones at h
  refine lv_iload_n hx hb dX7_stones_0 rfl (lv_at hl 1 rfl) ?_
  refine mw_ci (mw_runS (As := [.int p0]) (rest := []) hC hM hS (c_X7_isColour (p0 := p0) (v := (fX7_isColour p0)) rfl) gX7_stones_X7_isColour rfl rfl rfl q_X7_isColour ⟨Nat.le_of_ble_eq_true rfl, Nat.le_of_ble_eq_true rfl⟩ rfl rfl (Nat.le_of_ble_eq_true rfl) hl.1 dX7_stones_1 ⟨Nat.le_of_ble_eq_true rfl, Nat.le_of_ble_eq_true rfl⟩) ?_
  refine lv_if_ne (tgt := 17) hx hb dX7_stones_4 (by decide) (fun c1 => ?_) (fun c1 => ?_)
  · replace c1 := b2i_ne0.mp c1
    replace h := it_pos c1 h
    refine lv_aload_n hx hb dX7_stones_17 rfl (lv_at hl 0 rfl) ?_
    refine mw_get (ci := 5) (C := RX7) (T := TX7) (N := 6) (v := .ref a_t_now) hC i_X7_stones_X7 hM hc_t rfl 1 (by decide) l_X7_stones_0 rfl rfl dX7_stones_18 ?_
    refine lv_iload_n hx hb dX7_stones_21 rfl (lv_at hl 1 rfl) ?_
    refine mw_cl (mw_runV (As := [.int p0]) (rest := []) (ci := 0) (C := RX0) (T := TX0) (N := 11) hC hM hS hc_t_now rfl (c_X0_stonesOf (a_t := a_t_now) (a_t_before0 := a_t_now_before0) (a_t_before1 := a_t_now_before1) (a_t_grid := a_t_now_grid) (w_t := w_t_now) (p0 := p0) (hc_t := hc_t_now) (v := (fX0_stonesOf w_t_now p0)) rfl) gX7_stones_X0_stonesOf rfl rfl rfl rfl q_X0_stonesOf ⟨Nat.le_of_ble_eq_true rfl, Nat.le_of_ble_eq_true rfl⟩ rfl rfl (Nat.le_of_ble_eq_true rfl) hl.1 dX7_stones_22 ⟨Nat.le_of_ble_eq_true rfl, Nat.le_of_ble_eq_true rfl⟩) ?_
    cases h
    refine W.widen (k := 1) (n := 6) (by decide) (by decide) ?_
    exact vx_ret (W.lret hx hb hr (fun t ht hW => ⟨⟨_, _, rfl, ⟨_, rfl, rfl, (fun _ _ h9  => h9)⟩, by show MW z D _ t.heap; rw [ht]; exact hM⟩, hS.F ht⟩) hS.2.2 dX7_stones_25 hlocks)
  · replace c1 := b2i_eq0.mp c1
    replace h := it_neg c1 h
    cases h
    exact mx_throw hC hX hlt hM hS rfl (by decide +kernel) l_X7_stones_3 l_X7_stones_4 (sx_149 hX.2.2.1) a_X7_stones_O xb_O (xc_O hX) xg_O hl.1 dX7_stones_7 dX7_stones_10 dX7_stones_11 dX7_stones_13 dX7_stones_16 hex (Nat.le_of_ble_eq_true rfl) (Nat.le_of_ble_eq_true rfl) (Nat.le_of_ble_eq_true rfl) (Nat.le_of_ble_eq_true rfl) hlocks (Nat.le_of_ble_eq_true rfl) (Nat.le_of_ble_eq_true rfl)
theorem l_X7_colour_0 : Cond.fieldLink RX7 26 "CornerStones" "now" "LCornerStones$Game;" ∈ wsX7_colour := (List.mem_cons_of_mem _ (List.mem_append_left _ (List.mem_append_left _ (List.mem_append_left _ (List.mem_append_left _ (List.mem_append_left _ (List.mem_append_left _ (List.mem_of_getElem? (i := 4) rfl))))))))
theorem i_X7_colour_X7 : ∀ w ∈ wsX70, w ∈ wsX7_colour := fun _ h => (List.mem_cons_of_mem _ (List.mem_append_left _ (List.mem_append_left _ (List.mem_append_left _ (List.mem_append_left _ (List.mem_append_right _ h))))))
theorem a_X7_colour_A : ∀ w ∈ (vx_atS RX7 54 "java/lang/IllegalArgumentException" ["java/lang/RuntimeException", "java/lang/Exception"]).filter goodWord, w ∈ wsX7_colour := fun _ h => (List.mem_cons_of_mem _ (List.mem_append_right _ h))
theorem l_X7_colour_3 : Cond.classLink RX7 50 "java/lang/IllegalArgumentException" ∈ wsX7_colour := (List.mem_cons_of_mem _ (List.mem_append_left _ (List.mem_append_left _ (List.mem_append_left _ (List.mem_append_left _ (List.mem_append_left _ (List.mem_append_left _ (List.mem_of_getElem? (i := 2) rfl))))))))
theorem l_X7_colour_4 : Cond.initialized "java/lang/IllegalArgumentException" ∈ wsX7_colour := (List.mem_cons_of_mem _ (List.mem_append_left _ (List.mem_append_left _ (List.mem_append_left _ (List.mem_append_left _ (List.mem_append_left _ (List.mem_append_left _ (List.mem_of_getElem? (i := 3) rfl))))))))
theorem a_X7_colour_O : ∀ w ∈ (vx_atS RX7 151 "java/lang/IndexOutOfBoundsException" ["java/lang/RuntimeException", "java/lang/Exception"]).filter goodWord, w ∈ wsX7_colour := fun _ h => (List.mem_cons_of_mem _ (List.mem_append_left _ (List.mem_append_right _ h)))
theorem l_X7_colour_6 : Cond.classLink RX7 147 "java/lang/IndexOutOfBoundsException" ∈ wsX7_colour := (List.mem_cons_of_mem _ (List.mem_append_left _ (List.mem_append_left _ (List.mem_append_left _ (List.mem_append_left _ (List.mem_append_left _ (List.mem_append_left _ (List.mem_of_getElem? (i := 0) rfl))))))))
theorem l_X7_colour_7 : Cond.initialized "java/lang/IndexOutOfBoundsException" ∈ wsX7_colour := (List.mem_cons_of_mem _ (List.mem_append_left _ (List.mem_append_left _ (List.mem_append_left _ (List.mem_append_left _ (List.mem_append_left _ (List.mem_append_left _ (List.mem_of_getElem? (i := 1) rfl))))))))
theorem q_X7_colour : yX7_colour.cls ≠ "java/lang/invoke/MethodHandle" ∧ yX7_colour.cls ≠ "java/lang/invoke/VarHandle" ∧ (parseMethodDescriptor yX7_colour.desc).map (fun d => d.parameters.length) = some 2 := by decide +kernel
def fX7_colour (w_t_now : Int32 × Int32 × Int32 × Int32 × Int64 × Int64 × Int32 × Int32) (w_t_now_grid : Int32 × Int32 × Int64 × Int64 × Int64) (p0 : Int32) (p1 : Int32) : Option (String ⊕ (Int32)) := if (fX7_isColour p0) = true then (if p1 = 0 then (some (Sum.inr ((fJ13_bitCount_95d88 (fX0_stonesOf w_t_now p0))))) else (if p1 = 1 then (some (Sum.inr ((fX0_captivesOf w_t_now p0)))) else (if p1 = 2 then ((fX0_areaOf w_t_now w_t_now_grid p0).bind fun r5 => some (Sum.inr (r5))) else (if p1 = 3 then ((fX0_trueEyes w_t_now w_t_now_grid p0).bind fun r7 => some (Sum.inr ((fJ13_bitCount_95d88 r7)))) else (if p1 = 4 then ((fX0_falseEyes w_t_now w_t_now_grid p0).bind fun r9 => some (Sum.inr ((fJ13_bitCount_95d88 r9)))) else (if p1 = 5 then ((fX0_groupsOf w_t_now w_t_now_grid p0).bind fun r11 => some (Sum.inr (r11))) else (some (Sum.inl "java/lang/IllegalArgumentException")))))))) else (some (Sum.inl "java/lang/IndexOutOfBoundsException"))
set_option maxHeartbeats 4000000 in
set_option maxRecDepth 100000 in
theorem c_X7_colour {l : Launch} {z : Nat} {D : va_G} {K : Nat → ClassId} {σ : mwm} {a_t a_t_text a_t_now a_t_copy a_t_memory a_t_slot0 a_t_slot1 a_t_now_before0 a_t_now_before1 a_t_now_grid : Nat} {w_t_now : Int32 × Int32 × Int32 × Int32 × Int64 × Int64 × Int32 × Int32} {w_t_now_grid : Int32 × Int32 × Int64 × Int64 × Int64} {p0 : Int32} {p1 : Int32} (hc_t : σ a_t = some (cl5 a_t_text a_t_now a_t_copy a_t_memory a_t_slot0 a_t_slot1)) (hc_t_now : σ a_t_now = some (cl0 a_t_now_before0 a_t_now_before1 a_t_now_grid w_t_now)) (hc_t_now_grid : σ a_t_now_grid = some (cl2  w_t_now_grid)) (hlt : l.stackTraces = false) {v : String ⊕ (Int32)} (h : fX7_colour w_t_now w_t_now_grid p0 p1 = some v) : vx_Met l yX7_colour wsX7_colour ({ frames := 6, cells := 1, slots := 6, locals := 99 } : Room) (PCx z D K [.ref a_t, .int p0, .int p1] σ) (qwI z D (fun r σ2 => ∃ w9 : Int32, v = Sum.inr w9 ∧ r = w9 ∧ ∀ (q : Nat) (f : va_E), σ q = some f → σ2 q = some f)) (XQ z D σ v) 1 6 (zA z) := by
  refine mx_enter (cc := cX7_colour) (maxL := 3) (ret := (some .int)) (own := RX7) (lv := [(0, .ref a_t), (1, .int p0), (2, .int p1)]) (by decide) rfl rfl (Nat.le_of_ble_eq_true rfl) rfl ?_
  intro p e s m below meth c ls hC hx hb hown hts hK hr hlocks hnm hz hM hS hl hX hex
  unfold fX7_colour at h
  refine lv_iload_n hx hb dX7_colour_0 rfl (lv_at hl 1 rfl) ?_
  refine mw_ci (mw_runS (As := [.int p0]) (rest := []) hC hM hS (c_X7_isColour (p0 := p0) (v := (fX7_isColour p0)) rfl) gX7_colour_X7_isColour rfl rfl rfl q_X7_isColour ⟨Nat.le_of_ble_eq_true rfl, Nat.le_of_ble_eq_true rfl⟩ rfl rfl (Nat.le_of_ble_eq_true rfl) hl.1 dX7_colour_1 ⟨Nat.le_of_ble_eq_true rfl, Nat.le_of_ble_eq_true rfl⟩) ?_
  refine lv_if_ne (tgt := 17) hx hb dX7_colour_4 (by decide) (fun c1 => ?_) (fun c1 => ?_)
  · replace c1 := b2i_ne0.mp c1
    replace h := it_pos c1 h
    refine lv_iload_n hx hb dX7_colour_17 rfl (lv_at hl 2 rfl) ?_
    by_cases c2 : p1 = 0
    · replace h := it_pos c2 h
      refine lv_tableIn (tgt := 56) hx hb dX7_colour_18 (by rw [c2]; decide) (by rw [c2]; decide) (by rw [c2]; rfl) (by decide) ?_
      refine lv_aload_n hx hb dX7_colour_56 rfl (lv_at hl 0 rfl) ?_
      refine mw_get (ci := 5) (C := RX7) (T := TX7) (N := 6) (v := .ref a_t_now) hC i_X7_colour_X7 hM hc_t rfl 1 (by decide) l_X7_colour_0 rfl rfl dX7_colour_57 ?_
      refine lv_iload_n hx hb dX7_colour_60 rfl (lv_at hl 1 rfl) ?_
      refine mw_cl (mw_runV (As := [.int p0]) (rest := []) (ci := 0) (C := RX0) (T := TX0) (N := 11) hC hM hS hc_t_now rfl (c_X0_stonesOf (a_t := a_t_now) (a_t_before0 := a_t_now_before0) (a_t_before1 := a_t_now_before1) (a_t_grid := a_t_now_grid) (w_t := w_t_now) (p0 := p0) (hc_t := hc_t_now) (v := (fX0_stonesOf w_t_now p0)) rfl) gX7_colour_X0_stonesOf rfl rfl rfl rfl q_X0_stonesOf ⟨Nat.le_of_ble_eq_true rfl, Nat.le_of_ble_eq_true rfl⟩ rfl rfl (Nat.le_of_ble_eq_true rfl) hl.1 dX7_colour_61 ⟨Nat.le_of_ble_eq_true rfl, Nat.le_of_ble_eq_true rfl⟩) ?_
      refine mw_ci (mw_runS (As := [.long (fX0_stonesOf w_t_now p0)]) (rest := []) hC hM hS (c_J13_bitCount_95d88 (p0 := (fX0_stonesOf w_t_now p0)) (v := (fJ13_bitCount_95d88 (fX0_stonesOf w_t_now p0))) rfl) gX7_colour_J13_bitCount_95d88 rfl rfl rfl q_J13_bitCount_95d88 ⟨Nat.le_of_ble_eq_true rfl, Nat.le_of_ble_eq_true rfl⟩ rfl rfl (Nat.le_of_ble_eq_true rfl) hl.1 dX7_colour_64 ⟨Nat.le_of_ble_eq_true rfl, Nat.le_of_ble_eq_true rfl⟩) ?_
      cases h
      refine W.widen (k := 1) (n := 6) (by decide) (by decide) ?_
      exact vx_ret (W.iret hx hb hr (fun t ht hW => ⟨⟨_, _, rfl, ⟨_, rfl, rfl, (fun _ _ h9  => h9)⟩, by show MW z D _ t.heap; rw [ht]; exact hM⟩, hS.F ht⟩) hS.2.2 dX7_colour_67 hlocks)
    replace h := it_neg c2 h
    by_cases c3 : p1 = 1
    · replace h := it_pos c3 h
      refine lv_tableIn (tgt := 68) hx hb dX7_colour_18 (by rw [c3]; decide) (by rw [c3]; decide) (by rw [c3]; rfl) (by decide) ?_
      refine lv_aload_n hx hb dX7_colour_68 rfl (lv_at hl 0 rfl) ?_
      refine mw_get (ci := 5) (C := RX7) (T := TX7) (N := 6) (v := .ref a_t_now) hC i_X7_colour_X7 hM hc_t rfl 1 (by decide) l_X7_colour_0 rfl rfl dX7_colour_69 ?_
      refine lv_iload_n hx hb dX7_colour_72 rfl (lv_at hl 1 rfl) ?_
      refine mw_ci (mw_runV (As := [.int p0]) (rest := []) (ci := 0) (C := RX0) (T := TX0) (N := 11) hC hM hS hc_t_now rfl (c_X0_captivesOf (a_t := a_t_now) (a_t_before0 := a_t_now_before0) (a_t_before1 := a_t_now_before1) (a_t_grid := a_t_now_grid) (w_t := w_t_now) (p0 := p0) (hc_t := hc_t_now) (v := (fX0_captivesOf w_t_now p0)) rfl) gX7_colour_X0_captivesOf rfl rfl rfl rfl q_X0_captivesOf ⟨Nat.le_of_ble_eq_true rfl, Nat.le_of_ble_eq_true rfl⟩ rfl rfl (Nat.le_of_ble_eq_true rfl) hl.1 dX7_colour_73 ⟨Nat.le_of_ble_eq_true rfl, Nat.le_of_ble_eq_true rfl⟩) ?_
      cases h
      refine W.widen (k := 1) (n := 6) (by decide) (by decide) ?_
      exact vx_ret (W.iret hx hb hr (fun t ht hW => ⟨⟨_, _, rfl, ⟨_, rfl, rfl, (fun _ _ h9  => h9)⟩, by show MW z D _ t.heap; rw [ht]; exact hM⟩, hS.F ht⟩) hS.2.2 dX7_colour_76 hlocks)
    replace h := it_neg c3 h
    by_cases c4 : p1 = 2
    · replace h := it_pos c4 h
      refine lv_tableIn (tgt := 77) hx hb dX7_colour_18 (by rw [c4]; decide) (by rw [c4]; decide) (by rw [c4]; rfl) (by decide) ?_
      refine lv_aload_n hx hb dX7_colour_77 rfl (lv_at hl 0 rfl) ?_
      refine mw_get (ci := 5) (C := RX7) (T := TX7) (N := 6) (v := .ref a_t_now) hC i_X7_colour_X7 hM hc_t rfl 1 (by decide) l_X7_colour_0 rfl rfl dX7_colour_78 ?_
      refine lv_iload_n hx hb dX7_colour_81 rfl (lv_at hl 1 rfl) ?_
      obtain ⟨r5, hr5, h⟩ := ob_some h
      refine mw_ci (mw_runV (As := [.int p0]) (rest := []) (ci := 0) (C := RX0) (T := TX0) (N := 11) hC hM hS hc_t_now rfl (c_X0_areaOf (a_t := a_t_now) (a_t_before0 := a_t_now_before0) (a_t_before1 := a_t_now_before1) (a_t_grid := a_t_now_grid) (w_t := w_t_now) (w_t_grid := w_t_now_grid) (p0 := p0) (hc_t := hc_t_now) (hc_t_grid := hc_t_now_grid) (v := r5) hr5) gX7_colour_X0_areaOf rfl rfl rfl rfl q_X0_areaOf ⟨Nat.le_of_ble_eq_true rfl, Nat.le_of_ble_eq_true rfl⟩ rfl rfl (Nat.le_of_ble_eq_true rfl) hl.1 dX7_colour_82 ⟨Nat.le_of_ble_eq_true rfl, Nat.le_of_ble_eq_true rfl⟩) ?_
      cases h
      refine W.widen (k := 1) (n := 6) (by decide) (by decide) ?_
      exact vx_ret (W.iret hx hb hr (fun t ht hW => ⟨⟨_, _, rfl, ⟨_, rfl, rfl, (fun _ _ h9  => h9)⟩, by show MW z D _ t.heap; rw [ht]; exact hM⟩, hS.F ht⟩) hS.2.2 dX7_colour_85 hlocks)
    replace h := it_neg c4 h
    by_cases c6 : p1 = 3
    · replace h := it_pos c6 h
      refine lv_tableIn (tgt := 86) hx hb dX7_colour_18 (by rw [c6]; decide) (by rw [c6]; decide) (by rw [c6]; rfl) (by decide) ?_
      refine lv_aload_n hx hb dX7_colour_86 rfl (lv_at hl 0 rfl) ?_
      refine mw_get (ci := 5) (C := RX7) (T := TX7) (N := 6) (v := .ref a_t_now) hC i_X7_colour_X7 hM hc_t rfl 1 (by decide) l_X7_colour_0 rfl rfl dX7_colour_87 ?_
      refine lv_iload_n hx hb dX7_colour_90 rfl (lv_at hl 1 rfl) ?_
      obtain ⟨r7, hr7, h⟩ := ob_some h
      refine mw_cl (mw_runV (As := [.int p0]) (rest := []) (ci := 0) (C := RX0) (T := TX0) (N := 11) hC hM hS hc_t_now rfl (c_X0_trueEyes (a_t := a_t_now) (a_t_before0 := a_t_now_before0) (a_t_before1 := a_t_now_before1) (a_t_grid := a_t_now_grid) (w_t := w_t_now) (w_t_grid := w_t_now_grid) (p0 := p0) (hc_t := hc_t_now) (hc_t_grid := hc_t_now_grid) (v := r7) hr7) gX7_colour_X0_trueEyes rfl rfl rfl rfl q_X0_trueEyes ⟨Nat.le_of_ble_eq_true rfl, Nat.le_of_ble_eq_true rfl⟩ rfl rfl (Nat.le_of_ble_eq_true rfl) hl.1 dX7_colour_91 ⟨Nat.le_of_ble_eq_true rfl, Nat.le_of_ble_eq_true rfl⟩) ?_
      refine mw_ci (mw_runS (As := [.long r7]) (rest := []) hC hM hS (c_J13_bitCount_95d88 (p0 := r7) (v := (fJ13_bitCount_95d88 r7)) rfl) gX7_colour_J13_bitCount_95d88 rfl rfl rfl q_J13_bitCount_95d88 ⟨Nat.le_of_ble_eq_true rfl, Nat.le_of_ble_eq_true rfl⟩ rfl rfl (Nat.le_of_ble_eq_true rfl) hl.1 dX7_colour_94 ⟨Nat.le_of_ble_eq_true rfl, Nat.le_of_ble_eq_true rfl⟩) ?_
      cases h
      refine W.widen (k := 1) (n := 6) (by decide) (by decide) ?_
      exact vx_ret (W.iret hx hb hr (fun t ht hW => ⟨⟨_, _, rfl, ⟨_, rfl, rfl, (fun _ _ h9  => h9)⟩, by show MW z D _ t.heap; rw [ht]; exact hM⟩, hS.F ht⟩) hS.2.2 dX7_colour_97 hlocks)
    replace h := it_neg c6 h
    by_cases c8 : p1 = 4
    · replace h := it_pos c8 h
      refine lv_tableIn (tgt := 98) hx hb dX7_colour_18 (by rw [c8]; decide) (by rw [c8]; decide) (by rw [c8]; rfl) (by decide) ?_
      refine lv_aload_n hx hb dX7_colour_98 rfl (lv_at hl 0 rfl) ?_
      refine mw_get (ci := 5) (C := RX7) (T := TX7) (N := 6) (v := .ref a_t_now) hC i_X7_colour_X7 hM hc_t rfl 1 (by decide) l_X7_colour_0 rfl rfl dX7_colour_99 ?_
      refine lv_iload_n hx hb dX7_colour_102 rfl (lv_at hl 1 rfl) ?_
      obtain ⟨r9, hr9, h⟩ := ob_some h
      refine mw_cl (mw_runV (As := [.int p0]) (rest := []) (ci := 0) (C := RX0) (T := TX0) (N := 11) hC hM hS hc_t_now rfl (c_X0_falseEyes (a_t := a_t_now) (a_t_before0 := a_t_now_before0) (a_t_before1 := a_t_now_before1) (a_t_grid := a_t_now_grid) (w_t := w_t_now) (w_t_grid := w_t_now_grid) (p0 := p0) (hc_t := hc_t_now) (hc_t_grid := hc_t_now_grid) (v := r9) hr9) gX7_colour_X0_falseEyes rfl rfl rfl rfl q_X0_falseEyes ⟨Nat.le_of_ble_eq_true rfl, Nat.le_of_ble_eq_true rfl⟩ rfl rfl (Nat.le_of_ble_eq_true rfl) hl.1 dX7_colour_103 ⟨Nat.le_of_ble_eq_true rfl, Nat.le_of_ble_eq_true rfl⟩) ?_
      refine mw_ci (mw_runS (As := [.long r9]) (rest := []) hC hM hS (c_J13_bitCount_95d88 (p0 := r9) (v := (fJ13_bitCount_95d88 r9)) rfl) gX7_colour_J13_bitCount_95d88 rfl rfl rfl q_J13_bitCount_95d88 ⟨Nat.le_of_ble_eq_true rfl, Nat.le_of_ble_eq_true rfl⟩ rfl rfl (Nat.le_of_ble_eq_true rfl) hl.1 dX7_colour_106 ⟨Nat.le_of_ble_eq_true rfl, Nat.le_of_ble_eq_true rfl⟩) ?_
      cases h
      refine W.widen (k := 1) (n := 6) (by decide) (by decide) ?_
      exact vx_ret (W.iret hx hb hr (fun t ht hW => ⟨⟨_, _, rfl, ⟨_, rfl, rfl, (fun _ _ h9  => h9)⟩, by show MW z D _ t.heap; rw [ht]; exact hM⟩, hS.F ht⟩) hS.2.2 dX7_colour_109 hlocks)
    replace h := it_neg c8 h
    by_cases c10 : p1 = 5
    · replace h := it_pos c10 h
      refine lv_tableIn (tgt := 110) hx hb dX7_colour_18 (by rw [c10]; decide) (by rw [c10]; decide) (by rw [c10]; rfl) (by decide) ?_
      refine lv_aload_n hx hb dX7_colour_110 rfl (lv_at hl 0 rfl) ?_
      refine mw_get (ci := 5) (C := RX7) (T := TX7) (N := 6) (v := .ref a_t_now) hC i_X7_colour_X7 hM hc_t rfl 1 (by decide) l_X7_colour_0 rfl rfl dX7_colour_111 ?_
      refine lv_iload_n hx hb dX7_colour_114 rfl (lv_at hl 1 rfl) ?_
      obtain ⟨r11, hr11, h⟩ := ob_some h
      refine mw_ci (mw_runV (As := [.int p0]) (rest := []) (ci := 0) (C := RX0) (T := TX0) (N := 11) hC hM hS hc_t_now rfl (c_X0_groupsOf (a_t := a_t_now) (a_t_before0 := a_t_now_before0) (a_t_before1 := a_t_now_before1) (a_t_grid := a_t_now_grid) (w_t := w_t_now) (w_t_grid := w_t_now_grid) (p0 := p0) (hc_t := hc_t_now) (hc_t_grid := hc_t_now_grid) (v := r11) hr11) gX7_colour_X0_groupsOf rfl rfl rfl rfl q_X0_groupsOf ⟨Nat.le_of_ble_eq_true rfl, Nat.le_of_ble_eq_true rfl⟩ rfl rfl (Nat.le_of_ble_eq_true rfl) hl.1 dX7_colour_115 ⟨Nat.le_of_ble_eq_true rfl, Nat.le_of_ble_eq_true rfl⟩) ?_
      cases h
      refine W.widen (k := 1) (n := 6) (by decide) (by decide) ?_
      exact vx_ret (W.iret hx hb hr (fun t ht hW => ⟨⟨_, _, rfl, ⟨_, rfl, rfl, (fun _ _ h9  => h9)⟩, by show MW z D _ t.heap; rw [ht]; exact hM⟩, hS.F ht⟩) hS.2.2 dX7_colour_118 hlocks)
    replace h := it_neg c10 h
    refine lv_tableOut (tgt := 119) hx hb dX7_colour_18 (by have t0 := lv_neT (a := 0) c2 rfl; have t1 := lv_neT (a := 1) c3 rfl; have t2 := lv_neT (a := 2) c4 rfl; have t3 := lv_neT (a := 3) c6 rfl; have t4 := lv_neT (a := 4) c8 rfl; have t5 := lv_neT (a := 5) c10 rfl; omega) (by decide) ?_
    cases h
    exact mx_throw hC hX hlt hM hS rfl (by decide +kernel) l_X7_colour_3 l_X7_colour_4 (sx_174 hX.2.2.1) a_X7_colour_A xb_A (xc_A hX) xg_A hl.1 dX7_colour_119 dX7_colour_122 dX7_colour_123 dX7_colour_125 dX7_colour_128 hex (Nat.le_of_ble_eq_true rfl) (Nat.le_of_ble_eq_true rfl) (Nat.le_of_ble_eq_true rfl) (Nat.le_of_ble_eq_true rfl) hlocks (Nat.le_of_ble_eq_true rfl) (Nat.le_of_ble_eq_true rfl)
  · replace c1 := b2i_eq0.mp c1
    replace h := it_neg c1 h
    cases h
    exact mx_throw hC hX hlt hM hS rfl (by decide +kernel) l_X7_colour_6 l_X7_colour_7 (sx_149 hX.2.2.1) a_X7_colour_O xb_O (xc_O hX) xg_O hl.1 dX7_colour_7 dX7_colour_10 dX7_colour_11 dX7_colour_13 dX7_colour_16 hex (Nat.le_of_ble_eq_true rfl) (Nat.le_of_ble_eq_true rfl) (Nat.le_of_ble_eq_true rfl) (Nat.le_of_ble_eq_true rfl) hlocks (Nat.le_of_ble_eq_true rfl) (Nat.le_of_ble_eq_true rfl)
theorem l_X7_point_0 : Cond.fieldLink RX7 26 "CornerStones" "now" "LCornerStones$Game;" ∈ wsX7_point := (List.mem_cons_of_mem _ (List.mem_append_left _ (List.mem_append_left _ (List.mem_append_left _ (List.mem_append_left _ (List.mem_append_left _ (List.mem_append_left _ (List.mem_of_getElem? (i := 4) rfl))))))))
theorem i_X7_point_X7 : ∀ w ∈ wsX70, w ∈ wsX7_point := fun _ h => (List.mem_cons_of_mem _ (List.mem_append_left _ (List.mem_append_left _ (List.mem_append_left _ (List.mem_append_left _ (List.mem_append_right _ h))))))
theorem i_X7_point_X0 : ∀ w ∈ wsX00, w ∈ wsX7_point := fun _ h => (List.mem_cons_of_mem _ (List.mem_append_left _ (List.mem_append_left _ (List.mem_append_left _ (List.mem_append_right _ h)))))
theorem a_X7_point_A : ∀ w ∈ (vx_atS RX7 54 "java/lang/IllegalArgumentException" ["java/lang/RuntimeException", "java/lang/Exception"]).filter goodWord, w ∈ wsX7_point := fun _ h => (List.mem_cons_of_mem _ (List.mem_append_right _ h))
theorem l_X7_point_4 : Cond.classLink RX7 50 "java/lang/IllegalArgumentException" ∈ wsX7_point := (List.mem_cons_of_mem _ (List.mem_append_left _ (List.mem_append_left _ (List.mem_append_left _ (List.mem_append_left _ (List.mem_append_left _ (List.mem_append_left _ (List.mem_of_getElem? (i := 2) rfl))))))))
theorem l_X7_point_5 : Cond.initialized "java/lang/IllegalArgumentException" ∈ wsX7_point := (List.mem_cons_of_mem _ (List.mem_append_left _ (List.mem_append_left _ (List.mem_append_left _ (List.mem_append_left _ (List.mem_append_left _ (List.mem_append_left _ (List.mem_of_getElem? (i := 3) rfl))))))))
theorem a_X7_point_O : ∀ w ∈ (vx_atS RX7 151 "java/lang/IndexOutOfBoundsException" ["java/lang/RuntimeException", "java/lang/Exception"]).filter goodWord, w ∈ wsX7_point := fun _ h => (List.mem_cons_of_mem _ (List.mem_append_left _ (List.mem_append_right _ h)))
theorem l_X7_point_7 : Cond.classLink RX7 147 "java/lang/IndexOutOfBoundsException" ∈ wsX7_point := (List.mem_cons_of_mem _ (List.mem_append_left _ (List.mem_append_left _ (List.mem_append_left _ (List.mem_append_left _ (List.mem_append_left _ (List.mem_append_left _ (List.mem_of_getElem? (i := 0) rfl))))))))
theorem l_X7_point_8 : Cond.initialized "java/lang/IndexOutOfBoundsException" ∈ wsX7_point := (List.mem_cons_of_mem _ (List.mem_append_left _ (List.mem_append_left _ (List.mem_append_left _ (List.mem_append_left _ (List.mem_append_left _ (List.mem_append_left _ (List.mem_of_getElem? (i := 1) rfl))))))))
theorem q_X7_point : yX7_point.cls ≠ "java/lang/invoke/MethodHandle" ∧ yX7_point.cls ≠ "java/lang/invoke/VarHandle" ∧ (parseMethodDescriptor yX7_point.desc).map (fun d => d.parameters.length) = some 2 := by decide +kernel
def fX7_point (w_t_now : Int32 × Int32 × Int32 × Int32 × Int64 × Int64 × Int32 × Int32) (w_t_now_grid : Int32 × Int32 × Int64 × Int64 × Int64) (p0 : Int32) (p1 : Int32) : Option (String ⊕ (Int32)) := if (fX2_has w_t_now_grid p0) = true then (if p1 = 0 then (some (Sum.inr ((fX0_colourAt w_t_now p0)))) else (if p1 = 1 then ((fX0_groupAt w_t_now w_t_now_grid p0).bind fun r4 => some (Sum.inr ((fJ13_bitCount_95d88 r4)))) else (if p1 = 2 then ((fX0_libertiesAt w_t_now w_t_now_grid p0).bind fun r6 => some (Sum.inr ((fJ13_bitCount_95d88 r6)))) else (if p1 = 3 then ((fX0_eyeAt w_t_now w_t_now_grid p0).bind fun r8 => some (Sum.inr (r8))) else (if p1 = 4 then ((fX0_partAt w_t_now w_t_now_grid p0).bind fun r10 => some (Sum.inr ((fJ13_bitCount_95d88 r10)))) else (if p1 = 5 then ((fX0_trueEyesAt w_t_now w_t_now_grid p0).bind fun r12 => some (Sum.inr (r12))) else (some (Sum.inl "java/lang/IllegalArgumentException")))))))) else (some (Sum.inl "java/lang/IndexOutOfBoundsException"))
set_option maxHeartbeats 4000000 in
set_option maxRecDepth 100000 in
theorem c_X7_point {l : Launch} {z : Nat} {D : va_G} {K : Nat → ClassId} {σ : mwm} {a_t a_t_text a_t_now a_t_copy a_t_memory a_t_slot0 a_t_slot1 a_t_now_before0 a_t_now_before1 a_t_now_grid : Nat} {w_t_now : Int32 × Int32 × Int32 × Int32 × Int64 × Int64 × Int32 × Int32} {w_t_now_grid : Int32 × Int32 × Int64 × Int64 × Int64} {p0 : Int32} {p1 : Int32} (hc_t : σ a_t = some (cl5 a_t_text a_t_now a_t_copy a_t_memory a_t_slot0 a_t_slot1)) (hc_t_now : σ a_t_now = some (cl0 a_t_now_before0 a_t_now_before1 a_t_now_grid w_t_now)) (hc_t_now_grid : σ a_t_now_grid = some (cl2  w_t_now_grid)) (hlt : l.stackTraces = false) {v : String ⊕ (Int32)} (h : fX7_point w_t_now w_t_now_grid p0 p1 = some v) : vx_Met l yX7_point wsX7_point ({ frames := 6, cells := 1, slots := 6, locals := 121 } : Room) (PCx z D K [.ref a_t, .int p0, .int p1] σ) (qwI z D (fun r σ2 => ∃ w9 : Int32, v = Sum.inr w9 ∧ r = w9 ∧ ∀ (q : Nat) (f : va_E), σ q = some f → σ2 q = some f)) (XQ z D σ v) 1 6 (zA z) := by
  refine mx_enter (cc := cX7_point) (maxL := 3) (ret := (some .int)) (own := RX7) (lv := [(0, .ref a_t), (1, .int p0), (2, .int p1)]) (by decide) rfl rfl (Nat.le_of_ble_eq_true rfl) rfl ?_
  intro p e s m below meth c ls hC hx hb hown hts hK hr hlocks hnm hz hM hS hl hX hex
  unfold fX7_point at h
  refine lv_aload_n hx hb dX7_point_0 rfl (lv_at hl 0 rfl) ?_
  refine mw_get (ci := 5) (C := RX7) (T := TX7) (N := 6) (v := .ref a_t_now) hC i_X7_point_X7 hM hc_t rfl 1 (by decide) l_X7_point_0 rfl rfl dX7_point_1 ?_
  refine mw_getN (ci := 0) (C := RX0) (T := TX0) (N := 11) (v := .ref a_t_now_grid) hC i_X7_point_X0 hM hc_t_now rfl 2 (by decide) (nx_RX7_118 hC.2.2.2) rfl rfl dX7_point_4 ?_
  refine lv_iload_n hx hb dX7_point_7 rfl (lv_at hl 1 rfl) ?_
  refine mw_ci (mw_runV (As := [.int p0]) (rest := []) (ci := 2) (C := RX2) (T := TX2) (N := 5) hC hM hS hc_t_now_grid rfl (c_X2_has (a_t := a_t_now_grid) (w_t := w_t_now_grid) (p0 := p0) (hc_t := hc_t_now_grid) (v := (fX2_has w_t_now_grid p0)) rfl) gX7_point_X2_has rfl rfl rfl rfl q_X2_has ⟨Nat.le_of_ble_eq_true rfl, Nat.le_of_ble_eq_true rfl⟩ rfl rfl (Nat.le_of_ble_eq_true rfl) hl.1 dX7_point_8 ⟨Nat.le_of_ble_eq_true rfl, Nat.le_of_ble_eq_true rfl⟩) ?_
  refine lv_if_ne (tgt := 24) hx hb dX7_point_11 (by decide) (fun c1 => ?_) (fun c1 => ?_)
  · replace c1 := b2i_ne0.mp c1
    replace h := it_pos c1 h
    refine lv_iload_n hx hb dX7_point_24 rfl (lv_at hl 2 rfl) ?_
    by_cases c2 : p1 = 0
    · replace h := it_pos c2 h
      refine lv_tableIn (tgt := 64) hx hb dX7_point_25 (by rw [c2]; decide) (by rw [c2]; decide) (by rw [c2]; rfl) (by decide) ?_
      refine lv_aload_n hx hb dX7_point_64 rfl (lv_at hl 0 rfl) ?_
      refine mw_get (ci := 5) (C := RX7) (T := TX7) (N := 6) (v := .ref a_t_now) hC i_X7_point_X7 hM hc_t rfl 1 (by decide) l_X7_point_0 rfl rfl dX7_point_65 ?_
      refine lv_iload_n hx hb dX7_point_68 rfl (lv_at hl 1 rfl) ?_
      refine mw_ci (mw_runV (As := [.int p0]) (rest := []) (ci := 0) (C := RX0) (T := TX0) (N := 11) hC hM hS hc_t_now rfl (c_X0_colourAt (a_t := a_t_now) (a_t_before0 := a_t_now_before0) (a_t_before1 := a_t_now_before1) (a_t_grid := a_t_now_grid) (w_t := w_t_now) (p0 := p0) (hc_t := hc_t_now) (v := (fX0_colourAt w_t_now p0)) rfl) gX7_point_X0_colourAt rfl rfl rfl rfl q_X0_colourAt ⟨Nat.le_of_ble_eq_true rfl, Nat.le_of_ble_eq_true rfl⟩ rfl rfl (Nat.le_of_ble_eq_true rfl) hl.1 dX7_point_69 ⟨Nat.le_of_ble_eq_true rfl, Nat.le_of_ble_eq_true rfl⟩) ?_
      cases h
      refine W.widen (k := 1) (n := 6) (by decide) (by decide) ?_
      exact vx_ret (W.iret hx hb hr (fun t ht hW => ⟨⟨_, _, rfl, ⟨_, rfl, rfl, (fun _ _ h9  => h9)⟩, by show MW z D _ t.heap; rw [ht]; exact hM⟩, hS.F ht⟩) hS.2.2 dX7_point_72 hlocks)
    replace h := it_neg c2 h
    by_cases c3 : p1 = 1
    · replace h := it_pos c3 h
      refine lv_tableIn (tgt := 73) hx hb dX7_point_25 (by rw [c3]; decide) (by rw [c3]; decide) (by rw [c3]; rfl) (by decide) ?_
      refine lv_aload_n hx hb dX7_point_73 rfl (lv_at hl 0 rfl) ?_
      refine mw_get (ci := 5) (C := RX7) (T := TX7) (N := 6) (v := .ref a_t_now) hC i_X7_point_X7 hM hc_t rfl 1 (by decide) l_X7_point_0 rfl rfl dX7_point_74 ?_
      refine lv_iload_n hx hb dX7_point_77 rfl (lv_at hl 1 rfl) ?_
      obtain ⟨r4, hr4, h⟩ := ob_some h
      refine mw_cl (mw_runV (As := [.int p0]) (rest := []) (ci := 0) (C := RX0) (T := TX0) (N := 11) hC hM hS hc_t_now rfl (c_X0_groupAt (a_t := a_t_now) (a_t_before0 := a_t_now_before0) (a_t_before1 := a_t_now_before1) (a_t_grid := a_t_now_grid) (w_t := w_t_now) (w_t_grid := w_t_now_grid) (p0 := p0) (hc_t := hc_t_now) (hc_t_grid := hc_t_now_grid) (v := r4) hr4) gX7_point_X0_groupAt rfl rfl rfl rfl q_X0_groupAt ⟨Nat.le_of_ble_eq_true rfl, Nat.le_of_ble_eq_true rfl⟩ rfl rfl (Nat.le_of_ble_eq_true rfl) hl.1 dX7_point_78 ⟨Nat.le_of_ble_eq_true rfl, Nat.le_of_ble_eq_true rfl⟩) ?_
      refine mw_ci (mw_runS (As := [.long r4]) (rest := []) hC hM hS (c_J13_bitCount_95d88 (p0 := r4) (v := (fJ13_bitCount_95d88 r4)) rfl) gX7_point_J13_bitCount_95d88 rfl rfl rfl q_J13_bitCount_95d88 ⟨Nat.le_of_ble_eq_true rfl, Nat.le_of_ble_eq_true rfl⟩ rfl rfl (Nat.le_of_ble_eq_true rfl) hl.1 dX7_point_81 ⟨Nat.le_of_ble_eq_true rfl, Nat.le_of_ble_eq_true rfl⟩) ?_
      cases h
      refine W.widen (k := 1) (n := 6) (by decide) (by decide) ?_
      exact vx_ret (W.iret hx hb hr (fun t ht hW => ⟨⟨_, _, rfl, ⟨_, rfl, rfl, (fun _ _ h9  => h9)⟩, by show MW z D _ t.heap; rw [ht]; exact hM⟩, hS.F ht⟩) hS.2.2 dX7_point_84 hlocks)
    replace h := it_neg c3 h
    by_cases c5 : p1 = 2
    · replace h := it_pos c5 h
      refine lv_tableIn (tgt := 85) hx hb dX7_point_25 (by rw [c5]; decide) (by rw [c5]; decide) (by rw [c5]; rfl) (by decide) ?_
      refine lv_aload_n hx hb dX7_point_85 rfl (lv_at hl 0 rfl) ?_
      refine mw_get (ci := 5) (C := RX7) (T := TX7) (N := 6) (v := .ref a_t_now) hC i_X7_point_X7 hM hc_t rfl 1 (by decide) l_X7_point_0 rfl rfl dX7_point_86 ?_
      refine lv_iload_n hx hb dX7_point_89 rfl (lv_at hl 1 rfl) ?_
      obtain ⟨r6, hr6, h⟩ := ob_some h
      refine mw_cl (mw_runV (As := [.int p0]) (rest := []) (ci := 0) (C := RX0) (T := TX0) (N := 11) hC hM hS hc_t_now rfl (c_X0_libertiesAt (a_t := a_t_now) (a_t_before0 := a_t_now_before0) (a_t_before1 := a_t_now_before1) (a_t_grid := a_t_now_grid) (w_t := w_t_now) (w_t_grid := w_t_now_grid) (p0 := p0) (hc_t := hc_t_now) (hc_t_grid := hc_t_now_grid) (v := r6) hr6) gX7_point_X0_libertiesAt rfl rfl rfl rfl q_X0_libertiesAt ⟨Nat.le_of_ble_eq_true rfl, Nat.le_of_ble_eq_true rfl⟩ rfl rfl (Nat.le_of_ble_eq_true rfl) hl.1 dX7_point_90 ⟨Nat.le_of_ble_eq_true rfl, Nat.le_of_ble_eq_true rfl⟩) ?_
      refine mw_ci (mw_runS (As := [.long r6]) (rest := []) hC hM hS (c_J13_bitCount_95d88 (p0 := r6) (v := (fJ13_bitCount_95d88 r6)) rfl) gX7_point_J13_bitCount_95d88 rfl rfl rfl q_J13_bitCount_95d88 ⟨Nat.le_of_ble_eq_true rfl, Nat.le_of_ble_eq_true rfl⟩ rfl rfl (Nat.le_of_ble_eq_true rfl) hl.1 dX7_point_93 ⟨Nat.le_of_ble_eq_true rfl, Nat.le_of_ble_eq_true rfl⟩) ?_
      cases h
      refine W.widen (k := 1) (n := 6) (by decide) (by decide) ?_
      exact vx_ret (W.iret hx hb hr (fun t ht hW => ⟨⟨_, _, rfl, ⟨_, rfl, rfl, (fun _ _ h9  => h9)⟩, by show MW z D _ t.heap; rw [ht]; exact hM⟩, hS.F ht⟩) hS.2.2 dX7_point_96 hlocks)
    replace h := it_neg c5 h
    by_cases c7 : p1 = 3
    · replace h := it_pos c7 h
      refine lv_tableIn (tgt := 97) hx hb dX7_point_25 (by rw [c7]; decide) (by rw [c7]; decide) (by rw [c7]; rfl) (by decide) ?_
      refine lv_aload_n hx hb dX7_point_97 rfl (lv_at hl 0 rfl) ?_
      refine mw_get (ci := 5) (C := RX7) (T := TX7) (N := 6) (v := .ref a_t_now) hC i_X7_point_X7 hM hc_t rfl 1 (by decide) l_X7_point_0 rfl rfl dX7_point_98 ?_
      refine lv_iload_n hx hb dX7_point_101 rfl (lv_at hl 1 rfl) ?_
      obtain ⟨r8, hr8, h⟩ := ob_some h
      refine mw_ci (mw_runV (As := [.int p0]) (rest := []) (ci := 0) (C := RX0) (T := TX0) (N := 11) hC hM hS hc_t_now rfl (c_X0_eyeAt (a_t := a_t_now) (a_t_before0 := a_t_now_before0) (a_t_before1 := a_t_now_before1) (a_t_grid := a_t_now_grid) (w_t := w_t_now) (w_t_grid := w_t_now_grid) (p0 := p0) (hc_t := hc_t_now) (hc_t_grid := hc_t_now_grid) (v := r8) hr8) gX7_point_X0_eyeAt rfl rfl rfl rfl q_X0_eyeAt ⟨Nat.le_of_ble_eq_true rfl, Nat.le_of_ble_eq_true rfl⟩ rfl rfl (Nat.le_of_ble_eq_true rfl) hl.1 dX7_point_102 ⟨Nat.le_of_ble_eq_true rfl, Nat.le_of_ble_eq_true rfl⟩) ?_
      cases h
      refine W.widen (k := 1) (n := 6) (by decide) (by decide) ?_
      exact vx_ret (W.iret hx hb hr (fun t ht hW => ⟨⟨_, _, rfl, ⟨_, rfl, rfl, (fun _ _ h9  => h9)⟩, by show MW z D _ t.heap; rw [ht]; exact hM⟩, hS.F ht⟩) hS.2.2 dX7_point_105 hlocks)
    replace h := it_neg c7 h
    by_cases c9 : p1 = 4
    · replace h := it_pos c9 h
      refine lv_tableIn (tgt := 106) hx hb dX7_point_25 (by rw [c9]; decide) (by rw [c9]; decide) (by rw [c9]; rfl) (by decide) ?_
      refine lv_aload_n hx hb dX7_point_106 rfl (lv_at hl 0 rfl) ?_
      refine mw_get (ci := 5) (C := RX7) (T := TX7) (N := 6) (v := .ref a_t_now) hC i_X7_point_X7 hM hc_t rfl 1 (by decide) l_X7_point_0 rfl rfl dX7_point_107 ?_
      refine lv_iload_n hx hb dX7_point_110 rfl (lv_at hl 1 rfl) ?_
      obtain ⟨r10, hr10, h⟩ := ob_some h
      refine mw_cl (mw_runV (As := [.int p0]) (rest := []) (ci := 0) (C := RX0) (T := TX0) (N := 11) hC hM hS hc_t_now rfl (c_X0_partAt (a_t := a_t_now) (a_t_before0 := a_t_now_before0) (a_t_before1 := a_t_now_before1) (a_t_grid := a_t_now_grid) (w_t := w_t_now) (w_t_grid := w_t_now_grid) (p0 := p0) (hc_t := hc_t_now) (hc_t_grid := hc_t_now_grid) (v := r10) hr10) gX7_point_X0_partAt rfl rfl rfl rfl q_X0_partAt ⟨Nat.le_of_ble_eq_true rfl, Nat.le_of_ble_eq_true rfl⟩ rfl rfl (Nat.le_of_ble_eq_true rfl) hl.1 dX7_point_111 ⟨Nat.le_of_ble_eq_true rfl, Nat.le_of_ble_eq_true rfl⟩) ?_
      refine mw_ci (mw_runS (As := [.long r10]) (rest := []) hC hM hS (c_J13_bitCount_95d88 (p0 := r10) (v := (fJ13_bitCount_95d88 r10)) rfl) gX7_point_J13_bitCount_95d88 rfl rfl rfl q_J13_bitCount_95d88 ⟨Nat.le_of_ble_eq_true rfl, Nat.le_of_ble_eq_true rfl⟩ rfl rfl (Nat.le_of_ble_eq_true rfl) hl.1 dX7_point_114 ⟨Nat.le_of_ble_eq_true rfl, Nat.le_of_ble_eq_true rfl⟩) ?_
      cases h
      refine W.widen (k := 1) (n := 6) (by decide) (by decide) ?_
      exact vx_ret (W.iret hx hb hr (fun t ht hW => ⟨⟨_, _, rfl, ⟨_, rfl, rfl, (fun _ _ h9  => h9)⟩, by show MW z D _ t.heap; rw [ht]; exact hM⟩, hS.F ht⟩) hS.2.2 dX7_point_117 hlocks)
    replace h := it_neg c9 h
    by_cases c11 : p1 = 5
    · replace h := it_pos c11 h
      refine lv_tableIn (tgt := 118) hx hb dX7_point_25 (by rw [c11]; decide) (by rw [c11]; decide) (by rw [c11]; rfl) (by decide) ?_
      refine lv_aload_n hx hb dX7_point_118 rfl (lv_at hl 0 rfl) ?_
      refine mw_get (ci := 5) (C := RX7) (T := TX7) (N := 6) (v := .ref a_t_now) hC i_X7_point_X7 hM hc_t rfl 1 (by decide) l_X7_point_0 rfl rfl dX7_point_119 ?_
      refine lv_iload_n hx hb dX7_point_122 rfl (lv_at hl 1 rfl) ?_
      obtain ⟨r12, hr12, h⟩ := ob_some h
      refine mw_ci (mw_runV (As := [.int p0]) (rest := []) (ci := 0) (C := RX0) (T := TX0) (N := 11) hC hM hS hc_t_now rfl (c_X0_trueEyesAt (a_t := a_t_now) (a_t_before0 := a_t_now_before0) (a_t_before1 := a_t_now_before1) (a_t_grid := a_t_now_grid) (w_t := w_t_now) (w_t_grid := w_t_now_grid) (p0 := p0) (hc_t := hc_t_now) (hc_t_grid := hc_t_now_grid) (v := r12) hr12) gX7_point_X0_trueEyesAt rfl rfl rfl rfl q_X0_trueEyesAt ⟨Nat.le_of_ble_eq_true rfl, Nat.le_of_ble_eq_true rfl⟩ rfl rfl (Nat.le_of_ble_eq_true rfl) hl.1 dX7_point_123 ⟨Nat.le_of_ble_eq_true rfl, Nat.le_of_ble_eq_true rfl⟩) ?_
      cases h
      refine W.widen (k := 1) (n := 6) (by decide) (by decide) ?_
      exact vx_ret (W.iret hx hb hr (fun t ht hW => ⟨⟨_, _, rfl, ⟨_, rfl, rfl, (fun _ _ h9  => h9)⟩, by show MW z D _ t.heap; rw [ht]; exact hM⟩, hS.F ht⟩) hS.2.2 dX7_point_126 hlocks)
    replace h := it_neg c11 h
    refine lv_tableOut (tgt := 127) hx hb dX7_point_25 (by have t0 := lv_neT (a := 0) c2 rfl; have t1 := lv_neT (a := 1) c3 rfl; have t2 := lv_neT (a := 2) c5 rfl; have t3 := lv_neT (a := 3) c7 rfl; have t4 := lv_neT (a := 4) c9 rfl; have t5 := lv_neT (a := 5) c11 rfl; omega) (by decide) ?_
    cases h
    exact mx_throw hC hX hlt hM hS rfl (by decide +kernel) l_X7_point_4 l_X7_point_5 (sx_174 hX.2.2.1) a_X7_point_A xb_A (xc_A hX) xg_A hl.1 dX7_point_127 dX7_point_130 dX7_point_131 dX7_point_133 dX7_point_136 hex (Nat.le_of_ble_eq_true rfl) (Nat.le_of_ble_eq_true rfl) (Nat.le_of_ble_eq_true rfl) (Nat.le_of_ble_eq_true rfl) hlocks (Nat.le_of_ble_eq_true rfl) (Nat.le_of_ble_eq_true rfl)
  · replace c1 := b2i_eq0.mp c1
    replace h := it_neg c1 h
    cases h
    exact mx_throw hC hX hlt hM hS rfl (by decide +kernel) l_X7_point_7 l_X7_point_8 (sx_179 hX.2.2.1) a_X7_point_O xb_O (xc_O hX) xg_O hl.1 dX7_point_14 dX7_point_17 dX7_point_18 dX7_point_20 dX7_point_23 hex (Nat.le_of_ble_eq_true rfl) (Nat.le_of_ble_eq_true rfl) (Nat.le_of_ble_eq_true rfl) (Nat.le_of_ble_eq_true rfl) hlocks (Nat.le_of_ble_eq_true rfl) (Nat.le_of_ble_eq_true rfl)
theorem l_X7_group_0 : Cond.fieldLink RX7 26 "CornerStones" "now" "LCornerStones$Game;" ∈ wsX7_group := (List.mem_cons_of_mem _ (List.mem_append_left _ (List.mem_append_left _ (List.mem_append_left _ (List.mem_append_left _ (List.mem_append_left _ (List.mem_append_left _ (List.mem_of_getElem? (i := 4) rfl))))))))
theorem i_X7_group_X7 : ∀ w ∈ wsX70, w ∈ wsX7_group := fun _ h => (List.mem_cons_of_mem _ (List.mem_append_left _ (List.mem_append_left _ (List.mem_append_left _ (List.mem_append_left _ (List.mem_append_right _ h))))))
theorem i_X7_group_X0 : ∀ w ∈ wsX00, w ∈ wsX7_group := fun _ h => (List.mem_cons_of_mem _ (List.mem_append_left _ (List.mem_append_left _ (List.mem_append_left _ (List.mem_append_right _ h)))))
theorem a_X7_group_A : ∀ w ∈ (vx_atS RX7 54 "java/lang/IllegalArgumentException" ["java/lang/RuntimeException", "java/lang/Exception"]).filter goodWord, w ∈ wsX7_group := fun _ h => (List.mem_cons_of_mem _ (List.mem_append_right _ h))
theorem l_X7_group_4 : Cond.classLink RX7 50 "java/lang/IllegalArgumentException" ∈ wsX7_group := (List.mem_cons_of_mem _ (List.mem_append_left _ (List.mem_append_left _ (List.mem_append_left _ (List.mem_append_left _ (List.mem_append_left _ (List.mem_append_left _ (List.mem_of_getElem? (i := 2) rfl))))))))
theorem l_X7_group_5 : Cond.initialized "java/lang/IllegalArgumentException" ∈ wsX7_group := (List.mem_cons_of_mem _ (List.mem_append_left _ (List.mem_append_left _ (List.mem_append_left _ (List.mem_append_left _ (List.mem_append_left _ (List.mem_append_left _ (List.mem_of_getElem? (i := 3) rfl))))))))
theorem a_X7_group_O : ∀ w ∈ (vx_atS RX7 151 "java/lang/IndexOutOfBoundsException" ["java/lang/RuntimeException", "java/lang/Exception"]).filter goodWord, w ∈ wsX7_group := fun _ h => (List.mem_cons_of_mem _ (List.mem_append_left _ (List.mem_append_right _ h)))
theorem l_X7_group_7 : Cond.classLink RX7 147 "java/lang/IndexOutOfBoundsException" ∈ wsX7_group := (List.mem_cons_of_mem _ (List.mem_append_left _ (List.mem_append_left _ (List.mem_append_left _ (List.mem_append_left _ (List.mem_append_left _ (List.mem_append_left _ (List.mem_of_getElem? (i := 0) rfl))))))))
theorem l_X7_group_8 : Cond.initialized "java/lang/IndexOutOfBoundsException" ∈ wsX7_group := (List.mem_cons_of_mem _ (List.mem_append_left _ (List.mem_append_left _ (List.mem_append_left _ (List.mem_append_left _ (List.mem_append_left _ (List.mem_append_left _ (List.mem_of_getElem? (i := 1) rfl))))))))
theorem q_X7_group : yX7_group.cls ≠ "java/lang/invoke/MethodHandle" ∧ yX7_group.cls ≠ "java/lang/invoke/VarHandle" ∧ (parseMethodDescriptor yX7_group.desc).map (fun d => d.parameters.length) = some 2 := by decide +kernel
def fX7_group (w_t_now : Int32 × Int32 × Int32 × Int32 × Int64 × Int64 × Int32 × Int32) (w_t_now_grid : Int32 × Int32 × Int64 × Int64 × Int64) (p0 : Int32) (p1 : Int32) : Option (String ⊕ (Int64)) := if (fX2_has w_t_now_grid p0) = true then (if p1 = 0 then (if p1 = 0 then ((fX0_groupAt w_t_now w_t_now_grid p0).bind fun r5 => some (Sum.inr (r5))) else ((fX0_libertiesAt w_t_now w_t_now_grid p0).bind fun r4 => some (Sum.inr (r4)))) else (if p1 = 1 then (if p1 = 0 then ((fX0_groupAt w_t_now w_t_now_grid p0).bind fun r9 => some (Sum.inr (r9))) else ((fX0_libertiesAt w_t_now w_t_now_grid p0).bind fun r8 => some (Sum.inr (r8)))) else (some (Sum.inl "java/lang/IllegalArgumentException")))) else (some (Sum.inl "java/lang/IndexOutOfBoundsException"))
set_option maxHeartbeats 4000000 in
set_option maxRecDepth 100000 in
theorem c_X7_group {l : Launch} {z : Nat} {D : va_G} {K : Nat → ClassId} {σ : mwm} {a_t a_t_text a_t_now a_t_copy a_t_memory a_t_slot0 a_t_slot1 a_t_now_before0 a_t_now_before1 a_t_now_grid : Nat} {w_t_now : Int32 × Int32 × Int32 × Int32 × Int64 × Int64 × Int32 × Int32} {w_t_now_grid : Int32 × Int32 × Int64 × Int64 × Int64} {p0 : Int32} {p1 : Int32} (hc_t : σ a_t = some (cl5 a_t_text a_t_now a_t_copy a_t_memory a_t_slot0 a_t_slot1)) (hc_t_now : σ a_t_now = some (cl0 a_t_now_before0 a_t_now_before1 a_t_now_grid w_t_now)) (hc_t_now_grid : σ a_t_now_grid = some (cl2  w_t_now_grid)) (hlt : l.stackTraces = false) {v : String ⊕ (Int64)} (h : fX7_group w_t_now w_t_now_grid p0 p1 = some v) : vx_Met l yX7_group wsX7_group ({ frames := 6, cells := 1, slots := 6, locals := 99 } : Room) (PCx z D K [.ref a_t, .int p0, .int p1] σ) (qwL z D (fun r σ2 => ∃ w9 : Int64, v = Sum.inr w9 ∧ r = w9 ∧ ∀ (q : Nat) (f : va_E), σ q = some f → σ2 q = some f)) (XQ z D σ v) 1 6 (zA z) := by
  refine mx_enter (cc := cX7_group) (maxL := 3) (ret := (some .long)) (own := RX7) (lv := [(0, .ref a_t), (1, .int p0), (2, .int p1)]) (by decide) rfl rfl (Nat.le_of_ble_eq_true rfl) rfl ?_
  intro p e s m below meth c ls hC hx hb hown hts hK hr hlocks hnm hz hM hS hl hX hex
  unfold fX7_group at h
  refine lv_aload_n hx hb dX7_group_0 rfl (lv_at hl 0 rfl) ?_
  refine mw_get (ci := 5) (C := RX7) (T := TX7) (N := 6) (v := .ref a_t_now) hC i_X7_group_X7 hM hc_t rfl 1 (by decide) l_X7_group_0 rfl rfl dX7_group_1 ?_
  refine mw_getN (ci := 0) (C := RX0) (T := TX0) (N := 11) (v := .ref a_t_now_grid) hC i_X7_group_X0 hM hc_t_now rfl 2 (by decide) (nx_RX7_118 hC.2.2.2) rfl rfl dX7_group_4 ?_
  refine lv_iload_n hx hb dX7_group_7 rfl (lv_at hl 1 rfl) ?_
  refine mw_ci (mw_runV (As := [.int p0]) (rest := []) (ci := 2) (C := RX2) (T := TX2) (N := 5) hC hM hS hc_t_now_grid rfl (c_X2_has (a_t := a_t_now_grid) (w_t := w_t_now_grid) (p0 := p0) (hc_t := hc_t_now_grid) (v := (fX2_has w_t_now_grid p0)) rfl) gX7_group_X2_has rfl rfl rfl rfl q_X2_has ⟨Nat.le_of_ble_eq_true rfl, Nat.le_of_ble_eq_true rfl⟩ rfl rfl (Nat.le_of_ble_eq_true rfl) hl.1 dX7_group_8 ⟨Nat.le_of_ble_eq_true rfl, Nat.le_of_ble_eq_true rfl⟩) ?_
  refine lv_if_ne (tgt := 24) hx hb dX7_group_11 (by decide) (fun c1 => ?_) (fun c1 => ?_)
  · replace c1 := b2i_ne0.mp c1
    replace h := it_pos c1 h
    refine lv_iload_n hx hb dX7_group_24 rfl (lv_at hl 2 rfl) ?_
    refine lv_if_eq (tgt := 43) hx hb dX7_group_25 (by decide) (fun c2 => ?_) (fun c2 => ?_)
    · replace h := it_pos c2 h
      refine lv_iload_n hx hb dX7_group_43 rfl (lv_at hl 2 rfl) ?_
      refine lv_if_ne (tgt := 58) hx hb dX7_group_44 (by decide) (fun c3 => ?_) (fun c3 => ?_)
      · replace h := it_neg c3 h
        refine lv_aload_n hx hb dX7_group_58 rfl (lv_at hl 0 rfl) ?_
        refine mw_get (ci := 5) (C := RX7) (T := TX7) (N := 6) (v := .ref a_t_now) hC i_X7_group_X7 hM hc_t rfl 1 (by decide) l_X7_group_0 rfl rfl dX7_group_59 ?_
        refine lv_iload_n hx hb dX7_group_62 rfl (lv_at hl 1 rfl) ?_
        obtain ⟨r4, hr4, h⟩ := ob_some h
        refine mw_cl (mw_runV (As := [.int p0]) (rest := []) (ci := 0) (C := RX0) (T := TX0) (N := 11) hC hM hS hc_t_now rfl (c_X0_libertiesAt (a_t := a_t_now) (a_t_before0 := a_t_now_before0) (a_t_before1 := a_t_now_before1) (a_t_grid := a_t_now_grid) (w_t := w_t_now) (w_t_grid := w_t_now_grid) (p0 := p0) (hc_t := hc_t_now) (hc_t_grid := hc_t_now_grid) (v := r4) hr4) gX7_group_X0_libertiesAt rfl rfl rfl rfl q_X0_libertiesAt ⟨Nat.le_of_ble_eq_true rfl, Nat.le_of_ble_eq_true rfl⟩ rfl rfl (Nat.le_of_ble_eq_true rfl) hl.1 dX7_group_63 ⟨Nat.le_of_ble_eq_true rfl, Nat.le_of_ble_eq_true rfl⟩) ?_
        cases h
        refine W.widen (k := 1) (n := 6) (by decide) (by decide) ?_
        exact vx_ret (W.lret hx hb hr (fun t ht hW => ⟨⟨_, _, rfl, ⟨_, rfl, rfl, (fun _ _ h9  => h9)⟩, by show MW z D _ t.heap; rw [ht]; exact hM⟩, hS.F ht⟩) hS.2.2 dX7_group_66 hlocks)
      · replace h := it_pos c3 h
        refine lv_aload_n hx hb dX7_group_47 rfl (lv_at hl 0 rfl) ?_
        refine mw_get (ci := 5) (C := RX7) (T := TX7) (N := 6) (v := .ref a_t_now) hC i_X7_group_X7 hM hc_t rfl 1 (by decide) l_X7_group_0 rfl rfl dX7_group_48 ?_
        refine lv_iload_n hx hb dX7_group_51 rfl (lv_at hl 1 rfl) ?_
        obtain ⟨r5, hr5, h⟩ := ob_some h
        refine mw_cl (mw_runV (As := [.int p0]) (rest := []) (ci := 0) (C := RX0) (T := TX0) (N := 11) hC hM hS hc_t_now rfl (c_X0_groupAt (a_t := a_t_now) (a_t_before0 := a_t_now_before0) (a_t_before1 := a_t_now_before1) (a_t_grid := a_t_now_grid) (w_t := w_t_now) (w_t_grid := w_t_now_grid) (p0 := p0) (hc_t := hc_t_now) (hc_t_grid := hc_t_now_grid) (v := r5) hr5) gX7_group_X0_groupAt rfl rfl rfl rfl q_X0_groupAt ⟨Nat.le_of_ble_eq_true rfl, Nat.le_of_ble_eq_true rfl⟩ rfl rfl (Nat.le_of_ble_eq_true rfl) hl.1 dX7_group_52 ⟨Nat.le_of_ble_eq_true rfl, Nat.le_of_ble_eq_true rfl⟩) ?_
        refine lv_goto (tgt := 66) hx hb dX7_group_55 (by decide) ?_
        cases h
        refine W.widen (k := 1) (n := 6) (by decide) (by decide) ?_
        exact vx_ret (W.lret hx hb hr (fun t ht hW => ⟨⟨_, _, rfl, ⟨_, rfl, rfl, (fun _ _ h9  => h9)⟩, by show MW z D _ t.heap; rw [ht]; exact hM⟩, hS.F ht⟩) hS.2.2 dX7_group_66 hlocks)
    · replace h := it_neg c2 h
      refine lv_iload_n hx hb dX7_group_28 rfl (lv_at hl 2 rfl) ?_
      refine lv_iconst (v := 1) hx hb dX7_group_29 (by decide) ?_
      refine lv_icmp_eq (tgt := 43) hx hb dX7_group_30 (by decide) (fun c6 => ?_) (fun c6 => ?_)
      · replace h := it_pos c6 h
        refine lv_iload_n hx hb dX7_group_43 rfl (lv_at hl 2 rfl) ?_
        refine lv_if_ne (tgt := 58) hx hb dX7_group_44 (by decide) (fun c7 => ?_) (fun c7 => ?_)
        · replace h := it_neg c7 h
          refine lv_aload_n hx hb dX7_group_58 rfl (lv_at hl 0 rfl) ?_
          refine mw_get (ci := 5) (C := RX7) (T := TX7) (N := 6) (v := .ref a_t_now) hC i_X7_group_X7 hM hc_t rfl 1 (by decide) l_X7_group_0 rfl rfl dX7_group_59 ?_
          refine lv_iload_n hx hb dX7_group_62 rfl (lv_at hl 1 rfl) ?_
          obtain ⟨r8, hr8, h⟩ := ob_some h
          refine mw_cl (mw_runV (As := [.int p0]) (rest := []) (ci := 0) (C := RX0) (T := TX0) (N := 11) hC hM hS hc_t_now rfl (c_X0_libertiesAt (a_t := a_t_now) (a_t_before0 := a_t_now_before0) (a_t_before1 := a_t_now_before1) (a_t_grid := a_t_now_grid) (w_t := w_t_now) (w_t_grid := w_t_now_grid) (p0 := p0) (hc_t := hc_t_now) (hc_t_grid := hc_t_now_grid) (v := r8) hr8) gX7_group_X0_libertiesAt rfl rfl rfl rfl q_X0_libertiesAt ⟨Nat.le_of_ble_eq_true rfl, Nat.le_of_ble_eq_true rfl⟩ rfl rfl (Nat.le_of_ble_eq_true rfl) hl.1 dX7_group_63 ⟨Nat.le_of_ble_eq_true rfl, Nat.le_of_ble_eq_true rfl⟩) ?_
          cases h
          refine W.widen (k := 1) (n := 6) (by decide) (by decide) ?_
          exact vx_ret (W.lret hx hb hr (fun t ht hW => ⟨⟨_, _, rfl, ⟨_, rfl, rfl, (fun _ _ h9  => h9)⟩, by show MW z D _ t.heap; rw [ht]; exact hM⟩, hS.F ht⟩) hS.2.2 dX7_group_66 hlocks)
        · replace h := it_pos c7 h
          refine lv_aload_n hx hb dX7_group_47 rfl (lv_at hl 0 rfl) ?_
          refine mw_get (ci := 5) (C := RX7) (T := TX7) (N := 6) (v := .ref a_t_now) hC i_X7_group_X7 hM hc_t rfl 1 (by decide) l_X7_group_0 rfl rfl dX7_group_48 ?_
          refine lv_iload_n hx hb dX7_group_51 rfl (lv_at hl 1 rfl) ?_
          obtain ⟨r9, hr9, h⟩ := ob_some h
          refine mw_cl (mw_runV (As := [.int p0]) (rest := []) (ci := 0) (C := RX0) (T := TX0) (N := 11) hC hM hS hc_t_now rfl (c_X0_groupAt (a_t := a_t_now) (a_t_before0 := a_t_now_before0) (a_t_before1 := a_t_now_before1) (a_t_grid := a_t_now_grid) (w_t := w_t_now) (w_t_grid := w_t_now_grid) (p0 := p0) (hc_t := hc_t_now) (hc_t_grid := hc_t_now_grid) (v := r9) hr9) gX7_group_X0_groupAt rfl rfl rfl rfl q_X0_groupAt ⟨Nat.le_of_ble_eq_true rfl, Nat.le_of_ble_eq_true rfl⟩ rfl rfl (Nat.le_of_ble_eq_true rfl) hl.1 dX7_group_52 ⟨Nat.le_of_ble_eq_true rfl, Nat.le_of_ble_eq_true rfl⟩) ?_
          refine lv_goto (tgt := 66) hx hb dX7_group_55 (by decide) ?_
          cases h
          refine W.widen (k := 1) (n := 6) (by decide) (by decide) ?_
          exact vx_ret (W.lret hx hb hr (fun t ht hW => ⟨⟨_, _, rfl, ⟨_, rfl, rfl, (fun _ _ h9  => h9)⟩, by show MW z D _ t.heap; rw [ht]; exact hM⟩, hS.F ht⟩) hS.2.2 dX7_group_66 hlocks)
      · replace h := it_neg c6 h
        cases h
        exact mx_throw hC hX hlt hM hS rfl (by decide +kernel) l_X7_group_4 l_X7_group_5 (sx_199 hX.2.2.1) a_X7_group_A xb_A (xc_A hX) xg_A hl.1 dX7_group_33 dX7_group_36 dX7_group_37 dX7_group_39 dX7_group_42 hex (Nat.le_of_ble_eq_true rfl) (Nat.le_of_ble_eq_true rfl) (Nat.le_of_ble_eq_true rfl) (Nat.le_of_ble_eq_true rfl) hlocks (Nat.le_of_ble_eq_true rfl) (Nat.le_of_ble_eq_true rfl)
  · replace c1 := b2i_eq0.mp c1
    replace h := it_neg c1 h
    cases h
    exact mx_throw hC hX hlt hM hS rfl (by decide +kernel) l_X7_group_7 l_X7_group_8 (sx_179 hX.2.2.1) a_X7_group_O xb_O (xc_O hX) xg_O hl.1 dX7_group_14 dX7_group_17 dX7_group_18 dX7_group_20 dX7_group_23 hex (Nat.le_of_ble_eq_true rfl) (Nat.le_of_ble_eq_true rfl) (Nat.le_of_ble_eq_true rfl) (Nat.le_of_ble_eq_true rfl) hlocks (Nat.le_of_ble_eq_true rfl) (Nat.le_of_ble_eq_true rfl)
theorem l_X7_why_0 : Cond.fieldLink RX7 26 "CornerStones" "now" "LCornerStones$Game;" ∈ wsX7_why := (List.mem_cons_of_mem _ (List.mem_append_left _ (List.mem_append_left _ (List.mem_append_left _ (List.mem_append_left _ (List.mem_append_left _ (List.mem_of_getElem? (i := 2) rfl)))))))
theorem i_X7_why_X7 : ∀ w ∈ wsX70, w ∈ wsX7_why := fun _ h => (List.mem_cons_of_mem _ (List.mem_append_left _ (List.mem_append_left _ (List.mem_append_left _ (List.mem_append_right _ h)))))
theorem i_X7_why_X0 : ∀ w ∈ wsX00, w ∈ wsX7_why := fun _ h => (List.mem_cons_of_mem _ (List.mem_append_left _ (List.mem_append_left _ (List.mem_append_right _ h))))
theorem a_X7_why_O : ∀ w ∈ (vx_atS RX7 151 "java/lang/IndexOutOfBoundsException" ["java/lang/RuntimeException", "java/lang/Exception"]).filter goodWord, w ∈ wsX7_why := fun _ h => (List.mem_cons_of_mem _ (List.mem_append_right _ h))
theorem l_X7_why_4 : Cond.classLink RX7 147 "java/lang/IndexOutOfBoundsException" ∈ wsX7_why := (List.mem_cons_of_mem _ (List.mem_append_left _ (List.mem_append_left _ (List.mem_append_left _ (List.mem_append_left _ (List.mem_append_left _ (List.mem_of_getElem? (i := 0) rfl)))))))
theorem l_X7_why_5 : Cond.initialized "java/lang/IndexOutOfBoundsException" ∈ wsX7_why := (List.mem_cons_of_mem _ (List.mem_append_left _ (List.mem_append_left _ (List.mem_append_left _ (List.mem_append_left _ (List.mem_append_left _ (List.mem_of_getElem? (i := 1) rfl)))))))
theorem q_X7_why : yX7_why.cls ≠ "java/lang/invoke/MethodHandle" ∧ yX7_why.cls ≠ "java/lang/invoke/VarHandle" ∧ (parseMethodDescriptor yX7_why.desc).map (fun d => d.parameters.length) = some 1 := by decide +kernel
def fX7_why (w_t_now : Int32 × Int32 × Int32 × Int32 × Int64 × Int64 × Int32 × Int32) (f_t_now_before0 : Nat → Int64) (f_t_now_before1 : Nat → Int64) (w_t_now_grid : Int32 × Int32 × Int64 × Int64 × Int64) (p0 : Int32) : Option (String ⊕ (Int32)) := if (fX2_has w_t_now_grid p0) = true then ((fX0_reasonAt w_t_now f_t_now_before0 f_t_now_before1 w_t_now_grid p0).bind fun r2 => some (Sum.inr (r2))) else (some (Sum.inl "java/lang/IndexOutOfBoundsException"))
set_option maxHeartbeats 4000000 in
set_option maxRecDepth 100000 in
theorem c_X7_why {l : Launch} {z : Nat} {D : va_G} {K : Nat → ClassId} {σ : mwm} {a_t a_t_text a_t_now a_t_copy a_t_memory a_t_slot0 a_t_slot1 a_t_now_before0 a_t_now_before1 a_t_now_grid : Nat} {w_t_now : Int32 × Int32 × Int32 × Int32 × Int64 × Int64 × Int32 × Int32} {f_t_now_before0 : Nat → Int64} {f_t_now_before1 : Nat → Int64} {w_t_now_grid : Int32 × Int32 × Int64 × Int64 × Int64} {p0 : Int32} (hc_t : σ a_t = some (cl5 a_t_text a_t_now a_t_copy a_t_memory a_t_slot0 a_t_slot1)) (hc_t_now : σ a_t_now = some (cl0 a_t_now_before0 a_t_now_before1 a_t_now_grid w_t_now)) (hc_t_now_before0 : σ a_t_now_before0 = some (eJ K 121 f_t_now_before0)) (hc_t_now_before1 : σ a_t_now_before1 = some (eJ K 121 f_t_now_before1)) (hc_t_now_grid : σ a_t_now_grid = some (cl2  w_t_now_grid)) (hlt : l.stackTraces = false) {v : String ⊕ (Int32)} (h : fX7_why w_t_now f_t_now_before0 f_t_now_before1 w_t_now_grid p0 = some v) : vx_Met l yX7_why wsX7_why ({ frames := 6, cells := 1, slots := 6, locals := 106 } : Room) (PCx z D K [.ref a_t, .int p0] σ) (qwI z D (fun r σ2 => ∃ w9 : Int32, v = Sum.inr w9 ∧ r = w9 ∧ ∀ (q : Nat) (f : va_E), σ q = some f → σ2 q = some f)) (XQ z D σ v) 1 6 (zA z) := by
  refine mx_enter (cc := cX7_why) (maxL := 2) (ret := (some .int)) (own := RX7) (lv := [(0, .ref a_t), (1, .int p0)]) (by decide) rfl rfl (Nat.le_of_ble_eq_true rfl) rfl ?_
  intro p e s m below meth c ls hC hx hb hown hts hK hr hlocks hnm hz hM hS hl hX hex
  unfold fX7_why at h
  refine lv_aload_n hx hb dX7_why_0 rfl (lv_at hl 0 rfl) ?_
  refine mw_get (ci := 5) (C := RX7) (T := TX7) (N := 6) (v := .ref a_t_now) hC i_X7_why_X7 hM hc_t rfl 1 (by decide) l_X7_why_0 rfl rfl dX7_why_1 ?_
  refine mw_getN (ci := 0) (C := RX0) (T := TX0) (N := 11) (v := .ref a_t_now_grid) hC i_X7_why_X0 hM hc_t_now rfl 2 (by decide) (nx_RX7_118 hC.2.2.2) rfl rfl dX7_why_4 ?_
  refine lv_iload_n hx hb dX7_why_7 rfl (lv_at hl 1 rfl) ?_
  refine mw_ci (mw_runV (As := [.int p0]) (rest := []) (ci := 2) (C := RX2) (T := TX2) (N := 5) hC hM hS hc_t_now_grid rfl (c_X2_has (a_t := a_t_now_grid) (w_t := w_t_now_grid) (p0 := p0) (hc_t := hc_t_now_grid) (v := (fX2_has w_t_now_grid p0)) rfl) gX7_why_X2_has rfl rfl rfl rfl q_X2_has ⟨Nat.le_of_ble_eq_true rfl, Nat.le_of_ble_eq_true rfl⟩ rfl rfl (Nat.le_of_ble_eq_true rfl) hl.1 dX7_why_8 ⟨Nat.le_of_ble_eq_true rfl, Nat.le_of_ble_eq_true rfl⟩) ?_
  refine lv_if_ne (tgt := 24) hx hb dX7_why_11 (by decide) (fun c1 => ?_) (fun c1 => ?_)
  · replace c1 := b2i_ne0.mp c1
    replace h := it_pos c1 h
    refine lv_aload_n hx hb dX7_why_24 rfl (lv_at hl 0 rfl) ?_
    refine mw_get (ci := 5) (C := RX7) (T := TX7) (N := 6) (v := .ref a_t_now) hC i_X7_why_X7 hM hc_t rfl 1 (by decide) l_X7_why_0 rfl rfl dX7_why_25 ?_
    refine lv_iload_n hx hb dX7_why_28 rfl (lv_at hl 1 rfl) ?_
    obtain ⟨r2, hr2, h⟩ := ob_some h
    refine mw_ci (mw_runV (As := [.int p0]) (rest := []) (ci := 0) (C := RX0) (T := TX0) (N := 11) hC hM hS hc_t_now rfl (c_X0_reasonAt (a_t := a_t_now) (a_t_before0 := a_t_now_before0) (a_t_before1 := a_t_now_before1) (a_t_grid := a_t_now_grid) (w_t := w_t_now) (f_t_before0 := f_t_now_before0) (f_t_before1 := f_t_now_before1) (w_t_grid := w_t_now_grid) (p0 := p0) (hc_t := hc_t_now) (hc_t_before0 := hc_t_now_before0) (hc_t_before1 := hc_t_now_before1) (hc_t_grid := hc_t_now_grid) (v := r2) hr2) gX7_why_X0_reasonAt rfl rfl rfl rfl q_X0_reasonAt ⟨Nat.le_of_ble_eq_true rfl, Nat.le_of_ble_eq_true rfl⟩ rfl rfl (Nat.le_of_ble_eq_true rfl) hl.1 dX7_why_29 ⟨Nat.le_of_ble_eq_true rfl, Nat.le_of_ble_eq_true rfl⟩) ?_
    cases h
    refine W.widen (k := 1) (n := 6) (by decide) (by decide) ?_
    exact vx_ret (W.iret hx hb hr (fun t ht hW => ⟨⟨_, _, rfl, ⟨_, rfl, rfl, (fun _ _ h9  => h9)⟩, by show MW z D _ t.heap; rw [ht]; exact hM⟩, hS.F ht⟩) hS.2.2 dX7_why_32 hlocks)
  · replace c1 := b2i_eq0.mp c1
    replace h := it_neg c1 h
    cases h
    exact mx_throw hC hX hlt hM hS rfl (by decide +kernel) l_X7_why_4 l_X7_why_5 (sx_179 hX.2.2.1) a_X7_why_O xb_O (xc_O hX) xg_O hl.1 dX7_why_14 dX7_why_17 dX7_why_18 dX7_why_20 dX7_why_23 hex (Nat.le_of_ble_eq_true rfl) (Nat.le_of_ble_eq_true rfl) (Nat.le_of_ble_eq_true rfl) (Nat.le_of_ble_eq_true rfl) hlocks (Nat.le_of_ble_eq_true rfl) (Nat.le_of_ble_eq_true rfl)
theorem l_X7_ifPlayed_0 : Cond.fieldLink RX7 26 "CornerStones" "now" "LCornerStones$Game;" ∈ wsX7_ifPlayed := (List.mem_cons_of_mem _ (List.mem_append_left _ (List.mem_append_left _ (List.mem_append_left _ (List.mem_append_left _ (List.mem_append_left _ (List.mem_append_left _ (List.mem_of_getElem? (i := 4) rfl))))))))
theorem i_X7_ifPlayed_X7 : ∀ w ∈ wsX70, w ∈ wsX7_ifPlayed := fun _ h => (List.mem_cons_of_mem _ (List.mem_append_left _ (List.mem_append_left _ (List.mem_append_left _ (List.mem_append_left _ (List.mem_append_right _ h))))))
theorem i_X7_ifPlayed_X0 : ∀ w ∈ wsX00, w ∈ wsX7_ifPlayed := fun _ h => (List.mem_cons_of_mem _ (List.mem_append_left _ (List.mem_append_left _ (List.mem_append_left _ (List.mem_append_right _ h)))))
theorem a_X7_ifPlayed_A : ∀ w ∈ (vx_atS RX7 54 "java/lang/IllegalArgumentException" ["java/lang/RuntimeException", "java/lang/Exception"]).filter goodWord, w ∈ wsX7_ifPlayed := fun _ h => (List.mem_cons_of_mem _ (List.mem_append_right _ h))
theorem l_X7_ifPlayed_4 : Cond.classLink RX7 50 "java/lang/IllegalArgumentException" ∈ wsX7_ifPlayed := (List.mem_cons_of_mem _ (List.mem_append_left _ (List.mem_append_left _ (List.mem_append_left _ (List.mem_append_left _ (List.mem_append_left _ (List.mem_append_left _ (List.mem_of_getElem? (i := 2) rfl))))))))
theorem l_X7_ifPlayed_5 : Cond.initialized "java/lang/IllegalArgumentException" ∈ wsX7_ifPlayed := (List.mem_cons_of_mem _ (List.mem_append_left _ (List.mem_append_left _ (List.mem_append_left _ (List.mem_append_left _ (List.mem_append_left _ (List.mem_append_left _ (List.mem_of_getElem? (i := 3) rfl))))))))
theorem a_X7_ifPlayed_O : ∀ w ∈ (vx_atS RX7 151 "java/lang/IndexOutOfBoundsException" ["java/lang/RuntimeException", "java/lang/Exception"]).filter goodWord, w ∈ wsX7_ifPlayed := fun _ h => (List.mem_cons_of_mem _ (List.mem_append_left _ (List.mem_append_right _ h)))
theorem l_X7_ifPlayed_7 : Cond.classLink RX7 147 "java/lang/IndexOutOfBoundsException" ∈ wsX7_ifPlayed := (List.mem_cons_of_mem _ (List.mem_append_left _ (List.mem_append_left _ (List.mem_append_left _ (List.mem_append_left _ (List.mem_append_left _ (List.mem_append_left _ (List.mem_of_getElem? (i := 0) rfl))))))))
theorem l_X7_ifPlayed_8 : Cond.initialized "java/lang/IndexOutOfBoundsException" ∈ wsX7_ifPlayed := (List.mem_cons_of_mem _ (List.mem_append_left _ (List.mem_append_left _ (List.mem_append_left _ (List.mem_append_left _ (List.mem_append_left _ (List.mem_append_left _ (List.mem_of_getElem? (i := 1) rfl))))))))
theorem q_X7_ifPlayed : yX7_ifPlayed.cls ≠ "java/lang/invoke/MethodHandle" ∧ yX7_ifPlayed.cls ≠ "java/lang/invoke/VarHandle" ∧ (parseMethodDescriptor yX7_ifPlayed.desc).map (fun d => d.parameters.length) = some 2 := by decide +kernel
def fX7_ifPlayed (w_t_now : Int32 × Int32 × Int32 × Int32 × Int64 × Int64 × Int32 × Int32) (f_t_now_before0 : Nat → Int64) (f_t_now_before1 : Nat → Int64) (w_t_now_grid : Int32 × Int32 × Int64 × Int64 × Int64) (p0 : Int32) (p1 : Int32) : Option (String ⊕ (Int32)) := if (fX2_has w_t_now_grid p0) = true then (if p1 < 0 then (some (Sum.inl "java/lang/IllegalArgumentException")) else (if p1 ≤ 3 then ((fX0_reasonAt w_t_now f_t_now_before0 f_t_now_before1 w_t_now_grid p0).bind fun r4 => if r4 = 0 then ((fX0_effectOf w_t_now w_t_now_grid p0 p1).bind fun r6 => some (Sum.inr (r6))) else (some (Sum.inr (((-1) : Int32))))) else (some (Sum.inl "java/lang/IllegalArgumentException")))) else (some (Sum.inl "java/lang/IndexOutOfBoundsException"))
set_option maxHeartbeats 4000000 in
set_option maxRecDepth 100000 in
theorem c_X7_ifPlayed {l : Launch} {z : Nat} {D : va_G} {K : Nat → ClassId} {σ : mwm} {a_t a_t_text a_t_now a_t_copy a_t_memory a_t_slot0 a_t_slot1 a_t_now_before0 a_t_now_before1 a_t_now_grid : Nat} {w_t_now : Int32 × Int32 × Int32 × Int32 × Int64 × Int64 × Int32 × Int32} {f_t_now_before0 : Nat → Int64} {f_t_now_before1 : Nat → Int64} {w_t_now_grid : Int32 × Int32 × Int64 × Int64 × Int64} {p0 : Int32} {p1 : Int32} (hc_t : σ a_t = some (cl5 a_t_text a_t_now a_t_copy a_t_memory a_t_slot0 a_t_slot1)) (hc_t_now : σ a_t_now = some (cl0 a_t_now_before0 a_t_now_before1 a_t_now_grid w_t_now)) (hc_t_now_before0 : σ a_t_now_before0 = some (eJ K 121 f_t_now_before0)) (hc_t_now_before1 : σ a_t_now_before1 = some (eJ K 121 f_t_now_before1)) (hc_t_now_grid : σ a_t_now_grid = some (cl2  w_t_now_grid)) (hlt : l.stackTraces = false) {v : String ⊕ (Int32)} (h : fX7_ifPlayed w_t_now f_t_now_before0 f_t_now_before1 w_t_now_grid p0 p1 = some v) : vx_Met l yX7_ifPlayed wsX7_ifPlayed ({ frames := 6, cells := 1, slots := 6, locals := 137 } : Room) (PCx z D K [.ref a_t, .int p0, .int p1] σ) (qwI z D (fun r σ2 => ∃ w9 : Int32, v = Sum.inr w9 ∧ r = w9 ∧ ∀ (q : Nat) (f : va_E), σ q = some f → σ2 q = some f)) (XQ z D σ v) 1 6 (zA z) := by
  refine mx_enter (cc := cX7_ifPlayed) (maxL := 3) (ret := (some .int)) (own := RX7) (lv := [(0, .ref a_t), (1, .int p0), (2, .int p1)]) (by decide) rfl rfl (Nat.le_of_ble_eq_true rfl) rfl ?_
  intro p e s m below meth c ls hC hx hb hown hts hK hr hlocks hnm hz hM hS hl hX hex
  unfold fX7_ifPlayed at h
  refine lv_aload_n hx hb dX7_ifPlayed_0 rfl (lv_at hl 0 rfl) ?_
  refine mw_get (ci := 5) (C := RX7) (T := TX7) (N := 6) (v := .ref a_t_now) hC i_X7_ifPlayed_X7 hM hc_t rfl 1 (by decide) l_X7_ifPlayed_0 rfl rfl dX7_ifPlayed_1 ?_
  refine mw_getN (ci := 0) (C := RX0) (T := TX0) (N := 11) (v := .ref a_t_now_grid) hC i_X7_ifPlayed_X0 hM hc_t_now rfl 2 (by decide) (nx_RX7_118 hC.2.2.2) rfl rfl dX7_ifPlayed_4 ?_
  refine lv_iload_n hx hb dX7_ifPlayed_7 rfl (lv_at hl 1 rfl) ?_
  refine mw_ci (mw_runV (As := [.int p0]) (rest := []) (ci := 2) (C := RX2) (T := TX2) (N := 5) hC hM hS hc_t_now_grid rfl (c_X2_has (a_t := a_t_now_grid) (w_t := w_t_now_grid) (p0 := p0) (hc_t := hc_t_now_grid) (v := (fX2_has w_t_now_grid p0)) rfl) gX7_ifPlayed_X2_has rfl rfl rfl rfl q_X2_has ⟨Nat.le_of_ble_eq_true rfl, Nat.le_of_ble_eq_true rfl⟩ rfl rfl (Nat.le_of_ble_eq_true rfl) hl.1 dX7_ifPlayed_8 ⟨Nat.le_of_ble_eq_true rfl, Nat.le_of_ble_eq_true rfl⟩) ?_
  refine lv_if_ne (tgt := 24) hx hb dX7_ifPlayed_11 (by decide) (fun c1 => ?_) (fun c1 => ?_)
  · replace c1 := b2i_ne0.mp c1
    replace h := it_pos c1 h
    refine lv_iload_n hx hb dX7_ifPlayed_24 rfl (lv_at hl 2 rfl) ?_
    refine lv_if_lt (tgt := 33) hx hb dX7_ifPlayed_25 (by decide) (fun c2 => ?_) (fun c2 => ?_)
    · replace h := it_pos c2 h
      cases h
      exact mx_throw hC hX hlt hM hS rfl (by decide +kernel) l_X7_ifPlayed_4 l_X7_ifPlayed_5 (sx_231 hX.2.2.1) a_X7_ifPlayed_A xb_A (xc_A hX) xg_A hl.1 dX7_ifPlayed_33 dX7_ifPlayed_36 dX7_ifPlayed_37 dX7_ifPlayed_39 dX7_ifPlayed_42 hex (Nat.le_of_ble_eq_true rfl) (Nat.le_of_ble_eq_true rfl) (Nat.le_of_ble_eq_true rfl) (Nat.le_of_ble_eq_true rfl) hlocks (Nat.le_of_ble_eq_true rfl) (Nat.le_of_ble_eq_true rfl)
    · replace h := it_neg c2 h
      refine lv_iload_n hx hb dX7_ifPlayed_28 rfl (lv_at hl 2 rfl) ?_
      refine lv_iconst (v := 3) hx hb dX7_ifPlayed_29 (by decide) ?_
      refine lv_icmp_le (tgt := 43) hx hb dX7_ifPlayed_30 (by decide) (fun c3 => ?_) (fun c3 => ?_)
      · replace h := it_pos c3 h
        refine lv_aload_n hx hb dX7_ifPlayed_43 rfl (lv_at hl 0 rfl) ?_
        refine mw_get (ci := 5) (C := RX7) (T := TX7) (N := 6) (v := .ref a_t_now) hC i_X7_ifPlayed_X7 hM hc_t rfl 1 (by decide) l_X7_ifPlayed_0 rfl rfl dX7_ifPlayed_44 ?_
        refine lv_iload_n hx hb dX7_ifPlayed_47 rfl (lv_at hl 1 rfl) ?_
        obtain ⟨r4, hr4, h⟩ := ob_some h
        refine mw_ci (mw_runV (As := [.int p0]) (rest := []) (ci := 0) (C := RX0) (T := TX0) (N := 11) hC hM hS hc_t_now rfl (c_X0_reasonAt (a_t := a_t_now) (a_t_before0 := a_t_now_before0) (a_t_before1 := a_t_now_before1) (a_t_grid := a_t_now_grid) (w_t := w_t_now) (f_t_before0 := f_t_now_before0) (f_t_before1 := f_t_now_before1) (w_t_grid := w_t_now_grid) (p0 := p0) (hc_t := hc_t_now) (hc_t_before0 := hc_t_now_before0) (hc_t_before1 := hc_t_now_before1) (hc_t_grid := hc_t_now_grid) (v := r4) hr4) gX7_ifPlayed_X0_reasonAt rfl rfl rfl rfl q_X0_reasonAt ⟨Nat.le_of_ble_eq_true rfl, Nat.le_of_ble_eq_true rfl⟩ rfl rfl (Nat.le_of_ble_eq_true rfl) hl.1 dX7_ifPlayed_48 ⟨Nat.le_of_ble_eq_true rfl, Nat.le_of_ble_eq_true rfl⟩) ?_
        refine lv_if_ne (tgt := 66) hx hb dX7_ifPlayed_51 (by decide) (fun c5 => ?_) (fun c5 => ?_)
        · replace h := it_neg c5 h
          refine lv_iconst (v := -1) hx hb dX7_ifPlayed_66 (by decide) ?_
          cases h
          refine W.widen (k := 1) (n := 6) (by decide) (by decide) ?_
          exact vx_ret (W.iret hx hb hr (fun t ht hW => ⟨⟨_, _, rfl, ⟨_, rfl, rfl, (fun _ _ h9  => h9)⟩, by show MW z D _ t.heap; rw [ht]; exact hM⟩, hS.F ht⟩) hS.2.2 dX7_ifPlayed_67 hlocks)
        · replace h := it_pos c5 h
          refine lv_aload_n hx hb dX7_ifPlayed_54 rfl (lv_at hl 0 rfl) ?_
          refine mw_get (ci := 5) (C := RX7) (T := TX7) (N := 6) (v := .ref a_t_now) hC i_X7_ifPlayed_X7 hM hc_t rfl 1 (by decide) l_X7_ifPlayed_0 rfl rfl dX7_ifPlayed_55 ?_
          refine lv_iload_n hx hb dX7_ifPlayed_58 rfl (lv_at hl 1 rfl) ?_
          refine lv_iload_n hx hb dX7_ifPlayed_59 rfl (lv_at hl 2 rfl) ?_
          obtain ⟨r6, hr6, h⟩ := ob_some h
          refine mw_ci (mw_runV (As := [.int p0, .int p1]) (rest := []) (ci := 0) (C := RX0) (T := TX0) (N := 11) hC hM hS hc_t_now rfl (c_X0_effectOf (a_t := a_t_now) (a_t_before0 := a_t_now_before0) (a_t_before1 := a_t_now_before1) (a_t_grid := a_t_now_grid) (w_t := w_t_now) (w_t_grid := w_t_now_grid) (p0 := p0) (p1 := p1) (hc_t := hc_t_now) (hc_t_grid := hc_t_now_grid) (v := r6) hr6) gX7_ifPlayed_X0_effectOf rfl rfl rfl rfl q_X0_effectOf ⟨Nat.le_of_ble_eq_true rfl, Nat.le_of_ble_eq_true rfl⟩ rfl rfl (Nat.le_of_ble_eq_true rfl) hl.1 dX7_ifPlayed_60 ⟨Nat.le_of_ble_eq_true rfl, Nat.le_of_ble_eq_true rfl⟩) ?_
          refine lv_goto (tgt := 67) hx hb dX7_ifPlayed_63 (by decide) ?_
          cases h
          refine W.widen (k := 1) (n := 6) (by decide) (by decide) ?_
          exact vx_ret (W.iret hx hb hr (fun t ht hW => ⟨⟨_, _, rfl, ⟨_, rfl, rfl, (fun _ _ h9  => h9)⟩, by show MW z D _ t.heap; rw [ht]; exact hM⟩, hS.F ht⟩) hS.2.2 dX7_ifPlayed_67 hlocks)
      · replace h := it_neg c3 h
        cases h
        exact mx_throw hC hX hlt hM hS rfl (by decide +kernel) l_X7_ifPlayed_4 l_X7_ifPlayed_5 (sx_231 hX.2.2.1) a_X7_ifPlayed_A xb_A (xc_A hX) xg_A hl.1 dX7_ifPlayed_33 dX7_ifPlayed_36 dX7_ifPlayed_37 dX7_ifPlayed_39 dX7_ifPlayed_42 hex (Nat.le_of_ble_eq_true rfl) (Nat.le_of_ble_eq_true rfl) (Nat.le_of_ble_eq_true rfl) (Nat.le_of_ble_eq_true rfl) hlocks (Nat.le_of_ble_eq_true rfl) (Nat.le_of_ble_eq_true rfl)
  · replace c1 := b2i_eq0.mp c1
    replace h := it_neg c1 h
    cases h
    exact mx_throw hC hX hlt hM hS rfl (by decide +kernel) l_X7_ifPlayed_7 l_X7_ifPlayed_8 (sx_179 hX.2.2.1) a_X7_ifPlayed_O xb_O (xc_O hX) xg_O hl.1 dX7_ifPlayed_14 dX7_ifPlayed_17 dX7_ifPlayed_18 dX7_ifPlayed_20 dX7_ifPlayed_23 hex (Nat.le_of_ble_eq_true rfl) (Nat.le_of_ble_eq_true rfl) (Nat.le_of_ble_eq_true rfl) (Nat.le_of_ble_eq_true rfl) hlocks (Nat.le_of_ble_eq_true rfl) (Nat.le_of_ble_eq_true rfl)
theorem l_X7_bestTake_0 : Cond.fieldLink RX7 26 "CornerStones" "now" "LCornerStones$Game;" ∈ wsX7_bestTake := (List.mem_cons_of_mem _ (List.mem_append_left _ (List.mem_append_left _ (List.mem_append_left _ (List.mem_append_left _ (List.mem_of_getElem? (i := 0) rfl))))))
theorem i_X7_bestTake_X7 : ∀ w ∈ wsX70, w ∈ wsX7_bestTake := fun _ h => (List.mem_cons_of_mem _ (List.mem_append_left _ (List.mem_append_left _ (List.mem_append_right _ h))))
theorem i_X7_bestTake_X0 : ∀ w ∈ wsX00, w ∈ wsX7_bestTake := fun _ h => (List.mem_cons_of_mem _ (List.mem_append_left _ (List.mem_append_right _ h)))
theorem l_X7_bestTake_3 : Cond.fieldLink RX7 210 "CornerStones$Grid" "points" "I" ∈ wsX7_bestTake := (List.mem_cons_of_mem _ (List.mem_append_left _ (List.mem_append_left _ (List.mem_append_left _ (List.mem_append_left _ (List.mem_of_getElem? (i := 1) rfl))))))
theorem i_X7_bestTake_X2 : ∀ w ∈ wsX20, w ∈ wsX7_bestTake := fun _ h => (List.mem_cons_of_mem _ (List.mem_append_right _ h))
theorem q_X7_bestTake : yX7_bestTake.cls ≠ "java/lang/invoke/MethodHandle" ∧ yX7_bestTake.cls ≠ "java/lang/invoke/VarHandle" ∧ (parseMethodDescriptor yX7_bestTake.desc).map (fun d => d.parameters.length) = some 0 := by decide +kernel
def fX7_bestTake_6 (w_t_now : Int32 × Int32 × Int32 × Int32 × Int64 × Int64 × Int32 × Int32) (f_t_now_before0 : Nat → Int64) (f_t_now_before1 : Nat → Int64) (w_t_now_grid : Int32 × Int32 × Int64 × Int64 × Int64) : Nat → Int32 → Int32 → Int32 → Option (Int32)
  | 0, _, _, _ => none
  | fu + 1, x1, x2, x3 => if w_t_now_grid.2.1 ≤ x3 then (some (x1)) else ((fX0_reasonAt w_t_now f_t_now_before0 f_t_now_before1 w_t_now_grid x3).bind fun r2 => if r2 = 0 then ((fX0_effectOf w_t_now w_t_now_grid x3 0).bind fun r5 => if r5 ≤ x2 then (fX7_bestTake_6 w_t_now f_t_now_before0 f_t_now_before1 w_t_now_grid fu x1 x2 (x3 + 1)) else (fX7_bestTake_6 w_t_now f_t_now_before0 f_t_now_before1 w_t_now_grid fu x3 r5 (x3 + 1))) else (if 0 ≤ x2 then (fX7_bestTake_6 w_t_now f_t_now_before0 f_t_now_before1 w_t_now_grid fu x1 x2 (x3 + 1)) else (fX7_bestTake_6 w_t_now f_t_now_before0 f_t_now_before1 w_t_now_grid fu x3 0 (x3 + 1))))
def fX7_bestTake (w_t_now : Int32 × Int32 × Int32 × Int32 × Int64 × Int64 × Int32 × Int32) (f_t_now_before0 : Nat → Int64) (f_t_now_before1 : Nat → Int64) (w_t_now_grid : Int32 × Int32 × Int64 × Int64 × Int64) : Option (Int32) := fX7_bestTake_6 w_t_now f_t_now_before0 f_t_now_before1 w_t_now_grid 5000 (-1) 0 0 
set_option maxHeartbeats 4000000 in
set_option maxRecDepth 100000 in
theorem c_X7_bestTake {l : Launch} {z : Nat} {D : va_G} {K : Nat → ClassId} {σ : mwm} {a_t a_t_text a_t_now a_t_copy a_t_memory a_t_slot0 a_t_slot1 a_t_now_before0 a_t_now_before1 a_t_now_grid : Nat} {w_t_now : Int32 × Int32 × Int32 × Int32 × Int64 × Int64 × Int32 × Int32} {f_t_now_before0 : Nat → Int64} {f_t_now_before1 : Nat → Int64} {w_t_now_grid : Int32 × Int32 × Int64 × Int64 × Int64} (hc_t : σ a_t = some (cl5 a_t_text a_t_now a_t_copy a_t_memory a_t_slot0 a_t_slot1)) (hc_t_now : σ a_t_now = some (cl0 a_t_now_before0 a_t_now_before1 a_t_now_grid w_t_now)) (hc_t_now_before0 : σ a_t_now_before0 = some (eJ K 121 f_t_now_before0)) (hc_t_now_before1 : σ a_t_now_before1 = some (eJ K 121 f_t_now_before1)) (hc_t_now_grid : σ a_t_now_grid = some (cl2  w_t_now_grid)) {v : Int32} (h : fX7_bestTake w_t_now f_t_now_before0 f_t_now_before1 w_t_now_grid = some v) : Met l yX7_bestTake wsX7_bestTake ({ frames := 5, cells := 0, slots := 0, locals := 137 } : Room) (PCm z D K [.ref a_t] σ) (qsI v) 0 0 (fun _ => False) := by
  refine mt_enter (cc := cX7_bestTake) (maxL := 5) (ret := (some .int)) (own := RX7) (lv := [(0, .ref a_t)]) (by decide) rfl rfl (Nat.le_of_ble_eq_true rfl) rfl ?_
  intro p e s m below meth c ls hC hx hb hown hts hK hr hlocks hnm hz hM hS hl
  unfold fX7_bestTake at h
  refine lv_iconst (v := -1) hx hb dX7_bestTake_0 (by decide) ?_
  refine lv_istore_n (lv' := [(1, .int (-1)), (0, .ref a_t)]) hx hb dX7_bestTake_1 rfl hl (by decide) rfl (fun ls hl => ?_)
  refine lv_iconst (v := 0) hx hb dX7_bestTake_2 (by decide) ?_
  refine lv_istore_n (lv' := [(2, .int 0), (1, .int (-1)), (0, .ref a_t)]) hx hb dX7_bestTake_3 rfl hl (by decide) rfl (fun ls hl => ?_)
  refine lv_iconst (v := 0) hx hb dX7_bestTake_4 (by decide) ?_
  refine lv_istore_n (lv' := [(3, .int 0), (2, .int 0), (1, .int (-1)), (0, .ref a_t)]) hx hb dX7_bestTake_5 rfl hl (by decide) rfl (fun ls hl => ?_)
  have L6 : ∀ (fu0 : Nat) (x1 : Int32) (x2 : Int32) (x3 : Int32), fX7_bestTake_6 w_t_now f_t_now_before0 f_t_now_before1 w_t_now_grid fu0 x1 x2 x3 = some v → ∀ ls : Array Slot, lv_has ls 5 [(3, .int x3), (2, .int x2), (1, .int x1), (0, .ref a_t)] → W p l e ({ frames := 5, cells := 0, slots := 0, locals := 137 } : Room) s m ([.ref a_t] : List Value).toArray below meth c s.heap [] 0 0 (MQ below (qsI v) ([.ref a_t] : List Value).toArray s 0 0 (fun _ => False)) (F0 m 6 ls []) := by
    intro fu0
    induction fu0 with
    | zero =>
      intro x1 x2 x3 h
      unfold fX7_bestTake_6 at h
      cases h
    | succ fu0 ih0 =>
      intro x1 x2 x3 h ls hl
      unfold fX7_bestTake_6 at h
      refine lv_iload_n hx hb dX7_bestTake_6 rfl (lv_at hl 0 rfl) ?_
      refine lv_aload_n hx hb dX7_bestTake_7 rfl (lv_at hl 3 rfl) ?_
      refine mw_get (ci := 5) (C := RX7) (T := TX7) (N := 6) (v := .ref a_t_now) hC i_X7_bestTake_X7 hM hc_t rfl 1 (by decide) l_X7_bestTake_0 rfl rfl dX7_bestTake_8 ?_
      refine mw_getN (ci := 0) (C := RX0) (T := TX0) (N := 11) (v := .ref a_t_now_grid) hC i_X7_bestTake_X0 hM hc_t_now rfl 2 (by decide) (nx_RX7_118 hC.2.2.2) rfl rfl dX7_bestTake_11 ?_
      refine mw_get (ci := 2) (C := RX2) (T := TX2) (N := 5) (v := .int w_t_now_grid.2.1) hC i_X7_bestTake_X2 hM hc_t_now_grid rfl 1 (by decide) l_X7_bestTake_3 rfl rfl dX7_bestTake_14 ?_
      refine lv_icmp_ge (tgt := 63) hx hb dX7_bestTake_17 (by decide) (fun c1 => ?_) (fun c1 => ?_)
      · replace h := it_pos c1 h
        refine lv_iload_n hx hb dX7_bestTake_63 rfl (lv_at hl 2 rfl) ?_
        cases h
        exact W.iret hx hb hr (fun t ht hW => ⟨_, rfl, rfl, ht⟩) (fun _ h9 => by cases h9) dX7_bestTake_64 hlocks
      · replace h := it_neg c1 h
        refine lv_aload_n hx hb dX7_bestTake_20 rfl (lv_at hl 3 rfl) ?_
        refine mw_get (ci := 5) (C := RX7) (T := TX7) (N := 6) (v := .ref a_t_now) hC i_X7_bestTake_X7 hM hc_t rfl 1 (by decide) l_X7_bestTake_0 rfl rfl dX7_bestTake_21 ?_
        refine lv_iload_n hx hb dX7_bestTake_24 rfl (lv_at hl 0 rfl) ?_
        obtain ⟨r2, hr2, h⟩ := ob_some h
        refine mw_ci (mw_runV (As := [.int x3]) (rest := []) (ci := 0) (C := RX0) (T := TX0) (N := 11) hC hM hS hc_t_now rfl (c_X0_reasonAt (a_t := a_t_now) (a_t_before0 := a_t_now_before0) (a_t_before1 := a_t_now_before1) (a_t_grid := a_t_now_grid) (w_t := w_t_now) (f_t_before0 := f_t_now_before0) (f_t_before1 := f_t_now_before1) (w_t_grid := w_t_now_grid) (p0 := x3) (hc_t := hc_t_now) (hc_t_before0 := hc_t_now_before0) (hc_t_before1 := hc_t_now_before1) (hc_t_grid := hc_t_now_grid) (v := r2) hr2) gX7_bestTake_X0_reasonAt rfl rfl rfl rfl q_X0_reasonAt ⟨Nat.le_of_ble_eq_true rfl, Nat.le_of_ble_eq_true rfl⟩ rfl rfl (Nat.le_of_ble_eq_true rfl) hl.1 dX7_bestTake_25 ⟨Nat.le_of_ble_eq_true rfl, Nat.le_of_ble_eq_true rfl⟩) ?_
        refine lv_if_ne (tgt := 43) hx hb dX7_bestTake_28 (by decide) (fun c3 => ?_) (fun c3 => ?_)
        · replace h := it_neg c3 h
          refine lv_iconst (v := 0) hx hb dX7_bestTake_43 (by decide) ?_
          refine lv_istore (lv' := [(4, .int 0), (3, .int x3), (2, .int x2), (1, .int x1), (0, .ref a_t)]) hx hb dX7_bestTake_44 hl (by decide) rfl (fun ls hl => ?_)
          refine lv_iload hx hb dX7_bestTake_46 (lv_at hl 0 rfl) ?_
          refine lv_iload_n hx hb dX7_bestTake_48 rfl (lv_at hl 2 rfl) ?_
          refine lv_icmp_le (tgt := 57) hx hb dX7_bestTake_49 (by decide) (fun c4 => ?_) (fun c4 => ?_)
          · replace h := it_pos c4 h
            refine lv_iinc (v := (x3 + 1)) (lv' := [(3, .int (x3 + 1)), (4, .int 0), (2, .int x2), (1, .int x1), (0, .ref a_t)]) hx hb dX7_bestTake_57 hl (k := 1) rfl rfl (by decide) rfl (fun ls hl => ?_)
            refine lv_goto (tgt := 6) hx hb dX7_bestTake_60 (by decide) ?_
            exact ih0 x1 x2 (x3 + 1) h ls (lv_sub hl [0, 2, 3, 4] rfl)
          · replace h := it_neg c4 h
            refine lv_iload_n hx hb dX7_bestTake_52 rfl (lv_at hl 1 rfl) ?_
            refine lv_istore_n (lv' := [(1, .int x3), (4, .int 0), (3, .int x3), (2, .int x2), (0, .ref a_t)]) hx hb dX7_bestTake_53 rfl hl (by decide) rfl (fun ls hl => ?_)
            refine lv_iload hx hb dX7_bestTake_54 (lv_at hl 1 rfl) ?_
            refine lv_istore_n (lv' := [(2, .int 0), (1, .int x3), (4, .int 0), (3, .int x3), (0, .ref a_t)]) hx hb dX7_bestTake_56 rfl hl (by decide) rfl (fun ls hl => ?_)
            refine lv_iinc (v := (x3 + 1)) (lv' := [(3, .int (x3 + 1)), (2, .int 0), (1, .int x3), (4, .int 0), (0, .ref a_t)]) hx hb dX7_bestTake_57 hl (k := 3) rfl rfl (by decide) rfl (fun ls hl => ?_)
            refine lv_goto (tgt := 6) hx hb dX7_bestTake_60 (by decide) ?_
            exact ih0 x3 0 (x3 + 1) h ls (lv_sub hl [0, 1, 2, 4] rfl)
        · replace h := it_pos c3 h
          refine lv_aload_n hx hb dX7_bestTake_31 rfl (lv_at hl 3 rfl) ?_
          refine mw_get (ci := 5) (C := RX7) (T := TX7) (N := 6) (v := .ref a_t_now) hC i_X7_bestTake_X7 hM hc_t rfl 1 (by decide) l_X7_bestTake_0 rfl rfl dX7_bestTake_32 ?_
          refine lv_iload_n hx hb dX7_bestTake_35 rfl (lv_at hl 0 rfl) ?_
          refine lv_iconst (v := 0) hx hb dX7_bestTake_36 (by decide) ?_
          obtain ⟨r5, hr5, h⟩ := ob_some h
          refine mw_ci (mw_runV (As := [.int x3, .int 0]) (rest := []) (ci := 0) (C := RX0) (T := TX0) (N := 11) hC hM hS hc_t_now rfl (c_X0_effectOf (a_t := a_t_now) (a_t_before0 := a_t_now_before0) (a_t_before1 := a_t_now_before1) (a_t_grid := a_t_now_grid) (w_t := w_t_now) (w_t_grid := w_t_now_grid) (p0 := x3) (p1 := 0) (hc_t := hc_t_now) (hc_t_grid := hc_t_now_grid) (v := r5) hr5) gX7_bestTake_X0_effectOf rfl rfl rfl rfl q_X0_effectOf ⟨Nat.le_of_ble_eq_true rfl, Nat.le_of_ble_eq_true rfl⟩ rfl rfl (Nat.le_of_ble_eq_true rfl) hl.1 dX7_bestTake_37 ⟨Nat.le_of_ble_eq_true rfl, Nat.le_of_ble_eq_true rfl⟩) ?_
          refine lv_goto (tgt := 44) hx hb dX7_bestTake_40 (by decide) ?_
          refine lv_istore (lv' := [(4, .int r5), (3, .int x3), (2, .int x2), (1, .int x1), (0, .ref a_t)]) hx hb dX7_bestTake_44 hl (by decide) rfl (fun ls hl => ?_)
          refine lv_iload hx hb dX7_bestTake_46 (lv_at hl 0 rfl) ?_
          refine lv_iload_n hx hb dX7_bestTake_48 rfl (lv_at hl 2 rfl) ?_
          refine lv_icmp_le (tgt := 57) hx hb dX7_bestTake_49 (by decide) (fun c6 => ?_) (fun c6 => ?_)
          · replace h := it_pos c6 h
            refine lv_iinc (v := (x3 + 1)) (lv' := [(3, .int (x3 + 1)), (4, .int r5), (2, .int x2), (1, .int x1), (0, .ref a_t)]) hx hb dX7_bestTake_57 hl (k := 1) rfl rfl (by decide) rfl (fun ls hl => ?_)
            refine lv_goto (tgt := 6) hx hb dX7_bestTake_60 (by decide) ?_
            exact ih0 x1 x2 (x3 + 1) h ls (lv_sub hl [0, 2, 3, 4] rfl)
          · replace h := it_neg c6 h
            refine lv_iload_n hx hb dX7_bestTake_52 rfl (lv_at hl 1 rfl) ?_
            refine lv_istore_n (lv' := [(1, .int x3), (4, .int r5), (3, .int x3), (2, .int x2), (0, .ref a_t)]) hx hb dX7_bestTake_53 rfl hl (by decide) rfl (fun ls hl => ?_)
            refine lv_iload hx hb dX7_bestTake_54 (lv_at hl 1 rfl) ?_
            refine lv_istore_n (lv' := [(2, .int r5), (1, .int x3), (4, .int r5), (3, .int x3), (0, .ref a_t)]) hx hb dX7_bestTake_56 rfl hl (by decide) rfl (fun ls hl => ?_)
            refine lv_iinc (v := (x3 + 1)) (lv' := [(3, .int (x3 + 1)), (2, .int r5), (1, .int x3), (4, .int r5), (0, .ref a_t)]) hx hb dX7_bestTake_57 hl (k := 3) rfl rfl (by decide) rfl (fun ls hl => ?_)
            refine lv_goto (tgt := 6) hx hb dX7_bestTake_60 (by decide) ?_
            exact ih0 x3 r5 (x3 + 1) h ls (lv_sub hl [0, 1, 2, 4] rfl)
  exact L6 5000 (-1) 0 0  h ls (lv_sub hl [0, 1, 2, 3] rfl)
theorem l_X7_choices_0 : Cond.fieldLink RX7 26 "CornerStones" "now" "LCornerStones$Game;" ∈ wsX7_choices := (List.mem_cons_of_mem _ (List.mem_append_left _ (List.mem_append_left _ (List.mem_append_left _ (List.mem_append_left _ (List.mem_of_getElem? (i := 0) rfl))))))
theorem i_X7_choices_X7 : ∀ w ∈ wsX70, w ∈ wsX7_choices := fun _ h => (List.mem_cons_of_mem _ (List.mem_append_left _ (List.mem_append_left _ (List.mem_append_right _ h))))
theorem i_X7_choices_X0 : ∀ w ∈ wsX00, w ∈ wsX7_choices := fun _ h => (List.mem_cons_of_mem _ (List.mem_append_left _ (List.mem_append_right _ h)))
theorem l_X7_choices_3 : Cond.fieldLink RX7 210 "CornerStones$Grid" "points" "I" ∈ wsX7_choices := (List.mem_cons_of_mem _ (List.mem_append_left _ (List.mem_append_left _ (List.mem_append_left _ (List.mem_append_left _ (List.mem_of_getElem? (i := 1) rfl))))))
theorem i_X7_choices_X2 : ∀ w ∈ wsX20, w ∈ wsX7_choices := fun _ h => (List.mem_cons_of_mem _ (List.mem_append_right _ h))
theorem q_X7_choices : yX7_choices.cls ≠ "java/lang/invoke/MethodHandle" ∧ yX7_choices.cls ≠ "java/lang/invoke/VarHandle" ∧ (parseMethodDescriptor yX7_choices.desc).map (fun d => d.parameters.length) = some 0 := by decide +kernel
def fX7_choices_4 (w_t_now : Int32 × Int32 × Int32 × Int32 × Int64 × Int64 × Int32 × Int32) (f_t_now_before0 : Nat → Int64) (f_t_now_before1 : Nat → Int64) (w_t_now_grid : Int32 × Int32 × Int64 × Int64 × Int64) : Nat → Int32 → Int32 → Option (Int32)
  | 0, _, _ => none
  | fu + 1, x1, x2 => if w_t_now_grid.2.1 ≤ x2 then (some (x1)) else ((fX0_reasonAt w_t_now f_t_now_before0 f_t_now_before1 w_t_now_grid x2).bind fun r2 => if r2 = 0 then (fX7_choices_4 w_t_now f_t_now_before0 f_t_now_before1 w_t_now_grid fu (x1 + 1) (x2 + 1)) else (fX7_choices_4 w_t_now f_t_now_before0 f_t_now_before1 w_t_now_grid fu x1 (x2 + 1)))
def fX7_choices (w_t_now : Int32 × Int32 × Int32 × Int32 × Int64 × Int64 × Int32 × Int32) (f_t_now_before0 : Nat → Int64) (f_t_now_before1 : Nat → Int64) (w_t_now_grid : Int32 × Int32 × Int64 × Int64 × Int64) : Option (Int32) := fX7_choices_4 w_t_now f_t_now_before0 f_t_now_before1 w_t_now_grid 5000 0 0 
set_option maxHeartbeats 4000000 in
set_option maxRecDepth 100000 in
theorem c_X7_choices {l : Launch} {z : Nat} {D : va_G} {K : Nat → ClassId} {σ : mwm} {a_t a_t_text a_t_now a_t_copy a_t_memory a_t_slot0 a_t_slot1 a_t_now_before0 a_t_now_before1 a_t_now_grid : Nat} {w_t_now : Int32 × Int32 × Int32 × Int32 × Int64 × Int64 × Int32 × Int32} {f_t_now_before0 : Nat → Int64} {f_t_now_before1 : Nat → Int64} {w_t_now_grid : Int32 × Int32 × Int64 × Int64 × Int64} (hc_t : σ a_t = some (cl5 a_t_text a_t_now a_t_copy a_t_memory a_t_slot0 a_t_slot1)) (hc_t_now : σ a_t_now = some (cl0 a_t_now_before0 a_t_now_before1 a_t_now_grid w_t_now)) (hc_t_now_before0 : σ a_t_now_before0 = some (eJ K 121 f_t_now_before0)) (hc_t_now_before1 : σ a_t_now_before1 = some (eJ K 121 f_t_now_before1)) (hc_t_now_grid : σ a_t_now_grid = some (cl2  w_t_now_grid)) {v : Int32} (h : fX7_choices w_t_now f_t_now_before0 f_t_now_before1 w_t_now_grid = some v) : Met l yX7_choices wsX7_choices ({ frames := 4, cells := 0, slots := 0, locals := 106 } : Room) (PCm z D K [.ref a_t] σ) (qsI v) 0 0 (fun _ => False) := by
  refine mt_enter (cc := cX7_choices) (maxL := 3) (ret := (some .int)) (own := RX7) (lv := [(0, .ref a_t)]) (by decide) rfl rfl (Nat.le_of_ble_eq_true rfl) rfl ?_
  intro p e s m below meth c ls hC hx hb hown hts hK hr hlocks hnm hz hM hS hl
  unfold fX7_choices at h
  refine lv_iconst (v := 0) hx hb dX7_choices_0 (by decide) ?_
  refine lv_istore_n (lv' := [(1, .int 0), (0, .ref a_t)]) hx hb dX7_choices_1 rfl hl (by decide) rfl (fun ls hl => ?_)
  refine lv_iconst (v := 0) hx hb dX7_choices_2 (by decide) ?_
  refine lv_istore_n (lv' := [(2, .int 0), (1, .int 0), (0, .ref a_t)]) hx hb dX7_choices_3 rfl hl (by decide) rfl (fun ls hl => ?_)
  have L4 : ∀ (fu0 : Nat) (x1 : Int32) (x2 : Int32), fX7_choices_4 w_t_now f_t_now_before0 f_t_now_before1 w_t_now_grid fu0 x1 x2 = some v → ∀ ls : Array Slot, lv_has ls 3 [(2, .int x2), (1, .int x1), (0, .ref a_t)] → W p l e ({ frames := 4, cells := 0, slots := 0, locals := 106 } : Room) s m ([.ref a_t] : List Value).toArray below meth c s.heap [] 0 0 (MQ below (qsI v) ([.ref a_t] : List Value).toArray s 0 0 (fun _ => False)) (F0 m 4 ls []) := by
    intro fu0
    induction fu0 with
    | zero =>
      intro x1 x2 h
      unfold fX7_choices_4 at h
      cases h
    | succ fu0 ih0 =>
      intro x1 x2 h ls hl
      unfold fX7_choices_4 at h
      refine lv_iload_n hx hb dX7_choices_4 rfl (lv_at hl 0 rfl) ?_
      refine lv_aload_n hx hb dX7_choices_5 rfl (lv_at hl 2 rfl) ?_
      refine mw_get (ci := 5) (C := RX7) (T := TX7) (N := 6) (v := .ref a_t_now) hC i_X7_choices_X7 hM hc_t rfl 1 (by decide) l_X7_choices_0 rfl rfl dX7_choices_6 ?_
      refine mw_getN (ci := 0) (C := RX0) (T := TX0) (N := 11) (v := .ref a_t_now_grid) hC i_X7_choices_X0 hM hc_t_now rfl 2 (by decide) (nx_RX7_118 hC.2.2.2) rfl rfl dX7_choices_9 ?_
      refine mw_get (ci := 2) (C := RX2) (T := TX2) (N := 5) (v := .int w_t_now_grid.2.1) hC i_X7_choices_X2 hM hc_t_now_grid rfl 1 (by decide) l_X7_choices_3 rfl rfl dX7_choices_12 ?_
      refine lv_icmp_ge (tgt := 38) hx hb dX7_choices_15 (by decide) (fun c1 => ?_) (fun c1 => ?_)
      · replace h := it_pos c1 h
        refine lv_iload_n hx hb dX7_choices_38 rfl (lv_at hl 1 rfl) ?_
        cases h
        exact W.iret hx hb hr (fun t ht hW => ⟨_, rfl, rfl, ht⟩) (fun _ h9 => by cases h9) dX7_choices_39 hlocks
      · replace h := it_neg c1 h
        refine lv_aload_n hx hb dX7_choices_18 rfl (lv_at hl 2 rfl) ?_
        refine mw_get (ci := 5) (C := RX7) (T := TX7) (N := 6) (v := .ref a_t_now) hC i_X7_choices_X7 hM hc_t rfl 1 (by decide) l_X7_choices_0 rfl rfl dX7_choices_19 ?_
        refine lv_iload_n hx hb dX7_choices_22 rfl (lv_at hl 0 rfl) ?_
        obtain ⟨r2, hr2, h⟩ := ob_some h
        refine mw_ci (mw_runV (As := [.int x2]) (rest := []) (ci := 0) (C := RX0) (T := TX0) (N := 11) hC hM hS hc_t_now rfl (c_X0_reasonAt (a_t := a_t_now) (a_t_before0 := a_t_now_before0) (a_t_before1 := a_t_now_before1) (a_t_grid := a_t_now_grid) (w_t := w_t_now) (f_t_before0 := f_t_now_before0) (f_t_before1 := f_t_now_before1) (w_t_grid := w_t_now_grid) (p0 := x2) (hc_t := hc_t_now) (hc_t_before0 := hc_t_now_before0) (hc_t_before1 := hc_t_now_before1) (hc_t_grid := hc_t_now_grid) (v := r2) hr2) gX7_choices_X0_reasonAt rfl rfl rfl rfl q_X0_reasonAt ⟨Nat.le_of_ble_eq_true rfl, Nat.le_of_ble_eq_true rfl⟩ rfl rfl (Nat.le_of_ble_eq_true rfl) hl.1 dX7_choices_23 ⟨Nat.le_of_ble_eq_true rfl, Nat.le_of_ble_eq_true rfl⟩) ?_
        refine lv_if_ne (tgt := 32) hx hb dX7_choices_26 (by decide) (fun c3 => ?_) (fun c3 => ?_)
        · replace h := it_neg c3 h
          refine lv_iinc (v := (x2 + 1)) (lv' := [(2, .int (x2 + 1)), (1, .int x1), (0, .ref a_t)]) hx hb dX7_choices_32 hl (k := 0) rfl rfl (by decide) rfl (fun ls hl => ?_)
          refine lv_goto (tgt := 4) hx hb dX7_choices_35 (by decide) ?_
          exact ih0 x1 (x2 + 1) h ls (lv_sub hl [0, 1, 2] rfl)
        · replace h := it_pos c3 h
          refine lv_iinc (v := (x1 + 1)) (lv' := [(1, .int (x1 + 1)), (2, .int x2), (0, .ref a_t)]) hx hb dX7_choices_29 hl (k := 1) rfl rfl (by decide) rfl (fun ls hl => ?_)
          refine lv_iinc (v := (x2 + 1)) (lv' := [(2, .int (x2 + 1)), (1, .int (x1 + 1)), (0, .ref a_t)]) hx hb dX7_choices_32 hl (k := 1) rfl rfl (by decide) rfl (fun ls hl => ?_)
          refine lv_goto (tgt := 4) hx hb dX7_choices_35 (by decide) ?_
          exact ih0 (x1 + 1) (x2 + 1) h ls (lv_sub hl [0, 1, 2] rfl)
  exact L4 5000 0 0  h ls (lv_sub hl [0, 1, 2] rfl)
theorem l_X7_ladder_0 : Cond.fieldLink RX7 26 "CornerStones" "now" "LCornerStones$Game;" ∈ wsX7_ladder := (List.mem_cons_of_mem _ (List.mem_append_left _ (List.mem_append_left _ (List.mem_append_left _ (List.mem_append_left _ (List.mem_append_left _ (List.mem_append_left _ (List.mem_of_getElem? (i := 4) rfl))))))))
theorem i_X7_ladder_X7 : ∀ w ∈ wsX70, w ∈ wsX7_ladder := fun _ h => (List.mem_cons_of_mem _ (List.mem_append_left _ (List.mem_append_left _ (List.mem_append_left _ (List.mem_append_left _ (List.mem_append_right _ h))))))
theorem i_X7_ladder_X0 : ∀ w ∈ wsX00, w ∈ wsX7_ladder := fun _ h => (List.mem_cons_of_mem _ (List.mem_append_left _ (List.mem_append_left _ (List.mem_append_left _ (List.mem_append_right _ h)))))
theorem l_X7_ladder_3 : Cond.initialized RX3 ∈ wsX7_ladder := (List.mem_cons_of_mem _ (List.mem_append_left _ (List.mem_append_left _ (List.mem_append_left _ (List.mem_append_left _ (List.mem_append_left _ (List.mem_append_left _ (List.mem_of_getElem? (i := 23) rfl))))))))
theorem l_X7_ladder_4 : Cond.static yX3_holdsOwner ∈ wsX7_ladder := (List.mem_cons_of_mem _ (List.mem_append_left _ (List.mem_append_left _ (List.mem_append_left _ (List.mem_append_left _ (List.mem_append_left _ (List.mem_append_right _ (List.mem_append_right _ (List.mem_of_getElem? (i := 7) rfl)))))))))
theorem l_X7_ladder_5 : Cond.static yX3_firstStone ∈ wsX7_ladder := (List.mem_cons_of_mem _ (List.mem_append_left _ (List.mem_append_left _ (List.mem_append_left _ (List.mem_append_left _ (List.mem_append_left _ (List.mem_append_left _ (List.mem_of_getElem? (i := 22) rfl))))))))
theorem a_X7_ladder_A : ∀ w ∈ (vx_atS RX7 54 "java/lang/IllegalArgumentException" ["java/lang/RuntimeException", "java/lang/Exception"]).filter goodWord, w ∈ wsX7_ladder := fun _ h => (List.mem_cons_of_mem _ (List.mem_append_right _ h))
theorem l_X7_ladder_7 : Cond.classLink RX7 50 "java/lang/IllegalArgumentException" ∈ wsX7_ladder := (List.mem_cons_of_mem _ (List.mem_append_left _ (List.mem_append_left _ (List.mem_append_left _ (List.mem_append_left _ (List.mem_append_left _ (List.mem_append_left _ (List.mem_of_getElem? (i := 2) rfl))))))))
theorem l_X7_ladder_8 : Cond.initialized "java/lang/IllegalArgumentException" ∈ wsX7_ladder := (List.mem_cons_of_mem _ (List.mem_append_left _ (List.mem_append_left _ (List.mem_append_left _ (List.mem_append_left _ (List.mem_append_left _ (List.mem_append_left _ (List.mem_of_getElem? (i := 3) rfl))))))))
theorem a_X7_ladder_O : ∀ w ∈ (vx_atS RX7 151 "java/lang/IndexOutOfBoundsException" ["java/lang/RuntimeException", "java/lang/Exception"]).filter goodWord, w ∈ wsX7_ladder := fun _ h => (List.mem_cons_of_mem _ (List.mem_append_left _ (List.mem_append_right _ h)))
theorem l_X7_ladder_10 : Cond.classLink RX7 147 "java/lang/IndexOutOfBoundsException" ∈ wsX7_ladder := (List.mem_cons_of_mem _ (List.mem_append_left _ (List.mem_append_left _ (List.mem_append_left _ (List.mem_append_left _ (List.mem_append_left _ (List.mem_append_left _ (List.mem_of_getElem? (i := 0) rfl))))))))
theorem l_X7_ladder_11 : Cond.initialized "java/lang/IndexOutOfBoundsException" ∈ wsX7_ladder := (List.mem_cons_of_mem _ (List.mem_append_left _ (List.mem_append_left _ (List.mem_append_left _ (List.mem_append_left _ (List.mem_append_left _ (List.mem_append_left _ (List.mem_of_getElem? (i := 1) rfl))))))))
theorem q_X7_ladder : yX7_ladder.cls ≠ "java/lang/invoke/MethodHandle" ∧ yX7_ladder.cls ≠ "java/lang/invoke/VarHandle" ∧ (parseMethodDescriptor yX7_ladder.desc).map (fun d => d.parameters.length) = some 2 := by decide +kernel
def fX7_ladder (w_t_now : Int32 × Int32 × Int32 × Int32 × Int64 × Int64 × Int32 × Int32) (w_t_now_grid : Int32 × Int32 × Int64 × Int64 × Int64) (p0 : Int32) (p1 : Int32) : Option (String ⊕ (Int32)) := if (fX2_has w_t_now_grid p0) = true then (if p1 = 0 then (bnd (fX0_colourAt w_t_now p0) fun v3 => if v3 = (-1) then (some (Sum.inr (((-1) : Int32)))) else (if p1 = 0 then ((fLadF w_t_now_grid (fX0_stonesOf w_t_now (1 - v3)) (fX0_stonesOf w_t_now v3) (shlL 1 p0) 12).bind fun r8 => if r8 = 0 then (if (0 : Int32) = 0 then (some (Sum.inr ((0 : Int32)))) else (some (Sum.inr ((1 : Int32))))) else (if (1 : Int32) = 0 then (some (Sum.inr ((0 : Int32)))) else (some (Sum.inr ((1 : Int32)))))) else ((fLadO w_t_now_grid (fX0_stonesOf w_t_now (1 - v3)) (fX0_stonesOf w_t_now v3) (shlL 1 p0) 12).bind fun r6 => if r6 = true then (some (Sum.inr ((1 : Int32)))) else (some (Sum.inr ((0 : Int32))))))) else (if p1 = 1 then (bnd (fX0_colourAt w_t_now p0) fun v13 => if v13 = (-1) then (some (Sum.inr (((-1) : Int32)))) else (if p1 = 0 then ((fLadF w_t_now_grid (fX0_stonesOf w_t_now (1 - v13)) (fX0_stonesOf w_t_now v13) (shlL 1 p0) 12).bind fun r18 => if r18 = 0 then (if (0 : Int32) = 0 then (some (Sum.inr ((0 : Int32)))) else (some (Sum.inr ((1 : Int32))))) else (if (1 : Int32) = 0 then (some (Sum.inr ((0 : Int32)))) else (some (Sum.inr ((1 : Int32)))))) else ((fLadO w_t_now_grid (fX0_stonesOf w_t_now (1 - v13)) (fX0_stonesOf w_t_now v13) (shlL 1 p0) 12).bind fun r16 => if r16 = true then (some (Sum.inr ((1 : Int32)))) else (some (Sum.inr ((0 : Int32))))))) else (some (Sum.inl "java/lang/IllegalArgumentException")))) else (some (Sum.inl "java/lang/IndexOutOfBoundsException"))
set_option maxHeartbeats 4000000 in
set_option maxRecDepth 100000 in
theorem c_X7_ladder {l : Launch} {z : Nat} {D : va_G} {K : Nat → ClassId} {σ : mwm} {a_t a_t_text a_t_now a_t_copy a_t_memory a_t_slot0 a_t_slot1 a_t_now_before0 a_t_now_before1 a_t_now_grid : Nat} {w_t_now : Int32 × Int32 × Int32 × Int32 × Int64 × Int64 × Int32 × Int32} {w_t_now_grid : Int32 × Int32 × Int64 × Int64 × Int64} {p0 : Int32} {p1 : Int32} (hc_t : σ a_t = some (cl5 a_t_text a_t_now a_t_copy a_t_memory a_t_slot0 a_t_slot1)) (hc_t_now : σ a_t_now = some (cl0 a_t_now_before0 a_t_now_before1 a_t_now_grid w_t_now)) (hc_t_now_grid : σ a_t_now_grid = some (cl2  w_t_now_grid)) (hlt : l.stackTraces = false) {v : String ⊕ (Int32)} (h : fX7_ladder w_t_now w_t_now_grid p0 p1 = some v) : vx_Met l yX7_ladder wsX7_ladder ({ frames := 71, cells := 1, slots := 6, locals := 3036 } : Room) (PCx z D K [.ref a_t, .int p0, .int p1] σ) (qwI z D (fun r σ2 => ∃ w9 : Int32, v = Sum.inr w9 ∧ r = w9 ∧ ∀ (q : Nat) (f : va_E), σ q = some f → σ2 q = some f)) (XQ z D σ v) 1 6 (zA z) := by
  refine mx_enter (cc := cX7_ladder) (maxL := 5) (ret := (some .int)) (own := RX7) (lv := [(0, .ref a_t), (1, .int p0), (2, .int p1)]) (by decide) rfl rfl (Nat.le_of_ble_eq_true rfl) rfl ?_
  intro p e s m below meth c ls hC hx hb hown hts hK hr hlocks hnm hz hM hS hl hX hex
  unfold fX7_ladder at h
  refine lv_aload_n hx hb dX7_ladder_0 rfl (lv_at hl 0 rfl) ?_
  refine mw_get (ci := 5) (C := RX7) (T := TX7) (N := 6) (v := .ref a_t_now) hC i_X7_ladder_X7 hM hc_t rfl 1 (by decide) l_X7_ladder_0 rfl rfl dX7_ladder_1 ?_
  refine mw_getN (ci := 0) (C := RX0) (T := TX0) (N := 11) (v := .ref a_t_now_grid) hC i_X7_ladder_X0 hM hc_t_now rfl 2 (by decide) (nx_RX7_118 hC.2.2.2) rfl rfl dX7_ladder_4 ?_
  refine lv_iload_n hx hb dX7_ladder_7 rfl (lv_at hl 1 rfl) ?_
  refine mw_ci (mw_runV (As := [.int p0]) (rest := []) (ci := 2) (C := RX2) (T := TX2) (N := 5) hC hM hS hc_t_now_grid rfl (c_X2_has (a_t := a_t_now_grid) (w_t := w_t_now_grid) (p0 := p0) (hc_t := hc_t_now_grid) (v := (fX2_has w_t_now_grid p0)) rfl) gX7_ladder_X2_has rfl rfl rfl rfl q_X2_has ⟨Nat.le_of_ble_eq_true rfl, Nat.le_of_ble_eq_true rfl⟩ rfl rfl (Nat.le_of_ble_eq_true rfl) hl.1 dX7_ladder_8 ⟨Nat.le_of_ble_eq_true rfl, Nat.le_of_ble_eq_true rfl⟩) ?_
  refine lv_if_ne (tgt := 24) hx hb dX7_ladder_11 (by decide) (fun c1 => ?_) (fun c1 => ?_)
  · replace c1 := b2i_ne0.mp c1
    replace h := it_pos c1 h
    refine lv_iload_n hx hb dX7_ladder_24 rfl (lv_at hl 2 rfl) ?_
    refine lv_if_eq (tgt := 43) hx hb dX7_ladder_25 (by decide) (fun c2 => ?_) (fun c2 => ?_)
    · replace h := it_pos c2 h
      refine lv_aload_n hx hb dX7_ladder_43 rfl (lv_at hl 0 rfl) ?_
      refine mw_get (ci := 5) (C := RX7) (T := TX7) (N := 6) (v := .ref a_t_now) hC i_X7_ladder_X7 hM hc_t rfl 1 (by decide) l_X7_ladder_0 rfl rfl dX7_ladder_44 ?_
      refine lv_iload_n hx hb dX7_ladder_47 rfl (lv_at hl 1 rfl) ?_
      refine mw_ci (mw_runV (As := [.int p0]) (rest := []) (ci := 0) (C := RX0) (T := TX0) (N := 11) hC hM hS hc_t_now rfl (c_X0_colourAt (a_t := a_t_now) (a_t_before0 := a_t_now_before0) (a_t_before1 := a_t_now_before1) (a_t_grid := a_t_now_grid) (w_t := w_t_now) (p0 := p0) (hc_t := hc_t_now) (v := (fX0_colourAt w_t_now p0)) rfl) gX7_ladder_X0_colourAt rfl rfl rfl rfl q_X0_colourAt ⟨Nat.le_of_ble_eq_true rfl, Nat.le_of_ble_eq_true rfl⟩ rfl rfl (Nat.le_of_ble_eq_true rfl) hl.1 dX7_ladder_48 ⟨Nat.le_of_ble_eq_true rfl, Nat.le_of_ble_eq_true rfl⟩) ?_
      refine lv_topi (fun v3 ev3 => ?_)
      replace h := bnd_at ev3 h
      refine lv_istore_n (lv' := [(3, .int v3), (0, .ref a_t), (1, .int p0), (2, .int p1)]) hx hb dX7_ladder_51 rfl hl (by decide) rfl (fun ls hl => ?_)
      refine lv_iload_n hx hb dX7_ladder_52 rfl (lv_at hl 0 rfl) ?_
      refine lv_iconst (v := -1) hx hb dX7_ladder_53 (by decide) ?_
      refine lv_icmp_ne (tgt := 59) hx hb dX7_ladder_54 (by decide) (fun c4 => ?_) (fun c4 => ?_)
      · replace h := it_neg c4 h
        refine lv_iload_n hx hb dX7_ladder_59 rfl (lv_at hl 3 rfl) ?_
        refine lv_if_ne (tgt := 109) hx hb dX7_ladder_60 (by decide) (fun c5 => ?_) (fun c5 => ?_)
        · replace h := it_neg c5 h
          refine lv_aload_n hx hb dX7_ladder_109 rfl (lv_at hl 1 rfl) ?_
          refine mw_get (ci := 5) (C := RX7) (T := TX7) (N := 6) (v := .ref a_t_now) hC i_X7_ladder_X7 hM hc_t rfl 1 (by decide) l_X7_ladder_0 rfl rfl dX7_ladder_110 ?_
          refine mw_getN (ci := 0) (C := RX0) (T := TX0) (N := 11) (v := .ref a_t_now_grid) hC i_X7_ladder_X0 hM hc_t_now rfl 2 (by decide) (nx_RX7_118 hC.2.2.2) rfl rfl dX7_ladder_113 ?_
          refine lv_aload_n hx hb dX7_ladder_116 rfl (lv_at hl 1 rfl) ?_
          refine mw_get (ci := 5) (C := RX7) (T := TX7) (N := 6) (v := .ref a_t_now) hC i_X7_ladder_X7 hM hc_t rfl 1 (by decide) l_X7_ladder_0 rfl rfl dX7_ladder_117 ?_
          refine lv_iconst (v := 1) hx hb dX7_ladder_120 (by decide) ?_
          refine lv_iload_n hx hb dX7_ladder_121 rfl (lv_at hl 0 rfl) ?_
          refine lv_isub hx hb dX7_ladder_122 ?_
          refine mw_cl (mw_runV (As := [.int (1 - v3)]) (rest := [.ref a_t_now_grid]) (ci := 0) (C := RX0) (T := TX0) (N := 11) hC hM hS hc_t_now rfl (c_X0_stonesOf (a_t := a_t_now) (a_t_before0 := a_t_now_before0) (a_t_before1 := a_t_now_before1) (a_t_grid := a_t_now_grid) (w_t := w_t_now) (p0 := (1 - v3)) (hc_t := hc_t_now) (v := (fX0_stonesOf w_t_now (1 - v3))) rfl) gX7_ladder_X0_stonesOf rfl rfl rfl rfl q_X0_stonesOf ⟨Nat.le_of_ble_eq_true rfl, Nat.le_of_ble_eq_true rfl⟩ rfl rfl (Nat.le_of_ble_eq_true rfl) hl.1 dX7_ladder_123 ⟨Nat.le_of_ble_eq_true rfl, Nat.le_of_ble_eq_true rfl⟩) ?_
          refine lv_aload_n hx hb dX7_ladder_126 rfl (lv_at hl 1 rfl) ?_
          refine mw_get (ci := 5) (C := RX7) (T := TX7) (N := 6) (v := .ref a_t_now) hC i_X7_ladder_X7 hM hc_t rfl 1 (by decide) l_X7_ladder_0 rfl rfl dX7_ladder_127 ?_
          refine lv_iload_n hx hb dX7_ladder_130 rfl (lv_at hl 0 rfl) ?_
          refine mw_cl (mw_runV (As := [.int v3]) (rest := [.long (fX0_stonesOf w_t_now (1 - v3)), .ref a_t_now_grid]) (ci := 0) (C := RX0) (T := TX0) (N := 11) hC hM hS hc_t_now rfl (c_X0_stonesOf (a_t := a_t_now) (a_t_before0 := a_t_now_before0) (a_t_before1 := a_t_now_before1) (a_t_grid := a_t_now_grid) (w_t := w_t_now) (p0 := v3) (hc_t := hc_t_now) (v := (fX0_stonesOf w_t_now v3)) rfl) gX7_ladder_X0_stonesOf rfl rfl rfl rfl q_X0_stonesOf ⟨Nat.le_of_ble_eq_true rfl, Nat.le_of_ble_eq_true rfl⟩ rfl rfl (Nat.le_of_ble_eq_true rfl) hl.1 dX7_ladder_131 ⟨Nat.le_of_ble_eq_true rfl, Nat.le_of_ble_eq_true rfl⟩) ?_
          refine lv_lconst (v := 1) hx hb dX7_ladder_134 (by decide) ?_
          refine lv_iload_n hx hb dX7_ladder_135 rfl (lv_at hl 2 rfl) ?_
          refine lv_lshl (v := (shlL 1 p0)) hx hb dX7_ladder_136 rfl ?_
          refine lv_bipush (v := 12) hx hb dX7_ladder_137 (by decide) ?_
          obtain ⟨r6, hr6, h⟩ := ob_some h
          refine mw_ci (mw_runSN (As := [.ref a_t_now_grid, .long (fX0_stonesOf w_t_now (1 - v3)), .long (fX0_stonesOf w_t_now v3), .long (shlL 1 p0), .int 12]) (rest := []) hC hM hS (cl_X3_holdsOwner (a_p0 := a_t_now_grid) (w_p0 := w_t_now_grid) (p1 := (fX0_stonesOf w_t_now (1 - v3))) (p2 := (fX0_stonesOf w_t_now v3)) (p3 := (shlL 1 p0)) (p4 := 12) (hc_p0 := hc_t_now_grid) (v := r6) hr6) gX7_ladder_X3_holdsOwner_n243 rfl rfl rfl (nx_RX7_243 hC.2.2.2) l_X7_ladder_3 l_X7_ladder_4 q_X3_holdsOwner ⟨Nat.le_of_ble_eq_true rfl, Nat.le_of_ble_eq_true rfl⟩ rfl rfl (Nat.le_of_ble_eq_true rfl) hl.1 dX7_ladder_139 ⟨Nat.le_of_ble_eq_true rfl, Nat.le_of_ble_eq_true rfl⟩) ?_
          refine lv_istore (lv' := [(4, .int (b2i r6)), (3, .int v3), (0, .ref a_t), (1, .int p0), (2, .int p1)]) hx hb dX7_ladder_142 hl (by decide) rfl (fun ls hl => ?_)
          refine lv_iload hx hb dX7_ladder_144 (lv_at hl 0 rfl) ?_
          refine lv_if_eq (tgt := 153) hx hb dX7_ladder_146 (by decide) (fun c7 => ?_) (fun c7 => ?_)
          · replace c7 := b2i_eq0.mp c7
            replace h := it_neg c7 h
            refine lv_iconst (v := 0) hx hb dX7_ladder_153 (by decide) ?_
            cases h
            refine W.widen (k := 1) (n := 6) (by decide) (by decide) ?_
            exact vx_ret (W.iret hx hb hr (fun t ht hW => ⟨⟨_, _, rfl, ⟨_, rfl, rfl, (fun _ _ h9  => h9)⟩, by show MW z D _ t.heap; rw [ht]; exact hM⟩, hS.F ht⟩) hS.2.2 dX7_ladder_154 hlocks)
          · replace c7 := b2i_ne0.mp c7
            replace h := it_pos c7 h
            refine lv_iconst (v := 1) hx hb dX7_ladder_149 (by decide) ?_
            refine lv_goto (tgt := 154) hx hb dX7_ladder_150 (by decide) ?_
            cases h
            refine W.widen (k := 1) (n := 6) (by decide) (by decide) ?_
            exact vx_ret (W.iret hx hb hr (fun t ht hW => ⟨⟨_, _, rfl, ⟨_, rfl, rfl, (fun _ _ h9  => h9)⟩, by show MW z D _ t.heap; rw [ht]; exact hM⟩, hS.F ht⟩) hS.2.2 dX7_ladder_154 hlocks)
        · replace h := it_pos c5 h
          refine lv_aload_n hx hb dX7_ladder_63 rfl (lv_at hl 1 rfl) ?_
          refine mw_get (ci := 5) (C := RX7) (T := TX7) (N := 6) (v := .ref a_t_now) hC i_X7_ladder_X7 hM hc_t rfl 1 (by decide) l_X7_ladder_0 rfl rfl dX7_ladder_64 ?_
          refine mw_getN (ci := 0) (C := RX0) (T := TX0) (N := 11) (v := .ref a_t_now_grid) hC i_X7_ladder_X0 hM hc_t_now rfl 2 (by decide) (nx_RX7_118 hC.2.2.2) rfl rfl dX7_ladder_67 ?_
          refine lv_aload_n hx hb dX7_ladder_70 rfl (lv_at hl 1 rfl) ?_
          refine mw_get (ci := 5) (C := RX7) (T := TX7) (N := 6) (v := .ref a_t_now) hC i_X7_ladder_X7 hM hc_t rfl 1 (by decide) l_X7_ladder_0 rfl rfl dX7_ladder_71 ?_
          refine lv_iconst (v := 1) hx hb dX7_ladder_74 (by decide) ?_
          refine lv_iload_n hx hb dX7_ladder_75 rfl (lv_at hl 0 rfl) ?_
          refine lv_isub hx hb dX7_ladder_76 ?_
          refine mw_cl (mw_runV (As := [.int (1 - v3)]) (rest := [.ref a_t_now_grid]) (ci := 0) (C := RX0) (T := TX0) (N := 11) hC hM hS hc_t_now rfl (c_X0_stonesOf (a_t := a_t_now) (a_t_before0 := a_t_now_before0) (a_t_before1 := a_t_now_before1) (a_t_grid := a_t_now_grid) (w_t := w_t_now) (p0 := (1 - v3)) (hc_t := hc_t_now) (v := (fX0_stonesOf w_t_now (1 - v3))) rfl) gX7_ladder_X0_stonesOf rfl rfl rfl rfl q_X0_stonesOf ⟨Nat.le_of_ble_eq_true rfl, Nat.le_of_ble_eq_true rfl⟩ rfl rfl (Nat.le_of_ble_eq_true rfl) hl.1 dX7_ladder_77 ⟨Nat.le_of_ble_eq_true rfl, Nat.le_of_ble_eq_true rfl⟩) ?_
          refine lv_aload_n hx hb dX7_ladder_80 rfl (lv_at hl 1 rfl) ?_
          refine mw_get (ci := 5) (C := RX7) (T := TX7) (N := 6) (v := .ref a_t_now) hC i_X7_ladder_X7 hM hc_t rfl 1 (by decide) l_X7_ladder_0 rfl rfl dX7_ladder_81 ?_
          refine lv_iload_n hx hb dX7_ladder_84 rfl (lv_at hl 0 rfl) ?_
          refine mw_cl (mw_runV (As := [.int v3]) (rest := [.long (fX0_stonesOf w_t_now (1 - v3)), .ref a_t_now_grid]) (ci := 0) (C := RX0) (T := TX0) (N := 11) hC hM hS hc_t_now rfl (c_X0_stonesOf (a_t := a_t_now) (a_t_before0 := a_t_now_before0) (a_t_before1 := a_t_now_before1) (a_t_grid := a_t_now_grid) (w_t := w_t_now) (p0 := v3) (hc_t := hc_t_now) (v := (fX0_stonesOf w_t_now v3)) rfl) gX7_ladder_X0_stonesOf rfl rfl rfl rfl q_X0_stonesOf ⟨Nat.le_of_ble_eq_true rfl, Nat.le_of_ble_eq_true rfl⟩ rfl rfl (Nat.le_of_ble_eq_true rfl) hl.1 dX7_ladder_85 ⟨Nat.le_of_ble_eq_true rfl, Nat.le_of_ble_eq_true rfl⟩) ?_
          refine lv_lconst (v := 1) hx hb dX7_ladder_88 (by decide) ?_
          refine lv_iload_n hx hb dX7_ladder_89 rfl (lv_at hl 2 rfl) ?_
          refine lv_lshl (v := (shlL 1 p0)) hx hb dX7_ladder_90 rfl ?_
          refine lv_bipush (v := 12) hx hb dX7_ladder_91 (by decide) ?_
          obtain ⟨r8, hr8, h⟩ := ob_some h
          refine mw_cl (mw_runSN (As := [.ref a_t_now_grid, .long (fX0_stonesOf w_t_now (1 - v3)), .long (fX0_stonesOf w_t_now v3), .long (shlL 1 p0), .int 12]) (rest := []) hC hM hS (cl_X3_firstStone (a_p0 := a_t_now_grid) (w_p0 := w_t_now_grid) (p1 := (fX0_stonesOf w_t_now (1 - v3))) (p2 := (fX0_stonesOf w_t_now v3)) (p3 := (shlL 1 p0)) (p4 := 12) (hc_p0 := hc_t_now_grid) (v := r8) hr8) gX7_ladder_X3_firstStone_n237 rfl rfl rfl (nx_RX7_237 hC.2.2.2) l_X7_ladder_3 l_X7_ladder_5 q_X3_firstStone ⟨Nat.le_of_ble_eq_true rfl, Nat.le_of_ble_eq_true rfl⟩ rfl rfl (Nat.le_of_ble_eq_true rfl) hl.1 dX7_ladder_93 ⟨Nat.le_of_ble_eq_true rfl, Nat.le_of_ble_eq_true rfl⟩) ?_
          refine lv_lconst (v := 0) hx hb dX7_ladder_96 (by decide) ?_
          refine W.lcmp hx hb dX7_ladder_97 ?_
          refine lv_if_eq (tgt := 105) hx hb dX7_ladder_98 (by decide) (fun c9 => ?_) (fun c9 => ?_)
          · replace c9 := (lg_cmp_eq _ _).mp c9
            replace h := it_pos c9 h
            refine lv_iconst (v := 0) hx hb dX7_ladder_105 (by decide) ?_
            refine lv_goto (tgt := 142) hx hb dX7_ladder_106 (by decide) ?_
            refine lv_istore (lv' := [(4, .int 0), (3, .int v3), (0, .ref a_t), (1, .int p0), (2, .int p1)]) hx hb dX7_ladder_142 hl (by decide) rfl (fun ls hl => ?_)
            refine lv_iload hx hb dX7_ladder_144 (lv_at hl 0 rfl) ?_
            refine lv_if_eq (tgt := 153) hx hb dX7_ladder_146 (by decide) (fun c10 => ?_) (fun c10 => ?_)
            · replace h := it_pos c10 h
              refine lv_iconst (v := 0) hx hb dX7_ladder_153 (by decide) ?_
              cases h
              refine W.widen (k := 1) (n := 6) (by decide) (by decide) ?_
              exact vx_ret (W.iret hx hb hr (fun t ht hW => ⟨⟨_, _, rfl, ⟨_, rfl, rfl, (fun _ _ h9  => h9)⟩, by show MW z D _ t.heap; rw [ht]; exact hM⟩, hS.F ht⟩) hS.2.2 dX7_ladder_154 hlocks)
            · replace h := it_neg c10 h
              refine lv_iconst (v := 1) hx hb dX7_ladder_149 (by decide) ?_
              refine lv_goto (tgt := 154) hx hb dX7_ladder_150 (by decide) ?_
              cases h
              refine W.widen (k := 1) (n := 6) (by decide) (by decide) ?_
              exact vx_ret (W.iret hx hb hr (fun t ht hW => ⟨⟨_, _, rfl, ⟨_, rfl, rfl, (fun _ _ h9  => h9)⟩, by show MW z D _ t.heap; rw [ht]; exact hM⟩, hS.F ht⟩) hS.2.2 dX7_ladder_154 hlocks)
          · replace c9 := mt (lg_cmp_eq _ _).mpr c9
            replace h := it_neg c9 h
            refine lv_iconst (v := 1) hx hb dX7_ladder_101 (by decide) ?_
            refine lv_goto (tgt := 142) hx hb dX7_ladder_102 (by decide) ?_
            refine lv_istore (lv' := [(4, .int 1), (3, .int v3), (0, .ref a_t), (1, .int p0), (2, .int p1)]) hx hb dX7_ladder_142 hl (by decide) rfl (fun ls hl => ?_)
            refine lv_iload hx hb dX7_ladder_144 (lv_at hl 0 rfl) ?_
            refine lv_if_eq (tgt := 153) hx hb dX7_ladder_146 (by decide) (fun c11 => ?_) (fun c11 => ?_)
            · replace h := it_pos c11 h
              refine lv_iconst (v := 0) hx hb dX7_ladder_153 (by decide) ?_
              cases h
              refine W.widen (k := 1) (n := 6) (by decide) (by decide) ?_
              exact vx_ret (W.iret hx hb hr (fun t ht hW => ⟨⟨_, _, rfl, ⟨_, rfl, rfl, (fun _ _ h9  => h9)⟩, by show MW z D _ t.heap; rw [ht]; exact hM⟩, hS.F ht⟩) hS.2.2 dX7_ladder_154 hlocks)
            · replace h := it_neg c11 h
              refine lv_iconst (v := 1) hx hb dX7_ladder_149 (by decide) ?_
              refine lv_goto (tgt := 154) hx hb dX7_ladder_150 (by decide) ?_
              cases h
              refine W.widen (k := 1) (n := 6) (by decide) (by decide) ?_
              exact vx_ret (W.iret hx hb hr (fun t ht hW => ⟨⟨_, _, rfl, ⟨_, rfl, rfl, (fun _ _ h9  => h9)⟩, by show MW z D _ t.heap; rw [ht]; exact hM⟩, hS.F ht⟩) hS.2.2 dX7_ladder_154 hlocks)
      · replace h := it_pos c4 h
        refine lv_iconst (v := -1) hx hb dX7_ladder_57 (by decide) ?_
        cases h
        refine W.widen (k := 1) (n := 6) (by decide) (by decide) ?_
        exact vx_ret (W.iret hx hb hr (fun t ht hW => ⟨⟨_, _, rfl, ⟨_, rfl, rfl, (fun _ _ h9  => h9)⟩, by show MW z D _ t.heap; rw [ht]; exact hM⟩, hS.F ht⟩) hS.2.2 dX7_ladder_58 hlocks)
    · replace h := it_neg c2 h
      refine lv_iload_n hx hb dX7_ladder_28 rfl (lv_at hl 2 rfl) ?_
      refine lv_iconst (v := 1) hx hb dX7_ladder_29 (by decide) ?_
      refine lv_icmp_eq (tgt := 43) hx hb dX7_ladder_30 (by decide) (fun c12 => ?_) (fun c12 => ?_)
      · replace h := it_pos c12 h
        refine lv_aload_n hx hb dX7_ladder_43 rfl (lv_at hl 0 rfl) ?_
        refine mw_get (ci := 5) (C := RX7) (T := TX7) (N := 6) (v := .ref a_t_now) hC i_X7_ladder_X7 hM hc_t rfl 1 (by decide) l_X7_ladder_0 rfl rfl dX7_ladder_44 ?_
        refine lv_iload_n hx hb dX7_ladder_47 rfl (lv_at hl 1 rfl) ?_
        refine mw_ci (mw_runV (As := [.int p0]) (rest := []) (ci := 0) (C := RX0) (T := TX0) (N := 11) hC hM hS hc_t_now rfl (c_X0_colourAt (a_t := a_t_now) (a_t_before0 := a_t_now_before0) (a_t_before1 := a_t_now_before1) (a_t_grid := a_t_now_grid) (w_t := w_t_now) (p0 := p0) (hc_t := hc_t_now) (v := (fX0_colourAt w_t_now p0)) rfl) gX7_ladder_X0_colourAt rfl rfl rfl rfl q_X0_colourAt ⟨Nat.le_of_ble_eq_true rfl, Nat.le_of_ble_eq_true rfl⟩ rfl rfl (Nat.le_of_ble_eq_true rfl) hl.1 dX7_ladder_48 ⟨Nat.le_of_ble_eq_true rfl, Nat.le_of_ble_eq_true rfl⟩) ?_
        refine lv_topi (fun v13 ev13 => ?_)
        replace h := bnd_at ev13 h
        refine lv_istore_n (lv' := [(3, .int v13), (0, .ref a_t), (1, .int p0), (2, .int p1)]) hx hb dX7_ladder_51 rfl hl (by decide) rfl (fun ls hl => ?_)
        refine lv_iload_n hx hb dX7_ladder_52 rfl (lv_at hl 0 rfl) ?_
        refine lv_iconst (v := -1) hx hb dX7_ladder_53 (by decide) ?_
        refine lv_icmp_ne (tgt := 59) hx hb dX7_ladder_54 (by decide) (fun c14 => ?_) (fun c14 => ?_)
        · replace h := it_neg c14 h
          refine lv_iload_n hx hb dX7_ladder_59 rfl (lv_at hl 3 rfl) ?_
          refine lv_if_ne (tgt := 109) hx hb dX7_ladder_60 (by decide) (fun c15 => ?_) (fun c15 => ?_)
          · replace h := it_neg c15 h
            refine lv_aload_n hx hb dX7_ladder_109 rfl (lv_at hl 1 rfl) ?_
            refine mw_get (ci := 5) (C := RX7) (T := TX7) (N := 6) (v := .ref a_t_now) hC i_X7_ladder_X7 hM hc_t rfl 1 (by decide) l_X7_ladder_0 rfl rfl dX7_ladder_110 ?_
            refine mw_getN (ci := 0) (C := RX0) (T := TX0) (N := 11) (v := .ref a_t_now_grid) hC i_X7_ladder_X0 hM hc_t_now rfl 2 (by decide) (nx_RX7_118 hC.2.2.2) rfl rfl dX7_ladder_113 ?_
            refine lv_aload_n hx hb dX7_ladder_116 rfl (lv_at hl 1 rfl) ?_
            refine mw_get (ci := 5) (C := RX7) (T := TX7) (N := 6) (v := .ref a_t_now) hC i_X7_ladder_X7 hM hc_t rfl 1 (by decide) l_X7_ladder_0 rfl rfl dX7_ladder_117 ?_
            refine lv_iconst (v := 1) hx hb dX7_ladder_120 (by decide) ?_
            refine lv_iload_n hx hb dX7_ladder_121 rfl (lv_at hl 0 rfl) ?_
            refine lv_isub hx hb dX7_ladder_122 ?_
            refine mw_cl (mw_runV (As := [.int (1 - v13)]) (rest := [.ref a_t_now_grid]) (ci := 0) (C := RX0) (T := TX0) (N := 11) hC hM hS hc_t_now rfl (c_X0_stonesOf (a_t := a_t_now) (a_t_before0 := a_t_now_before0) (a_t_before1 := a_t_now_before1) (a_t_grid := a_t_now_grid) (w_t := w_t_now) (p0 := (1 - v13)) (hc_t := hc_t_now) (v := (fX0_stonesOf w_t_now (1 - v13))) rfl) gX7_ladder_X0_stonesOf rfl rfl rfl rfl q_X0_stonesOf ⟨Nat.le_of_ble_eq_true rfl, Nat.le_of_ble_eq_true rfl⟩ rfl rfl (Nat.le_of_ble_eq_true rfl) hl.1 dX7_ladder_123 ⟨Nat.le_of_ble_eq_true rfl, Nat.le_of_ble_eq_true rfl⟩) ?_
            refine lv_aload_n hx hb dX7_ladder_126 rfl (lv_at hl 1 rfl) ?_
            refine mw_get (ci := 5) (C := RX7) (T := TX7) (N := 6) (v := .ref a_t_now) hC i_X7_ladder_X7 hM hc_t rfl 1 (by decide) l_X7_ladder_0 rfl rfl dX7_ladder_127 ?_
            refine lv_iload_n hx hb dX7_ladder_130 rfl (lv_at hl 0 rfl) ?_
            refine mw_cl (mw_runV (As := [.int v13]) (rest := [.long (fX0_stonesOf w_t_now (1 - v13)), .ref a_t_now_grid]) (ci := 0) (C := RX0) (T := TX0) (N := 11) hC hM hS hc_t_now rfl (c_X0_stonesOf (a_t := a_t_now) (a_t_before0 := a_t_now_before0) (a_t_before1 := a_t_now_before1) (a_t_grid := a_t_now_grid) (w_t := w_t_now) (p0 := v13) (hc_t := hc_t_now) (v := (fX0_stonesOf w_t_now v13)) rfl) gX7_ladder_X0_stonesOf rfl rfl rfl rfl q_X0_stonesOf ⟨Nat.le_of_ble_eq_true rfl, Nat.le_of_ble_eq_true rfl⟩ rfl rfl (Nat.le_of_ble_eq_true rfl) hl.1 dX7_ladder_131 ⟨Nat.le_of_ble_eq_true rfl, Nat.le_of_ble_eq_true rfl⟩) ?_
            refine lv_lconst (v := 1) hx hb dX7_ladder_134 (by decide) ?_
            refine lv_iload_n hx hb dX7_ladder_135 rfl (lv_at hl 2 rfl) ?_
            refine lv_lshl (v := (shlL 1 p0)) hx hb dX7_ladder_136 rfl ?_
            refine lv_bipush (v := 12) hx hb dX7_ladder_137 (by decide) ?_
            obtain ⟨r16, hr16, h⟩ := ob_some h
            refine mw_ci (mw_runSN (As := [.ref a_t_now_grid, .long (fX0_stonesOf w_t_now (1 - v13)), .long (fX0_stonesOf w_t_now v13), .long (shlL 1 p0), .int 12]) (rest := []) hC hM hS (cl_X3_holdsOwner (a_p0 := a_t_now_grid) (w_p0 := w_t_now_grid) (p1 := (fX0_stonesOf w_t_now (1 - v13))) (p2 := (fX0_stonesOf w_t_now v13)) (p3 := (shlL 1 p0)) (p4 := 12) (hc_p0 := hc_t_now_grid) (v := r16) hr16) gX7_ladder_X3_holdsOwner_n243 rfl rfl rfl (nx_RX7_243 hC.2.2.2) l_X7_ladder_3 l_X7_ladder_4 q_X3_holdsOwner ⟨Nat.le_of_ble_eq_true rfl, Nat.le_of_ble_eq_true rfl⟩ rfl rfl (Nat.le_of_ble_eq_true rfl) hl.1 dX7_ladder_139 ⟨Nat.le_of_ble_eq_true rfl, Nat.le_of_ble_eq_true rfl⟩) ?_
            refine lv_istore (lv' := [(4, .int (b2i r16)), (3, .int v13), (0, .ref a_t), (1, .int p0), (2, .int p1)]) hx hb dX7_ladder_142 hl (by decide) rfl (fun ls hl => ?_)
            refine lv_iload hx hb dX7_ladder_144 (lv_at hl 0 rfl) ?_
            refine lv_if_eq (tgt := 153) hx hb dX7_ladder_146 (by decide) (fun c17 => ?_) (fun c17 => ?_)
            · replace c17 := b2i_eq0.mp c17
              replace h := it_neg c17 h
              refine lv_iconst (v := 0) hx hb dX7_ladder_153 (by decide) ?_
              cases h
              refine W.widen (k := 1) (n := 6) (by decide) (by decide) ?_
              exact vx_ret (W.iret hx hb hr (fun t ht hW => ⟨⟨_, _, rfl, ⟨_, rfl, rfl, (fun _ _ h9  => h9)⟩, by show MW z D _ t.heap; rw [ht]; exact hM⟩, hS.F ht⟩) hS.2.2 dX7_ladder_154 hlocks)
            · replace c17 := b2i_ne0.mp c17
              replace h := it_pos c17 h
              refine lv_iconst (v := 1) hx hb dX7_ladder_149 (by decide) ?_
              refine lv_goto (tgt := 154) hx hb dX7_ladder_150 (by decide) ?_
              cases h
              refine W.widen (k := 1) (n := 6) (by decide) (by decide) ?_
              exact vx_ret (W.iret hx hb hr (fun t ht hW => ⟨⟨_, _, rfl, ⟨_, rfl, rfl, (fun _ _ h9  => h9)⟩, by show MW z D _ t.heap; rw [ht]; exact hM⟩, hS.F ht⟩) hS.2.2 dX7_ladder_154 hlocks)
          · replace h := it_pos c15 h
            refine lv_aload_n hx hb dX7_ladder_63 rfl (lv_at hl 1 rfl) ?_
            refine mw_get (ci := 5) (C := RX7) (T := TX7) (N := 6) (v := .ref a_t_now) hC i_X7_ladder_X7 hM hc_t rfl 1 (by decide) l_X7_ladder_0 rfl rfl dX7_ladder_64 ?_
            refine mw_getN (ci := 0) (C := RX0) (T := TX0) (N := 11) (v := .ref a_t_now_grid) hC i_X7_ladder_X0 hM hc_t_now rfl 2 (by decide) (nx_RX7_118 hC.2.2.2) rfl rfl dX7_ladder_67 ?_
            refine lv_aload_n hx hb dX7_ladder_70 rfl (lv_at hl 1 rfl) ?_
            refine mw_get (ci := 5) (C := RX7) (T := TX7) (N := 6) (v := .ref a_t_now) hC i_X7_ladder_X7 hM hc_t rfl 1 (by decide) l_X7_ladder_0 rfl rfl dX7_ladder_71 ?_
            refine lv_iconst (v := 1) hx hb dX7_ladder_74 (by decide) ?_
            refine lv_iload_n hx hb dX7_ladder_75 rfl (lv_at hl 0 rfl) ?_
            refine lv_isub hx hb dX7_ladder_76 ?_
            refine mw_cl (mw_runV (As := [.int (1 - v13)]) (rest := [.ref a_t_now_grid]) (ci := 0) (C := RX0) (T := TX0) (N := 11) hC hM hS hc_t_now rfl (c_X0_stonesOf (a_t := a_t_now) (a_t_before0 := a_t_now_before0) (a_t_before1 := a_t_now_before1) (a_t_grid := a_t_now_grid) (w_t := w_t_now) (p0 := (1 - v13)) (hc_t := hc_t_now) (v := (fX0_stonesOf w_t_now (1 - v13))) rfl) gX7_ladder_X0_stonesOf rfl rfl rfl rfl q_X0_stonesOf ⟨Nat.le_of_ble_eq_true rfl, Nat.le_of_ble_eq_true rfl⟩ rfl rfl (Nat.le_of_ble_eq_true rfl) hl.1 dX7_ladder_77 ⟨Nat.le_of_ble_eq_true rfl, Nat.le_of_ble_eq_true rfl⟩) ?_
            refine lv_aload_n hx hb dX7_ladder_80 rfl (lv_at hl 1 rfl) ?_
            refine mw_get (ci := 5) (C := RX7) (T := TX7) (N := 6) (v := .ref a_t_now) hC i_X7_ladder_X7 hM hc_t rfl 1 (by decide) l_X7_ladder_0 rfl rfl dX7_ladder_81 ?_
            refine lv_iload_n hx hb dX7_ladder_84 rfl (lv_at hl 0 rfl) ?_
            refine mw_cl (mw_runV (As := [.int v13]) (rest := [.long (fX0_stonesOf w_t_now (1 - v13)), .ref a_t_now_grid]) (ci := 0) (C := RX0) (T := TX0) (N := 11) hC hM hS hc_t_now rfl (c_X0_stonesOf (a_t := a_t_now) (a_t_before0 := a_t_now_before0) (a_t_before1 := a_t_now_before1) (a_t_grid := a_t_now_grid) (w_t := w_t_now) (p0 := v13) (hc_t := hc_t_now) (v := (fX0_stonesOf w_t_now v13)) rfl) gX7_ladder_X0_stonesOf rfl rfl rfl rfl q_X0_stonesOf ⟨Nat.le_of_ble_eq_true rfl, Nat.le_of_ble_eq_true rfl⟩ rfl rfl (Nat.le_of_ble_eq_true rfl) hl.1 dX7_ladder_85 ⟨Nat.le_of_ble_eq_true rfl, Nat.le_of_ble_eq_true rfl⟩) ?_
            refine lv_lconst (v := 1) hx hb dX7_ladder_88 (by decide) ?_
            refine lv_iload_n hx hb dX7_ladder_89 rfl (lv_at hl 2 rfl) ?_
            refine lv_lshl (v := (shlL 1 p0)) hx hb dX7_ladder_90 rfl ?_
            refine lv_bipush (v := 12) hx hb dX7_ladder_91 (by decide) ?_
            obtain ⟨r18, hr18, h⟩ := ob_some h
            refine mw_cl (mw_runSN (As := [.ref a_t_now_grid, .long (fX0_stonesOf w_t_now (1 - v13)), .long (fX0_stonesOf w_t_now v13), .long (shlL 1 p0), .int 12]) (rest := []) hC hM hS (cl_X3_firstStone (a_p0 := a_t_now_grid) (w_p0 := w_t_now_grid) (p1 := (fX0_stonesOf w_t_now (1 - v13))) (p2 := (fX0_stonesOf w_t_now v13)) (p3 := (shlL 1 p0)) (p4 := 12) (hc_p0 := hc_t_now_grid) (v := r18) hr18) gX7_ladder_X3_firstStone_n237 rfl rfl rfl (nx_RX7_237 hC.2.2.2) l_X7_ladder_3 l_X7_ladder_5 q_X3_firstStone ⟨Nat.le_of_ble_eq_true rfl, Nat.le_of_ble_eq_true rfl⟩ rfl rfl (Nat.le_of_ble_eq_true rfl) hl.1 dX7_ladder_93 ⟨Nat.le_of_ble_eq_true rfl, Nat.le_of_ble_eq_true rfl⟩) ?_
            refine lv_lconst (v := 0) hx hb dX7_ladder_96 (by decide) ?_
            refine W.lcmp hx hb dX7_ladder_97 ?_
            refine lv_if_eq (tgt := 105) hx hb dX7_ladder_98 (by decide) (fun c19 => ?_) (fun c19 => ?_)
            · replace c19 := (lg_cmp_eq _ _).mp c19
              replace h := it_pos c19 h
              refine lv_iconst (v := 0) hx hb dX7_ladder_105 (by decide) ?_
              refine lv_goto (tgt := 142) hx hb dX7_ladder_106 (by decide) ?_
              refine lv_istore (lv' := [(4, .int 0), (3, .int v13), (0, .ref a_t), (1, .int p0), (2, .int p1)]) hx hb dX7_ladder_142 hl (by decide) rfl (fun ls hl => ?_)
              refine lv_iload hx hb dX7_ladder_144 (lv_at hl 0 rfl) ?_
              refine lv_if_eq (tgt := 153) hx hb dX7_ladder_146 (by decide) (fun c20 => ?_) (fun c20 => ?_)
              · replace h := it_pos c20 h
                refine lv_iconst (v := 0) hx hb dX7_ladder_153 (by decide) ?_
                cases h
                refine W.widen (k := 1) (n := 6) (by decide) (by decide) ?_
                exact vx_ret (W.iret hx hb hr (fun t ht hW => ⟨⟨_, _, rfl, ⟨_, rfl, rfl, (fun _ _ h9  => h9)⟩, by show MW z D _ t.heap; rw [ht]; exact hM⟩, hS.F ht⟩) hS.2.2 dX7_ladder_154 hlocks)
              · replace h := it_neg c20 h
                refine lv_iconst (v := 1) hx hb dX7_ladder_149 (by decide) ?_
                refine lv_goto (tgt := 154) hx hb dX7_ladder_150 (by decide) ?_
                cases h
                refine W.widen (k := 1) (n := 6) (by decide) (by decide) ?_
                exact vx_ret (W.iret hx hb hr (fun t ht hW => ⟨⟨_, _, rfl, ⟨_, rfl, rfl, (fun _ _ h9  => h9)⟩, by show MW z D _ t.heap; rw [ht]; exact hM⟩, hS.F ht⟩) hS.2.2 dX7_ladder_154 hlocks)
            · replace c19 := mt (lg_cmp_eq _ _).mpr c19
              replace h := it_neg c19 h
              refine lv_iconst (v := 1) hx hb dX7_ladder_101 (by decide) ?_
              refine lv_goto (tgt := 142) hx hb dX7_ladder_102 (by decide) ?_
              refine lv_istore (lv' := [(4, .int 1), (3, .int v13), (0, .ref a_t), (1, .int p0), (2, .int p1)]) hx hb dX7_ladder_142 hl (by decide) rfl (fun ls hl => ?_)
              refine lv_iload hx hb dX7_ladder_144 (lv_at hl 0 rfl) ?_
              refine lv_if_eq (tgt := 153) hx hb dX7_ladder_146 (by decide) (fun c21 => ?_) (fun c21 => ?_)
              · replace h := it_pos c21 h
                refine lv_iconst (v := 0) hx hb dX7_ladder_153 (by decide) ?_
                cases h
                refine W.widen (k := 1) (n := 6) (by decide) (by decide) ?_
                exact vx_ret (W.iret hx hb hr (fun t ht hW => ⟨⟨_, _, rfl, ⟨_, rfl, rfl, (fun _ _ h9  => h9)⟩, by show MW z D _ t.heap; rw [ht]; exact hM⟩, hS.F ht⟩) hS.2.2 dX7_ladder_154 hlocks)
              · replace h := it_neg c21 h
                refine lv_iconst (v := 1) hx hb dX7_ladder_149 (by decide) ?_
                refine lv_goto (tgt := 154) hx hb dX7_ladder_150 (by decide) ?_
                cases h
                refine W.widen (k := 1) (n := 6) (by decide) (by decide) ?_
                exact vx_ret (W.iret hx hb hr (fun t ht hW => ⟨⟨_, _, rfl, ⟨_, rfl, rfl, (fun _ _ h9  => h9)⟩, by show MW z D _ t.heap; rw [ht]; exact hM⟩, hS.F ht⟩) hS.2.2 dX7_ladder_154 hlocks)
        · replace h := it_pos c14 h
          refine lv_iconst (v := -1) hx hb dX7_ladder_57 (by decide) ?_
          cases h
          refine W.widen (k := 1) (n := 6) (by decide) (by decide) ?_
          exact vx_ret (W.iret hx hb hr (fun t ht hW => ⟨⟨_, _, rfl, ⟨_, rfl, rfl, (fun _ _ h9  => h9)⟩, by show MW z D _ t.heap; rw [ht]; exact hM⟩, hS.F ht⟩) hS.2.2 dX7_ladder_58 hlocks)
      · replace h := it_neg c12 h
        cases h
        exact mx_throw hC hX hlt hM hS rfl (by decide +kernel) l_X7_ladder_7 l_X7_ladder_8 (sx_199 hX.2.2.1) a_X7_ladder_A xb_A (xc_A hX) xg_A hl.1 dX7_ladder_33 dX7_ladder_36 dX7_ladder_37 dX7_ladder_39 dX7_ladder_42 hex (Nat.le_of_ble_eq_true rfl) (Nat.le_of_ble_eq_true rfl) (Nat.le_of_ble_eq_true rfl) (Nat.le_of_ble_eq_true rfl) hlocks (Nat.le_of_ble_eq_true rfl) (Nat.le_of_ble_eq_true rfl)
  · replace c1 := b2i_eq0.mp c1
    replace h := it_neg c1 h
    cases h
    exact mx_throw hC hX hlt hM hS rfl (by decide +kernel) l_X7_ladder_10 l_X7_ladder_11 (sx_179 hX.2.2.1) a_X7_ladder_O xb_O (xc_O hX) xg_O hl.1 dX7_ladder_14 dX7_ladder_17 dX7_ladder_18 dX7_ladder_20 dX7_ladder_23 hex (Nat.le_of_ble_eq_true rfl) (Nat.le_of_ble_eq_true rfl) (Nat.le_of_ble_eq_true rfl) (Nat.le_of_ble_eq_true rfl) hlocks (Nat.le_of_ble_eq_true rfl) (Nat.le_of_ble_eq_true rfl)
theorem l_X7_chase_0 : Cond.fieldLink RX7 26 "CornerStones" "now" "LCornerStones$Game;" ∈ wsX7_chase := (List.mem_cons_of_mem _ (List.mem_append_left _ (List.mem_append_left _ (List.mem_append_left _ (List.mem_append_left _ (List.mem_append_left _ (List.mem_of_getElem? (i := 2) rfl)))))))
theorem i_X7_chase_X7 : ∀ w ∈ wsX70, w ∈ wsX7_chase := fun _ h => (List.mem_cons_of_mem _ (List.mem_append_left _ (List.mem_append_left _ (List.mem_append_left _ (List.mem_append_right _ h)))))
theorem i_X7_chase_X0 : ∀ w ∈ wsX00, w ∈ wsX7_chase := fun _ h => (List.mem_cons_of_mem _ (List.mem_append_left _ (List.mem_append_left _ (List.mem_append_right _ h))))
theorem l_X7_chase_3 : Cond.initialized RX3 ∈ wsX7_chase := (List.mem_cons_of_mem _ (List.mem_append_left _ (List.mem_append_left _ (List.mem_append_left _ (List.mem_append_left _ (List.mem_append_left _ (List.mem_of_getElem? (i := 21) rfl)))))))
theorem l_X7_chase_4 : Cond.static yX3_firstStone ∈ wsX7_chase := (List.mem_cons_of_mem _ (List.mem_append_left _ (List.mem_append_left _ (List.mem_append_left _ (List.mem_append_left _ (List.mem_append_left _ (List.mem_of_getElem? (i := 20) rfl)))))))
theorem a_X7_chase_O : ∀ w ∈ (vx_atS RX7 151 "java/lang/IndexOutOfBoundsException" ["java/lang/RuntimeException", "java/lang/Exception"]).filter goodWord, w ∈ wsX7_chase := fun _ h => (List.mem_cons_of_mem _ (List.mem_append_right _ h))
theorem l_X7_chase_6 : Cond.classLink RX7 147 "java/lang/IndexOutOfBoundsException" ∈ wsX7_chase := (List.mem_cons_of_mem _ (List.mem_append_left _ (List.mem_append_left _ (List.mem_append_left _ (List.mem_append_left _ (List.mem_append_left _ (List.mem_of_getElem? (i := 0) rfl)))))))
theorem l_X7_chase_7 : Cond.initialized "java/lang/IndexOutOfBoundsException" ∈ wsX7_chase := (List.mem_cons_of_mem _ (List.mem_append_left _ (List.mem_append_left _ (List.mem_append_left _ (List.mem_append_left _ (List.mem_append_left _ (List.mem_of_getElem? (i := 1) rfl)))))))
theorem q_X7_chase : yX7_chase.cls ≠ "java/lang/invoke/MethodHandle" ∧ yX7_chase.cls ≠ "java/lang/invoke/VarHandle" ∧ (parseMethodDescriptor yX7_chase.desc).map (fun d => d.parameters.length) = some 1 := by decide +kernel
def fX7_chase (w_t_now : Int32 × Int32 × Int32 × Int32 × Int64 × Int64 × Int32 × Int32) (w_t_now_grid : Int32 × Int32 × Int64 × Int64 × Int64) (p0 : Int32) : Option (String ⊕ (Int32)) := if (fX2_has w_t_now_grid p0) = true then (bnd (fX0_colourAt w_t_now p0) fun v2 => if v2 = (-1) then (some (Sum.inr (((-1) : Int32)))) else ((fLadF w_t_now_grid (fX0_stonesOf w_t_now (1 - v2)) (fX0_stonesOf w_t_now v2) (shlL 1 p0) 12).bind fun r4 => if r4 = 0 then (some (Sum.inr (((-1) : Int32)))) else (some (Sum.inr ((fJ13_bitCount_95d88 (r4 - 1))))))) else (some (Sum.inl "java/lang/IndexOutOfBoundsException"))
set_option maxHeartbeats 4000000 in
set_option maxRecDepth 100000 in
theorem c_X7_chase {l : Launch} {z : Nat} {D : va_G} {K : Nat → ClassId} {σ : mwm} {a_t a_t_text a_t_now a_t_copy a_t_memory a_t_slot0 a_t_slot1 a_t_now_before0 a_t_now_before1 a_t_now_grid : Nat} {w_t_now : Int32 × Int32 × Int32 × Int32 × Int64 × Int64 × Int32 × Int32} {w_t_now_grid : Int32 × Int32 × Int64 × Int64 × Int64} {p0 : Int32} (hc_t : σ a_t = some (cl5 a_t_text a_t_now a_t_copy a_t_memory a_t_slot0 a_t_slot1)) (hc_t_now : σ a_t_now = some (cl0 a_t_now_before0 a_t_now_before1 a_t_now_grid w_t_now)) (hc_t_now_grid : σ a_t_now_grid = some (cl2  w_t_now_grid)) (hlt : l.stackTraces = false) {v : String ⊕ (Int32)} (h : fX7_chase w_t_now w_t_now_grid p0 = some v) : vx_Met l yX7_chase wsX7_chase ({ frames := 71, cells := 1, slots := 6, locals := 3036 } : Room) (PCx z D K [.ref a_t, .int p0] σ) (qwI z D (fun r σ2 => ∃ w9 : Int32, v = Sum.inr w9 ∧ r = w9 ∧ ∀ (q : Nat) (f : va_E), σ q = some f → σ2 q = some f)) (XQ z D σ v) 1 6 (zA z) := by
  refine mx_enter (cc := cX7_chase) (maxL := 5) (ret := (some .int)) (own := RX7) (lv := [(0, .ref a_t), (1, .int p0)]) (by decide) rfl rfl (Nat.le_of_ble_eq_true rfl) rfl ?_
  intro p e s m below meth c ls hC hx hb hown hts hK hr hlocks hnm hz hM hS hl hX hex
  unfold fX7_chase at h
  refine lv_aload_n hx hb dX7_chase_0 rfl (lv_at hl 0 rfl) ?_
  refine mw_get (ci := 5) (C := RX7) (T := TX7) (N := 6) (v := .ref a_t_now) hC i_X7_chase_X7 hM hc_t rfl 1 (by decide) l_X7_chase_0 rfl rfl dX7_chase_1 ?_
  refine mw_getN (ci := 0) (C := RX0) (T := TX0) (N := 11) (v := .ref a_t_now_grid) hC i_X7_chase_X0 hM hc_t_now rfl 2 (by decide) (nx_RX7_118 hC.2.2.2) rfl rfl dX7_chase_4 ?_
  refine lv_iload_n hx hb dX7_chase_7 rfl (lv_at hl 1 rfl) ?_
  refine mw_ci (mw_runV (As := [.int p0]) (rest := []) (ci := 2) (C := RX2) (T := TX2) (N := 5) hC hM hS hc_t_now_grid rfl (c_X2_has (a_t := a_t_now_grid) (w_t := w_t_now_grid) (p0 := p0) (hc_t := hc_t_now_grid) (v := (fX2_has w_t_now_grid p0)) rfl) gX7_chase_X2_has rfl rfl rfl rfl q_X2_has ⟨Nat.le_of_ble_eq_true rfl, Nat.le_of_ble_eq_true rfl⟩ rfl rfl (Nat.le_of_ble_eq_true rfl) hl.1 dX7_chase_8 ⟨Nat.le_of_ble_eq_true rfl, Nat.le_of_ble_eq_true rfl⟩) ?_
  refine lv_if_ne (tgt := 24) hx hb dX7_chase_11 (by decide) (fun c1 => ?_) (fun c1 => ?_)
  · replace c1 := b2i_ne0.mp c1
    replace h := it_pos c1 h
    refine lv_aload_n hx hb dX7_chase_24 rfl (lv_at hl 0 rfl) ?_
    refine mw_get (ci := 5) (C := RX7) (T := TX7) (N := 6) (v := .ref a_t_now) hC i_X7_chase_X7 hM hc_t rfl 1 (by decide) l_X7_chase_0 rfl rfl dX7_chase_25 ?_
    refine lv_iload_n hx hb dX7_chase_28 rfl (lv_at hl 1 rfl) ?_
    refine mw_ci (mw_runV (As := [.int p0]) (rest := []) (ci := 0) (C := RX0) (T := TX0) (N := 11) hC hM hS hc_t_now rfl (c_X0_colourAt (a_t := a_t_now) (a_t_before0 := a_t_now_before0) (a_t_before1 := a_t_now_before1) (a_t_grid := a_t_now_grid) (w_t := w_t_now) (p0 := p0) (hc_t := hc_t_now) (v := (fX0_colourAt w_t_now p0)) rfl) gX7_chase_X0_colourAt rfl rfl rfl rfl q_X0_colourAt ⟨Nat.le_of_ble_eq_true rfl, Nat.le_of_ble_eq_true rfl⟩ rfl rfl (Nat.le_of_ble_eq_true rfl) hl.1 dX7_chase_29 ⟨Nat.le_of_ble_eq_true rfl, Nat.le_of_ble_eq_true rfl⟩) ?_
    refine lv_topi (fun v2 ev2 => ?_)
    replace h := bnd_at ev2 h
    refine lv_istore_n (lv' := [(2, .int v2), (0, .ref a_t), (1, .int p0)]) hx hb dX7_chase_32 rfl hl (by decide) rfl (fun ls hl => ?_)
    refine lv_iload_n hx hb dX7_chase_33 rfl (lv_at hl 0 rfl) ?_
    refine lv_iconst (v := -1) hx hb dX7_chase_34 (by decide) ?_
    refine lv_icmp_ne (tgt := 40) hx hb dX7_chase_35 (by decide) (fun c3 => ?_) (fun c3 => ?_)
    · replace h := it_neg c3 h
      refine lv_aload_n hx hb dX7_chase_40 rfl (lv_at hl 1 rfl) ?_
      refine mw_get (ci := 5) (C := RX7) (T := TX7) (N := 6) (v := .ref a_t_now) hC i_X7_chase_X7 hM hc_t rfl 1 (by decide) l_X7_chase_0 rfl rfl dX7_chase_41 ?_
      refine mw_getN (ci := 0) (C := RX0) (T := TX0) (N := 11) (v := .ref a_t_now_grid) hC i_X7_chase_X0 hM hc_t_now rfl 2 (by decide) (nx_RX7_118 hC.2.2.2) rfl rfl dX7_chase_44 ?_
      refine lv_aload_n hx hb dX7_chase_47 rfl (lv_at hl 1 rfl) ?_
      refine mw_get (ci := 5) (C := RX7) (T := TX7) (N := 6) (v := .ref a_t_now) hC i_X7_chase_X7 hM hc_t rfl 1 (by decide) l_X7_chase_0 rfl rfl dX7_chase_48 ?_
      refine lv_iconst (v := 1) hx hb dX7_chase_51 (by decide) ?_
      refine lv_iload_n hx hb dX7_chase_52 rfl (lv_at hl 0 rfl) ?_
      refine lv_isub hx hb dX7_chase_53 ?_
      refine mw_cl (mw_runV (As := [.int (1 - v2)]) (rest := [.ref a_t_now_grid]) (ci := 0) (C := RX0) (T := TX0) (N := 11) hC hM hS hc_t_now rfl (c_X0_stonesOf (a_t := a_t_now) (a_t_before0 := a_t_now_before0) (a_t_before1 := a_t_now_before1) (a_t_grid := a_t_now_grid) (w_t := w_t_now) (p0 := (1 - v2)) (hc_t := hc_t_now) (v := (fX0_stonesOf w_t_now (1 - v2))) rfl) gX7_chase_X0_stonesOf rfl rfl rfl rfl q_X0_stonesOf ⟨Nat.le_of_ble_eq_true rfl, Nat.le_of_ble_eq_true rfl⟩ rfl rfl (Nat.le_of_ble_eq_true rfl) hl.1 dX7_chase_54 ⟨Nat.le_of_ble_eq_true rfl, Nat.le_of_ble_eq_true rfl⟩) ?_
      refine lv_aload_n hx hb dX7_chase_57 rfl (lv_at hl 1 rfl) ?_
      refine mw_get (ci := 5) (C := RX7) (T := TX7) (N := 6) (v := .ref a_t_now) hC i_X7_chase_X7 hM hc_t rfl 1 (by decide) l_X7_chase_0 rfl rfl dX7_chase_58 ?_
      refine lv_iload_n hx hb dX7_chase_61 rfl (lv_at hl 0 rfl) ?_
      refine mw_cl (mw_runV (As := [.int v2]) (rest := [.long (fX0_stonesOf w_t_now (1 - v2)), .ref a_t_now_grid]) (ci := 0) (C := RX0) (T := TX0) (N := 11) hC hM hS hc_t_now rfl (c_X0_stonesOf (a_t := a_t_now) (a_t_before0 := a_t_now_before0) (a_t_before1 := a_t_now_before1) (a_t_grid := a_t_now_grid) (w_t := w_t_now) (p0 := v2) (hc_t := hc_t_now) (v := (fX0_stonesOf w_t_now v2)) rfl) gX7_chase_X0_stonesOf rfl rfl rfl rfl q_X0_stonesOf ⟨Nat.le_of_ble_eq_true rfl, Nat.le_of_ble_eq_true rfl⟩ rfl rfl (Nat.le_of_ble_eq_true rfl) hl.1 dX7_chase_62 ⟨Nat.le_of_ble_eq_true rfl, Nat.le_of_ble_eq_true rfl⟩) ?_
      refine lv_lconst (v := 1) hx hb dX7_chase_65 (by decide) ?_
      refine lv_iload_n hx hb dX7_chase_66 rfl (lv_at hl 2 rfl) ?_
      refine lv_lshl (v := (shlL 1 p0)) hx hb dX7_chase_67 rfl ?_
      refine lv_bipush (v := 12) hx hb dX7_chase_68 (by decide) ?_
      obtain ⟨r4, hr4, h⟩ := ob_some h
      refine mw_cl (mw_runSN (As := [.ref a_t_now_grid, .long (fX0_stonesOf w_t_now (1 - v2)), .long (fX0_stonesOf w_t_now v2), .long (shlL 1 p0), .int 12]) (rest := []) hC hM hS (cl_X3_firstStone (a_p0 := a_t_now_grid) (w_p0 := w_t_now_grid) (p1 := (fX0_stonesOf w_t_now (1 - v2))) (p2 := (fX0_stonesOf w_t_now v2)) (p3 := (shlL 1 p0)) (p4 := 12) (hc_p0 := hc_t_now_grid) (v := r4) hr4) gX7_chase_X3_firstStone_n237 rfl rfl rfl (nx_RX7_237 hC.2.2.2) l_X7_chase_3 l_X7_chase_4 q_X3_firstStone ⟨Nat.le_of_ble_eq_true rfl, Nat.le_of_ble_eq_true rfl⟩ rfl rfl (Nat.le_of_ble_eq_true rfl) hl.1 dX7_chase_70 ⟨Nat.le_of_ble_eq_true rfl, Nat.le_of_ble_eq_true rfl⟩) ?_
      refine lv_lstore_n (lv' := [(3, .long r4), (2, .int v2), (0, .ref a_t), (1, .int p0)]) hx hb dX7_chase_73 rfl hl (by decide) rfl (fun ls hl => ?_)
      refine lv_lload_n hx hb dX7_chase_74 rfl (lv_at hl 0 rfl) ?_
      refine lv_lconst (v := 0) hx hb dX7_chase_75 (by decide) ?_
      refine W.lcmp hx hb dX7_chase_76 ?_
      refine lv_if_ne (tgt := 84) hx hb dX7_chase_77 (by decide) (fun c5 => ?_) (fun c5 => ?_)
      · replace c5 := mt (lg_cmp_eq _ _).mpr c5
        replace h := it_neg c5 h
        refine lv_lload_n hx hb dX7_chase_84 rfl (lv_at hl 0 rfl) ?_
        refine lv_lconst (v := 1) hx hb dX7_chase_85 (by decide) ?_
        refine lv_lsub hx hb dX7_chase_86 ?_
        refine mw_ci (mw_runS (As := [.long (r4 - 1)]) (rest := []) hC hM hS (c_J13_bitCount_95d88 (p0 := (r4 - 1)) (v := (fJ13_bitCount_95d88 (r4 - 1))) rfl) gX7_chase_J13_bitCount_95d88 rfl rfl rfl q_J13_bitCount_95d88 ⟨Nat.le_of_ble_eq_true rfl, Nat.le_of_ble_eq_true rfl⟩ rfl rfl (Nat.le_of_ble_eq_true rfl) hl.1 dX7_chase_87 ⟨Nat.le_of_ble_eq_true rfl, Nat.le_of_ble_eq_true rfl⟩) ?_
        cases h
        refine W.widen (k := 1) (n := 6) (by decide) (by decide) ?_
        exact vx_ret (W.iret hx hb hr (fun t ht hW => ⟨⟨_, _, rfl, ⟨_, rfl, rfl, (fun _ _ h9  => h9)⟩, by show MW z D _ t.heap; rw [ht]; exact hM⟩, hS.F ht⟩) hS.2.2 dX7_chase_90 hlocks)
      · replace c5 := (lg_cmp_eq _ _).mp c5
        replace h := it_pos c5 h
        refine lv_iconst (v := -1) hx hb dX7_chase_80 (by decide) ?_
        refine lv_goto (tgt := 90) hx hb dX7_chase_81 (by decide) ?_
        cases h
        refine W.widen (k := 1) (n := 6) (by decide) (by decide) ?_
        exact vx_ret (W.iret hx hb hr (fun t ht hW => ⟨⟨_, _, rfl, ⟨_, rfl, rfl, (fun _ _ h9  => h9)⟩, by show MW z D _ t.heap; rw [ht]; exact hM⟩, hS.F ht⟩) hS.2.2 dX7_chase_90 hlocks)
    · replace h := it_pos c3 h
      refine lv_iconst (v := -1) hx hb dX7_chase_38 (by decide) ?_
      cases h
      refine W.widen (k := 1) (n := 6) (by decide) (by decide) ?_
      exact vx_ret (W.iret hx hb hr (fun t ht hW => ⟨⟨_, _, rfl, ⟨_, rfl, rfl, (fun _ _ h9  => h9)⟩, by show MW z D _ t.heap; rw [ht]; exact hM⟩, hS.F ht⟩) hS.2.2 dX7_chase_39 hlocks)
  · replace c1 := b2i_eq0.mp c1
    replace h := it_neg c1 h
    cases h
    exact mx_throw hC hX hlt hM hS rfl (by decide +kernel) l_X7_chase_6 l_X7_chase_7 (sx_179 hX.2.2.1) a_X7_chase_O xb_O (xc_O hX) xg_O hl.1 dX7_chase_14 dX7_chase_17 dX7_chase_18 dX7_chase_20 dX7_chase_23 hex (Nat.le_of_ble_eq_true rfl) (Nat.le_of_ble_eq_true rfl) (Nat.le_of_ble_eq_true rfl) (Nat.le_of_ble_eq_true rfl) hlocks (Nat.le_of_ble_eq_true rfl) (Nat.le_of_ble_eq_true rfl)
theorem l_X7_lead_0 : Cond.fieldLink RX7 26 "CornerStones" "now" "LCornerStones$Game;" ∈ wsX7_lead := (List.mem_cons_of_mem _ (List.mem_append_left _ (List.mem_append_left _ (List.mem_append_left _ (List.mem_append_left _ (List.mem_of_getElem? (i := 0) rfl))))))
theorem i_X7_lead_X7 : ∀ w ∈ wsX70, w ∈ wsX7_lead := fun _ h => (List.mem_cons_of_mem _ (List.mem_append_left _ (List.mem_append_left _ (List.mem_append_right _ h))))
theorem q_X7_lead : yX7_lead.cls ≠ "java/lang/invoke/MethodHandle" ∧ yX7_lead.cls ≠ "java/lang/invoke/VarHandle" ∧ (parseMethodDescriptor yX7_lead.desc).map (fun d => d.parameters.length) = some 0 := by decide +kernel
def fX7_lead (w_t_now : Int32 × Int32 × Int32 × Int32 × Int64 × Int64 × Int32 × Int32) (w_t_now_grid : Int32 × Int32 × Int64 × Int64 × Int64) : Option (Int32) := (fX0_areaOf w_t_now w_t_now_grid 0).bind fun r1 => (fX0_areaOf w_t_now w_t_now_grid 1).bind fun r2 => some ((r1 - r2))
set_option maxHeartbeats 4000000 in
set_option maxRecDepth 100000 in
theorem c_X7_lead {l : Launch} {z : Nat} {D : va_G} {K : Nat → ClassId} {σ : mwm} {a_t a_t_text a_t_now a_t_copy a_t_memory a_t_slot0 a_t_slot1 a_t_now_before0 a_t_now_before1 a_t_now_grid : Nat} {w_t_now : Int32 × Int32 × Int32 × Int32 × Int64 × Int64 × Int32 × Int32} {w_t_now_grid : Int32 × Int32 × Int64 × Int64 × Int64} (hc_t : σ a_t = some (cl5 a_t_text a_t_now a_t_copy a_t_memory a_t_slot0 a_t_slot1)) (hc_t_now : σ a_t_now = some (cl0 a_t_now_before0 a_t_now_before1 a_t_now_grid w_t_now)) (hc_t_now_grid : σ a_t_now_grid = some (cl2  w_t_now_grid)) {v : Int32} (h : fX7_lead w_t_now w_t_now_grid = some v) : Met l yX7_lead wsX7_lead ({ frames := 4, cells := 0, slots := 0, locals := 98 } : Room) (PCm z D K [.ref a_t] σ) (qsI v) 0 0 (fun _ => False) := by
  refine mt_enter (cc := cX7_lead) (maxL := 1) (ret := (some .int)) (own := RX7) (lv := [(0, .ref a_t)]) (by decide) rfl rfl (Nat.le_of_ble_eq_true rfl) rfl ?_
  intro p e s m below meth c ls hC hx hb hown hts hK hr hlocks hnm hz hM hS hl
  unfold fX7_lead at h
  refine lv_aload_n hx hb dX7_lead_0 rfl (lv_at hl 0 rfl) ?_
  refine mw_get (ci := 5) (C := RX7) (T := TX7) (N := 6) (v := .ref a_t_now) hC i_X7_lead_X7 hM hc_t rfl 1 (by decide) l_X7_lead_0 rfl rfl dX7_lead_1 ?_
  refine lv_iconst (v := 0) hx hb dX7_lead_4 (by decide) ?_
  obtain ⟨r1, hr1, h⟩ := ob_some h
  refine mw_ci (mw_runV (As := [.int 0]) (rest := []) (ci := 0) (C := RX0) (T := TX0) (N := 11) hC hM hS hc_t_now rfl (c_X0_areaOf (a_t := a_t_now) (a_t_before0 := a_t_now_before0) (a_t_before1 := a_t_now_before1) (a_t_grid := a_t_now_grid) (w_t := w_t_now) (w_t_grid := w_t_now_grid) (p0 := 0) (hc_t := hc_t_now) (hc_t_grid := hc_t_now_grid) (v := r1) hr1) gX7_lead_X0_areaOf rfl rfl rfl rfl q_X0_areaOf ⟨Nat.le_of_ble_eq_true rfl, Nat.le_of_ble_eq_true rfl⟩ rfl rfl (Nat.le_of_ble_eq_true rfl) hl.1 dX7_lead_5 ⟨Nat.le_of_ble_eq_true rfl, Nat.le_of_ble_eq_true rfl⟩) ?_
  refine lv_aload_n hx hb dX7_lead_8 rfl (lv_at hl 0 rfl) ?_
  refine mw_get (ci := 5) (C := RX7) (T := TX7) (N := 6) (v := .ref a_t_now) hC i_X7_lead_X7 hM hc_t rfl 1 (by decide) l_X7_lead_0 rfl rfl dX7_lead_9 ?_
  refine lv_iconst (v := 1) hx hb dX7_lead_12 (by decide) ?_
  obtain ⟨r2, hr2, h⟩ := ob_some h
  refine mw_ci (mw_runV (As := [.int 1]) (rest := [.int r1]) (ci := 0) (C := RX0) (T := TX0) (N := 11) hC hM hS hc_t_now rfl (c_X0_areaOf (a_t := a_t_now) (a_t_before0 := a_t_now_before0) (a_t_before1 := a_t_now_before1) (a_t_grid := a_t_now_grid) (w_t := w_t_now) (w_t_grid := w_t_now_grid) (p0 := 1) (hc_t := hc_t_now) (hc_t_grid := hc_t_now_grid) (v := r2) hr2) gX7_lead_X0_areaOf rfl rfl rfl rfl q_X0_areaOf ⟨Nat.le_of_ble_eq_true rfl, Nat.le_of_ble_eq_true rfl⟩ rfl rfl (Nat.le_of_ble_eq_true rfl) hl.1 dX7_lead_13 ⟨Nat.le_of_ble_eq_true rfl, Nat.le_of_ble_eq_true rfl⟩) ?_
  refine lv_isub hx hb dX7_lead_16 ?_
  cases h
  exact W.iret hx hb hr (fun t ht hW => ⟨_, rfl, rfl, ht⟩) (fun _ h9 => by cases h9) dX7_lead_17 hlocks
theorem a_X7_runScript_A : ∀ w ∈ (vx_atS RX7 54 "java/lang/IllegalArgumentException" ["java/lang/RuntimeException", "java/lang/Exception"]).filter goodWord, w ∈ wsX7_runScript := fun _ h => (List.mem_cons_of_mem _ (List.mem_append_right _ h))
theorem l_X7_runScript_1 : Cond.classLink RX7 50 "java/lang/IllegalArgumentException" ∈ wsX7_runScript := (List.mem_cons_of_mem _ (List.mem_append_left _ (List.mem_append_left _ (List.mem_append_left _ (List.mem_append_left _ (List.mem_append_left _ (List.mem_of_getElem? (i := 0) rfl)))))))
theorem l_X7_runScript_2 : Cond.initialized "java/lang/IllegalArgumentException" ∈ wsX7_runScript := (List.mem_cons_of_mem _ (List.mem_append_left _ (List.mem_append_left _ (List.mem_append_left _ (List.mem_append_left _ (List.mem_append_left _ (List.mem_of_getElem? (i := 1) rfl)))))))
theorem l_X7_runScript_3 : Cond.fieldLink RX7 30 "CornerStones" "copy" "LCornerStones$Game;" ∈ wsX7_runScript := (List.mem_cons_of_mem _ (List.mem_append_left _ (List.mem_append_left _ (List.mem_append_left _ (List.mem_append_left _ (List.mem_append_left _ (List.mem_of_getElem? (i := 2) rfl)))))))
theorem i_X7_runScript_X7 : ∀ w ∈ wsX70, w ∈ wsX7_runScript := fun _ h => (List.mem_cons_of_mem _ (List.mem_append_left _ (List.mem_append_left _ (List.mem_append_left _ (List.mem_append_right _ h)))))
theorem l_X7_runScript_5 : Cond.fieldLink RX7 26 "CornerStones" "now" "LCornerStones$Game;" ∈ wsX7_runScript := (List.mem_cons_of_mem _ (List.mem_append_left _ (List.mem_append_left _ (List.mem_append_left _ (List.mem_append_left _ (List.mem_append_left _ (List.mem_of_getElem? (i := 3) rfl)))))))
theorem q_X7_runScript : yX7_runScript.cls ≠ "java/lang/invoke/MethodHandle" ∧ yX7_runScript.cls ≠ "java/lang/invoke/VarHandle" ∧ (parseMethodDescriptor yX7_runScript.desc).map (fun d => d.parameters.length) = some 2 := by decide +kernel
def fX7_runScript_58 (w_t_now : Int32 × Int32 × Int32 × Int32 × Int64 × Int64 × Int32 × Int32) (w_t_copy : Int32 × Int32 × Int32 × Int32 × Int64 × Int64 × Int32 × Int32) (f_t_copy_before0 : Nat → Int64) (f_t_copy_before1 : Nat → Int64) (f_t_now_before0 : Nat → Int64) (f_t_now_before1 : Nat → Int64) (w_t_now_grid : Int32 × Int32 × Int64 × Int64 × Int64) (p0 : Int32) (p1 : Int64) : Nat → Int32 → (Int32 × Int32 × Int32 × Int32 × Int64 × Int64 × Int32 × Int32) → (Nat → Int64) → (Nat → Int64) → Option (String ⊕ (Int32 × (Int32 × Int32 × Int32 × Int32 × Int64 × Int64 × Int32 × Int32) × (Nat → Int64) × (Nat → Int64)))
  | 0, _, _, _, _ => none
  | fu + 1, x4, y_t_copy, g_t_copy_before0, g_t_copy_before1 => if p0 ≤ x4 then (some (Sum.inr ((((-1) : Int32), y_t_copy, g_t_copy_before0, g_t_copy_before1)))) else ((fX5_commandFromEnd p1 ((p0 - 1) - x4)).bind fun r11 => (fX5_succeeds y_t_copy g_t_copy_before0 g_t_copy_before1 w_t_now_grid r11).bind fun r12 => if r12.1 = true then (fX7_runScript_58 w_t_now w_t_copy f_t_copy_before0 f_t_copy_before1 f_t_now_before0 f_t_now_before1 w_t_now_grid p0 p1 fu (x4 + 1) r12.2.1 r12.2.2.1 r12.2.2.2) else (some (Sum.inr ((x4, r12.2.1, r12.2.2.1, r12.2.2.2)))))
def fX7_runScript (w_t_now : Int32 × Int32 × Int32 × Int32 × Int64 × Int64 × Int32 × Int32) (w_t_copy : Int32 × Int32 × Int32 × Int32 × Int64 × Int64 × Int32 × Int32) (f_t_copy_before0 : Nat → Int64) (f_t_copy_before1 : Nat → Int64) (f_t_now_before0 : Nat → Int64) (f_t_now_before1 : Nat → Int64) (w_t_now_grid : Int32 × Int32 × Int64 × Int64 × Int64) (p0 : Int32) (p1 : Int64) : Option (String ⊕ (Int32 × (Int32 × Int32 × Int32 × Int32 × Int64 × Int64 × Int32 × Int32) × (Nat → Int64) × (Nat → Int64))) := if p0 < 1 then (some (Sum.inl "java/lang/IllegalArgumentException")) else (if p0 ≤ 4 then (if p1 < 0 then (some (Sum.inl "java/lang/IllegalArgumentException")) else ((fX7_commandsIn p1).bind fun r4 => if r4 ≤ p0 then ((fX0_copyFrom w_t_copy w_t_now f_t_copy_before0 f_t_copy_before1 f_t_now_before0 f_t_now_before1).bind fun r6 => fX7_runScript_58 w_t_now w_t_copy f_t_copy_before0 f_t_copy_before1 f_t_now_before0 f_t_now_before1 w_t_now_grid p0 p1 5000 0 r6.1 r6.2.1 r6.2.2) else (some (Sum.inl "java/lang/IllegalArgumentException")))) else (some (Sum.inl "java/lang/IllegalArgumentException")))
set_option maxHeartbeats 4000000 in
set_option maxRecDepth 100000 in
theorem c_X7_runScript {l : Launch} {z : Nat} {D : va_G} {K : Nat → ClassId} {σ : mwm} {a_t a_t_text a_t_now a_t_copy a_t_memory a_t_slot0 a_t_slot1 a_t_copy_before0 a_t_copy_before1 a_t_copy_grid a_t_now_before0 a_t_now_before1 a_t_now_grid : Nat} {w_t_now : Int32 × Int32 × Int32 × Int32 × Int64 × Int64 × Int32 × Int32} {w_t_copy : Int32 × Int32 × Int32 × Int32 × Int64 × Int64 × Int32 × Int32} {f_t_copy_before0 : Nat → Int64} {f_t_copy_before1 : Nat → Int64} {f_t_now_before0 : Nat → Int64} {f_t_now_before1 : Nat → Int64} {w_t_now_grid : Int32 × Int32 × Int64 × Int64 × Int64} {p0 : Int32} {p1 : Int64} (hc_t : σ a_t = some (cl5 a_t_text a_t_now a_t_copy a_t_memory a_t_slot0 a_t_slot1)) (hc_t_now : σ a_t_now = some (cl0 a_t_now_before0 a_t_now_before1 a_t_now_grid w_t_now)) (hc_t_copy : σ a_t_copy = some (cl0 a_t_copy_before0 a_t_copy_before1 a_t_copy_grid w_t_copy)) (hc_t_copy_before0 : σ a_t_copy_before0 = some (eJ K 121 f_t_copy_before0)) (hc_t_copy_before1 : σ a_t_copy_before1 = some (eJ K 121 f_t_copy_before1)) (hc_t_now_before0 : σ a_t_now_before0 = some (eJ K 121 f_t_now_before0)) (hc_t_now_before1 : σ a_t_now_before1 = some (eJ K 121 f_t_now_before1)) (hc_t_now_grid : σ a_t_now_grid = some (cl2  w_t_now_grid)) (n_t_t_copy : a_t ≠ a_t_copy) (n_t_t_copy_before0 : a_t ≠ a_t_copy_before0) (n_t_t_copy_before1 : a_t ≠ a_t_copy_before1) (n_t_copy_t_copy_before0 : a_t_copy ≠ a_t_copy_before0) (n_t_copy_t_copy_before1 : a_t_copy ≠ a_t_copy_before1) (n_t_copy_t_now : a_t_copy ≠ a_t_now) (n_t_copy_t_now_before0 : a_t_copy ≠ a_t_now_before0) (n_t_copy_t_now_before1 : a_t_copy ≠ a_t_now_before1) (n_t_copy_t_now_grid : a_t_copy ≠ a_t_now_grid) (n_t_copy_before0_t_copy_before1 : a_t_copy_before0 ≠ a_t_copy_before1) (n_t_copy_before0_t_now : a_t_copy_before0 ≠ a_t_now) (n_t_copy_before0_t_now_before0 : a_t_copy_before0 ≠ a_t_now_before0) (n_t_copy_before0_t_now_before1 : a_t_copy_before0 ≠ a_t_now_before1) (n_t_copy_before0_t_now_grid : a_t_copy_before0 ≠ a_t_now_grid) (n_t_copy_before1_t_now : a_t_copy_before1 ≠ a_t_now) (n_t_copy_before1_t_now_before0 : a_t_copy_before1 ≠ a_t_now_before0) (n_t_copy_before1_t_now_before1 : a_t_copy_before1 ≠ a_t_now_before1) (n_t_copy_before1_t_now_grid : a_t_copy_before1 ≠ a_t_now_grid) (hlt : l.stackTraces = false) {v : String ⊕ (Int32 × (Int32 × Int32 × Int32 × Int32 × Int64 × Int64 × Int32 × Int32) × (Nat → Int64) × (Nat → Int64))} (h : fX7_runScript w_t_now w_t_copy f_t_copy_before0 f_t_copy_before1 f_t_now_before0 f_t_now_before1 w_t_now_grid p0 p1 = some v) : vx_Met l yX7_runScript wsX7_runScript ({ frames := 73, cells := 1, slots := 6, locals := 3083 } : Room) (PCx z D K [.ref a_t, .int p0, .long p1] σ) (qwI z D (fun r σ2 => ∃ w9 : Int32 × (Int32 × Int32 × Int32 × Int32 × Int64 × Int64 × Int32 × Int32) × (Nat → Int64) × (Nat → Int64), v = Sum.inr w9 ∧ r = w9.1 ∧ σ2 a_t_copy = some (cl0 a_t_copy_before0 a_t_copy_before1 a_t_now_grid w9.2.1) ∧ σ2 a_t_copy_before0 = some (eJ K 121 w9.2.2.1) ∧ σ2 a_t_copy_before1 = some (eJ K 121 w9.2.2.2) ∧ ∀ (q : Nat) (f : va_E), σ q = some f → q ≠ a_t_copy → q ≠ a_t_copy_before0 → q ≠ a_t_copy_before1 → σ2 q = some f)) (XQ z D σ v) 1 6 (zA z) := by
  refine mx_enter (cc := cX7_runScript) (maxL := 5) (ret := (some .int)) (own := RX7) (lv := [(0, .ref a_t), (1, .int p0), (2, .long p1)]) (by decide) rfl rfl (Nat.le_of_ble_eq_true rfl) rfl ?_
  intro p e s m below meth c ls hC hx hb hown hts hK hr hlocks hnm hz hM hS hl hX hex
  unfold fX7_runScript at h
  refine lv_iload_n hx hb dX7_runScript_0 rfl (lv_at hl 1 rfl) ?_
  refine lv_iconst (v := 1) hx hb dX7_runScript_1 (by decide) ?_
  refine lv_icmp_lt (tgt := 10) hx hb dX7_runScript_2 (by decide) (fun c1 => ?_) (fun c1 => ?_)
  · replace h := it_pos c1 h
    cases h
    exact mx_throw hC hX hlt hM hS rfl (by decide +kernel) l_X7_runScript_1 l_X7_runScript_2 (sx_247 hX.2.2.1) a_X7_runScript_A xb_A (xc_A hX) xg_A hl.1 dX7_runScript_10 dX7_runScript_13 dX7_runScript_14 dX7_runScript_16 dX7_runScript_19 hex (Nat.le_of_ble_eq_true rfl) (Nat.le_of_ble_eq_true rfl) (Nat.le_of_ble_eq_true rfl) (Nat.le_of_ble_eq_true rfl) hlocks (Nat.le_of_ble_eq_true rfl) (Nat.le_of_ble_eq_true rfl)
  · replace h := it_neg c1 h
    refine lv_iload_n hx hb dX7_runScript_5 rfl (lv_at hl 1 rfl) ?_
    refine lv_iconst (v := 4) hx hb dX7_runScript_6 (by decide) ?_
    refine lv_icmp_le (tgt := 20) hx hb dX7_runScript_7 (by decide) (fun c2 => ?_) (fun c2 => ?_)
    · replace h := it_pos c2 h
      refine lv_lload_n hx hb dX7_runScript_20 rfl (lv_at hl 2 rfl) ?_
      refine lv_lconst (v := 0) hx hb dX7_runScript_21 (by decide) ?_
      refine W.lcmp hx hb dX7_runScript_22 ?_
      refine lv_if_lt (tgt := 34) hx hb dX7_runScript_23 (by decide) (fun c3 => ?_) (fun c3 => ?_)
      · replace c3 := (lg_cmp_lt _ _).mp c3
        replace h := it_pos c3 h
        cases h
        exact mx_throw hC hX hlt hM hS rfl (by decide +kernel) l_X7_runScript_1 l_X7_runScript_2 (sx_252 hX.2.2.1) a_X7_runScript_A xb_A (xc_A hX) xg_A hl.1 dX7_runScript_34 dX7_runScript_37 dX7_runScript_38 dX7_runScript_40 dX7_runScript_43 hex (Nat.le_of_ble_eq_true rfl) (Nat.le_of_ble_eq_true rfl) (Nat.le_of_ble_eq_true rfl) (Nat.le_of_ble_eq_true rfl) hlocks (Nat.le_of_ble_eq_true rfl) (Nat.le_of_ble_eq_true rfl)
      · replace c3 := mt (lg_cmp_lt _ _).mpr c3
        replace h := it_neg c3 h
        refine lv_lload_n hx hb dX7_runScript_26 rfl (lv_at hl 2 rfl) ?_
        obtain ⟨r4, hr4, h⟩ := ob_some h
        refine mw_ci (mw_runS (As := [.long p1]) (rest := []) hC hM hS (c_X7_commandsIn (p0 := p1) (v := r4) hr4) gX7_runScript_X7_commandsIn rfl rfl rfl q_X7_commandsIn ⟨Nat.le_of_ble_eq_true rfl, Nat.le_of_ble_eq_true rfl⟩ rfl rfl (Nat.le_of_ble_eq_true rfl) hl.1 dX7_runScript_27 ⟨Nat.le_of_ble_eq_true rfl, Nat.le_of_ble_eq_true rfl⟩) ?_
        refine lv_iload_n hx hb dX7_runScript_30 rfl (lv_at hl 1 rfl) ?_
        refine lv_icmp_le (tgt := 44) hx hb dX7_runScript_31 (by decide) (fun c5 => ?_) (fun c5 => ?_)
        · replace h := it_pos c5 h
          refine lv_aload_n hx hb dX7_runScript_44 rfl (lv_at hl 0 rfl) ?_
          refine mw_get (ci := 5) (C := RX7) (T := TX7) (N := 6) (v := .ref a_t_copy) hC i_X7_runScript_X7 hM hc_t rfl 2 (by decide) l_X7_runScript_3 rfl rfl dX7_runScript_45 ?_
          refine lv_aload_n hx hb dX7_runScript_48 rfl (lv_at hl 0 rfl) ?_
          refine mw_get (ci := 5) (C := RX7) (T := TX7) (N := 6) (v := .ref a_t_now) hC i_X7_runScript_X7 hM hc_t rfl 1 (by decide) l_X7_runScript_5 rfl rfl dX7_runScript_49 ?_
          obtain ⟨r6, hr6, h⟩ := ob_some h
          refine mw_wv (mw_runV (As := [.ref a_t_now]) (rest := []) (ci := 0) (C := RX0) (T := TX0) (N := 11) hC hM hS hc_t_copy rfl (c_X0_copyFrom (a_t := a_t_copy) (a_p0 := a_t_now) (a_t_before0 := a_t_copy_before0) (a_t_before1 := a_t_copy_before1) (a_t_grid := a_t_copy_grid) (a_p0_before0 := a_t_now_before0) (a_p0_before1 := a_t_now_before1) (a_p0_grid := a_t_now_grid) (w_t := w_t_copy) (w_p0 := w_t_now) (f_t_before0 := f_t_copy_before0) (f_t_before1 := f_t_copy_before1) (f_p0_before0 := f_t_now_before0) (f_p0_before1 := f_t_now_before1) (hc_t := hc_t_copy) (hc_p0 := hc_t_now) (hc_t_before0 := hc_t_copy_before0) (hc_t_before1 := hc_t_copy_before1) (hc_p0_before0 := hc_t_now_before0) (hc_p0_before1 := hc_t_now_before1) (n_p0_t := (Ne.symm n_t_copy_t_now)) (n_p0_t_before0 := (Ne.symm n_t_copy_before0_t_now)) (n_p0_t_before1 := (Ne.symm n_t_copy_before1_t_now)) (n_p0_before0_t := (Ne.symm n_t_copy_t_now_before0)) (n_p0_before0_t_before0 := (Ne.symm n_t_copy_before0_t_now_before0)) (n_p0_before0_t_before1 := (Ne.symm n_t_copy_before1_t_now_before0)) (n_p0_before1_t := (Ne.symm n_t_copy_t_now_before1)) (n_p0_before1_t_before0 := (Ne.symm n_t_copy_before0_t_now_before1)) (n_p0_before1_t_before1 := (Ne.symm n_t_copy_before1_t_now_before1)) (n_t_t_before0 := n_t_copy_t_copy_before0) (n_t_t_before1 := n_t_copy_t_copy_before1) (n_t_before0_t_before1 := n_t_copy_before0_t_copy_before1) (v := r6) hr6) gX7_runScript_X0_copyFrom rfl rfl rfl rfl q_X0_copyFrom ⟨Nat.le_of_ble_eq_true rfl, Nat.le_of_ble_eq_true rfl⟩ rfl rfl (Nat.le_of_ble_eq_true rfl) hl.1 dX7_runScript_52 ⟨Nat.le_of_ble_eq_true rfl, Nat.le_of_ble_eq_true rfl⟩) hS (fun H locs σ1 hp8 hM hS => ?_)
          obtain ⟨hc_t_copy, hc_t_copy_before0, hc_t_copy_before1, ho7⟩ := hp8
          have hf9 := fun (q : Nat) (f : va_E) (hf : σ q = some f) (n0 : q ≠ a_t_copy) (n1 : q ≠ a_t_copy_before0) (n2 : q ≠ a_t_copy_before1) => ho7 q f hf n0 n1 n2
          refine lv_iconst (v := 0) hx hb dX7_runScript_55 (by decide) ?_
          refine lv_istore (lv' := [(4, .int 0), (0, .ref a_t), (1, .int p0), (2, .long p1)]) hx hb dX7_runScript_56 hl (by decide) rfl (fun ls hl => ?_)
          have L58 : ∀ (fu0 : Nat) (x4 : Int32) (y_t_copy : Int32 × Int32 × Int32 × Int32 × Int64 × Int64 × Int32 × Int32) (g_t_copy_before0 : Nat → Int64) (g_t_copy_before1 : Nat → Int64) (H : Heap) (locs : List Loc) (σ1 : mwm), MW z D σ1 H → va_S (zA z) s.heap H locs → σ1 a_t_copy = some (cl0 a_t_copy_before0 a_t_copy_before1 a_t_now_grid y_t_copy) → σ1 a_t_copy_before0 = some (eJ K 121 g_t_copy_before0) → σ1 a_t_copy_before1 = some (eJ K 121 g_t_copy_before1) → (∀ (q : Nat) (f : va_E), σ q = some f → q ≠ a_t_copy → q ≠ a_t_copy_before0 → q ≠ a_t_copy_before1 → σ1 q = some f) → fX7_runScript_58 w_t_now w_t_copy f_t_copy_before0 f_t_copy_before1 f_t_now_before0 f_t_now_before1 w_t_now_grid p0 p1 fu0 x4 y_t_copy g_t_copy_before0 g_t_copy_before1 = some v → ∀ ls : Array Slot, lv_has ls 5 [(4, .int x4), (0, .ref a_t), (1, .int p0), (2, .long p1)] → W p l e ({ frames := 73, cells := 1, slots := 6, locals := 3083 } : Room) s m ([.ref a_t, .int p0, .long p1] : List Value).toArray below meth c H locs 0 0 (vx_MQ below (qwI z D (fun r σ2 => ∃ w9 : Int32 × (Int32 × Int32 × Int32 × Int32 × Int64 × Int64 × Int32 × Int32) × (Nat → Int64) × (Nat → Int64), v = Sum.inr w9 ∧ r = w9.1 ∧ σ2 a_t_copy = some (cl0 a_t_copy_before0 a_t_copy_before1 a_t_now_grid w9.2.1) ∧ σ2 a_t_copy_before0 = some (eJ K 121 w9.2.2.1) ∧ σ2 a_t_copy_before1 = some (eJ K 121 w9.2.2.2) ∧ ∀ (q : Nat) (f : va_E), σ q = some f → q ≠ a_t_copy → q ≠ a_t_copy_before0 → q ≠ a_t_copy_before1 → σ2 q = some f)) (XQ z D σ v) ([.ref a_t, .int p0, .long p1] : List Value).toArray s 1 6 (zA z)) (F0 m 58 ls []) := by
            intro fu0
            induction fu0 with
            | zero =>
              intro x4 y_t_copy g_t_copy_before0 g_t_copy_before1 H locs σ1 hM hS hc_t_copy hc_t_copy_before0 hc_t_copy_before1 hfL h
              unfold fX7_runScript_58 at h
              cases h
            | succ fu0 ih0 =>
              intro x4 y_t_copy g_t_copy_before0 g_t_copy_before1 H locs σ1 hM hS hc_t_copy hc_t_copy_before0 hc_t_copy_before1 hfL h ls hl
              unfold fX7_runScript_58 at h
              refine lv_iload hx hb dX7_runScript_58 (lv_at hl 0 rfl) ?_
              refine lv_iload_n hx hb dX7_runScript_60 rfl (lv_at hl 2 rfl) ?_
              refine lv_icmp_ge (tgt := 93) hx hb dX7_runScript_61 (by decide) (fun c10 => ?_) (fun c10 => ?_)
              · replace h := it_pos c10 h
                refine lv_iconst (v := -1) hx hb dX7_runScript_93 (by decide) ?_
                cases h
                refine W.widen (k := 1) (n := 6) (by decide) (by decide) ?_
                exact vx_ret (W.iret hx hb hr (fun t ht hW => ⟨⟨_, _, rfl, ⟨_, rfl, rfl, hc_t_copy, hc_t_copy_before0, hc_t_copy_before1, hfL⟩, by show MW z D _ t.heap; rw [ht]; exact hM⟩, hS.F ht⟩) hS.2.2 dX7_runScript_94 hlocks)
              · replace h := it_neg c10 h
                refine lv_aload_n hx hb dX7_runScript_64 rfl (lv_at hl 1 rfl) ?_
                refine mw_get (ci := 5) (C := RX7) (T := TX7) (N := 6) (v := .ref a_t_copy) hC i_X7_runScript_X7 hM (hfL a_t _ hc_t n_t_t_copy n_t_t_copy_before0 n_t_t_copy_before1) rfl 2 (by decide) l_X7_runScript_3 rfl rfl dX7_runScript_65 ?_
                refine lv_lload_n hx hb dX7_runScript_68 rfl (lv_at hl 3 rfl) ?_
                refine lv_iload_n hx hb dX7_runScript_69 rfl (lv_at hl 2 rfl) ?_
                refine lv_iconst (v := 1) hx hb dX7_runScript_70 (by decide) ?_
                refine lv_isub hx hb dX7_runScript_71 ?_
                refine lv_iload hx hb dX7_runScript_72 (lv_at hl 0 rfl) ?_
                refine lv_isub hx hb dX7_runScript_74 ?_
                obtain ⟨r11, hr11, h⟩ := ob_some h
                refine mw_ci (mw_runS (As := [.long p1, .int ((p0 - 1) - x4)]) (rest := [.ref a_t_copy]) hC hM hS (c_X5_commandFromEnd (p0 := p1) (p1 := ((p0 - 1) - x4)) (v := r11) hr11) gX7_runScript_X5_commandFromEnd rfl rfl rfl q_X5_commandFromEnd ⟨Nat.le_of_ble_eq_true rfl, Nat.le_of_ble_eq_true rfl⟩ rfl rfl (Nat.le_of_ble_eq_true rfl) hl.1 dX7_runScript_75 ⟨Nat.le_of_ble_eq_true rfl, Nat.le_of_ble_eq_true rfl⟩) ?_
                obtain ⟨r12, hr12, h⟩ := ob_some h
                refine mw_wi (mw_runS (As := [.ref a_t_copy, .int r11]) (rest := []) hC hM hS (c_X5_succeeds (a_p0 := a_t_copy) (a_p0_before0 := a_t_copy_before0) (a_p0_before1 := a_t_copy_before1) (a_p0_grid := a_t_now_grid) (w_p0 := y_t_copy) (f_p0_before0 := g_t_copy_before0) (f_p0_before1 := g_t_copy_before1) (w_p0_grid := w_t_now_grid) (p1 := r11) (hc_p0 := hc_t_copy) (hc_p0_before0 := hc_t_copy_before0) (hc_p0_before1 := hc_t_copy_before1) (hc_p0_grid := (hfL a_t_now_grid _ hc_t_now_grid (Ne.symm n_t_copy_t_now_grid) (Ne.symm n_t_copy_before0_t_now_grid) (Ne.symm n_t_copy_before1_t_now_grid))) (n_p0_p0_before0 := n_t_copy_t_copy_before0) (n_p0_p0_before1 := n_t_copy_t_copy_before1) (n_p0_before0_p0_before1 := n_t_copy_before0_t_copy_before1) (v := r12) hr12) gX7_runScript_X5_succeeds rfl rfl rfl q_X5_succeeds ⟨Nat.le_of_ble_eq_true rfl, Nat.le_of_ble_eq_true rfl⟩ rfl rfl (Nat.le_of_ble_eq_true rfl) hl.1 dX7_runScript_78 ⟨Nat.le_of_ble_eq_true rfl, Nat.le_of_ble_eq_true rfl⟩) hS (fun r9 H locs σ1 hp14 hM hS => ?_)
                obtain ⟨rfl, hc_t_copy, hc_t_copy_before0, hc_t_copy_before1, ho13⟩ := hp14
                have hf15 := fun (q : Nat) (f : va_E) (hf : σ q = some f) (n0 : q ≠ a_t_copy) (n1 : q ≠ a_t_copy_before0) (n2 : q ≠ a_t_copy_before1) => ho13 q f (hfL q f hf n0 n1 n2) n0 n1 n2
                refine lv_if_ne (tgt := 87) hx hb dX7_runScript_81 (by decide) (fun c16 => ?_) (fun c16 => ?_)
                · replace c16 := b2i_ne0.mp c16
                  replace h := it_pos c16 h
                  refine lv_iinc (v := (x4 + 1)) (lv' := [(4, .int (x4 + 1)), (0, .ref a_t), (1, .int p0), (2, .long p1)]) hx hb dX7_runScript_87 hl (k := 0) rfl rfl (by decide) rfl (fun ls hl => ?_)
                  refine lv_goto (tgt := 58) hx hb dX7_runScript_90 (by decide) ?_
                  exact ih0 (x4 + 1) r12.2.1 r12.2.2.1 r12.2.2.2 _ _ _ hM hS hc_t_copy hc_t_copy_before0 hc_t_copy_before1 hf15 h ls (lv_sub hl [0, 1, 2, 3] rfl)
                · replace c16 := b2i_eq0.mp c16
                  replace h := it_neg c16 h
                  refine lv_iload hx hb dX7_runScript_84 (lv_at hl 0 rfl) ?_
                  cases h
                  refine W.widen (k := 1) (n := 6) (by decide) (by decide) ?_
                  exact vx_ret (W.iret hx hb hr (fun t ht hW => ⟨⟨_, _, rfl, ⟨_, rfl, rfl, hc_t_copy, hc_t_copy_before0, hc_t_copy_before1, hf15⟩, by show MW z D _ t.heap; rw [ht]; exact hM⟩, hS.F ht⟩) hS.2.2 dX7_runScript_86 hlocks)
          exact L58 5000 0 r6.1 r6.2.1 r6.2.2 _ _ _ hM hS hc_t_copy hc_t_copy_before0 hc_t_copy_before1 hf9 h ls (lv_sub hl [0, 1, 2, 3] rfl)
        · replace h := it_neg c5 h
          cases h
          exact mx_throw hC hX hlt hM hS rfl (by decide +kernel) l_X7_runScript_1 l_X7_runScript_2 (sx_252 hX.2.2.1) a_X7_runScript_A xb_A (xc_A hX) xg_A hl.1 dX7_runScript_34 dX7_runScript_37 dX7_runScript_38 dX7_runScript_40 dX7_runScript_43 hex (Nat.le_of_ble_eq_true rfl) (Nat.le_of_ble_eq_true rfl) (Nat.le_of_ble_eq_true rfl) (Nat.le_of_ble_eq_true rfl) hlocks (Nat.le_of_ble_eq_true rfl) (Nat.le_of_ble_eq_true rfl)
    · replace h := it_neg c2 h
      cases h
      exact mx_throw hC hX hlt hM hS rfl (by decide +kernel) l_X7_runScript_1 l_X7_runScript_2 (sx_247 hX.2.2.1) a_X7_runScript_A xb_A (xc_A hX) xg_A hl.1 dX7_runScript_10 dX7_runScript_13 dX7_runScript_14 dX7_runScript_16 dX7_runScript_19 hex (Nat.le_of_ble_eq_true rfl) (Nat.le_of_ble_eq_true rfl) (Nat.le_of_ble_eq_true rfl) (Nat.le_of_ble_eq_true rfl) hlocks (Nat.le_of_ble_eq_true rfl) (Nat.le_of_ble_eq_true rfl)
theorem a_X7_simulate_A : ∀ w ∈ (vx_atS RX7 54 "java/lang/IllegalArgumentException" ["java/lang/RuntimeException", "java/lang/Exception"]).filter goodWord, w ∈ wsX7_simulate := fun _ h => (List.mem_cons_of_mem _ (List.mem_append_right _ h))
theorem l_X7_simulate_1 : Cond.classLink RX7 50 "java/lang/IllegalArgumentException" ∈ wsX7_simulate := (List.mem_cons_of_mem _ (List.mem_append_left _ (List.mem_append_left _ (List.mem_append_left _ (List.mem_append_left _ (List.mem_append_left _ (List.mem_of_getElem? (i := 0) rfl)))))))
theorem l_X7_simulate_2 : Cond.initialized "java/lang/IllegalArgumentException" ∈ wsX7_simulate := (List.mem_cons_of_mem _ (List.mem_append_left _ (List.mem_append_left _ (List.mem_append_left _ (List.mem_append_left _ (List.mem_append_left _ (List.mem_of_getElem? (i := 1) rfl)))))))
theorem l_X7_simulate_3 : Cond.fieldLink RX7 30 "CornerStones" "copy" "LCornerStones$Game;" ∈ wsX7_simulate := (List.mem_cons_of_mem _ (List.mem_append_left _ (List.mem_append_left _ (List.mem_append_left _ (List.mem_append_left _ (List.mem_append_left _ (List.mem_of_getElem? (i := 2) rfl)))))))
theorem i_X7_simulate_X7 : ∀ w ∈ wsX70, w ∈ wsX7_simulate := fun _ h => (List.mem_cons_of_mem _ (List.mem_append_left _ (List.mem_append_left _ (List.mem_append_left _ (List.mem_append_right _ h)))))
theorem l_X7_simulate_5 : Cond.fieldLink RX7 26 "CornerStones" "now" "LCornerStones$Game;" ∈ wsX7_simulate := (List.mem_cons_of_mem _ (List.mem_append_left _ (List.mem_append_left _ (List.mem_append_left _ (List.mem_append_left _ (List.mem_append_left _ (List.mem_of_getElem? (i := 3) rfl)))))))
theorem i_X7_simulate_X0 : ∀ w ∈ wsX00, w ∈ wsX7_simulate := fun _ h => (List.mem_cons_of_mem _ (List.mem_append_left _ (List.mem_append_left _ (List.mem_append_right _ h))))
theorem l_X7_simulate_7 : Cond.fieldLink RX7 210 "CornerStones$Grid" "points" "I" ∈ wsX7_simulate := (List.mem_cons_of_mem _ (List.mem_append_left _ (List.mem_append_left _ (List.mem_append_left _ (List.mem_append_left _ (List.mem_append_left _ (List.mem_of_getElem? (i := 4) rfl)))))))
theorem i_X7_simulate_X2 : ∀ w ∈ wsX20, w ∈ wsX7_simulate := fun _ h => (List.mem_cons_of_mem _ (List.mem_append_left _ (List.mem_append_right _ h)))
theorem l_X7_simulate_9 : Cond.constantLong RX7 269 (6364136223846793005) ∈ wsX7_simulate := (List.mem_cons_of_mem _ (List.mem_append_left _ (List.mem_append_left _ (List.mem_append_left _ (List.mem_append_left _ (List.mem_append_left _ (List.mem_of_getElem? (i := 5) rfl)))))))
theorem l_X7_simulate_10 : Cond.constantLong RX7 271 (1442695040888963407) ∈ wsX7_simulate := (List.mem_cons_of_mem _ (List.mem_append_left _ (List.mem_append_left _ (List.mem_append_left _ (List.mem_append_left _ (List.mem_append_left _ (List.mem_of_getElem? (i := 6) rfl)))))))
theorem q_X7_simulate : yX7_simulate.cls ≠ "java/lang/invoke/MethodHandle" ∧ yX7_simulate.cls ≠ "java/lang/invoke/VarHandle" ∧ (parseMethodDescriptor yX7_simulate.desc).map (fun d => d.parameters.length) = some 2 := by decide +kernel
def fX7_simulate_51 (w_t_now : Int32 × Int32 × Int32 × Int32 × Int64 × Int64 × Int32 × Int32) (w_t_copy : Int32 × Int32 × Int32 × Int32 × Int64 × Int64 × Int32 × Int32) (f_t_copy_before0 : Nat → Int64) (f_t_copy_before1 : Nat → Int64) (f_t_now_before0 : Nat → Int64) (f_t_now_before1 : Nat → Int64) (w_t_now_grid : Int32 × Int32 × Int64 × Int64 × Int64) (p0 : Int64) (p1 : Int32) : Nat → Int32 → Int64 → Int32 → (Int32 × Int32 × Int32 × Int32 × Int64 × Int64 × Int32 × Int32) → (Nat → Int64) → (Nat → Int64) → Option (String ⊕ (Int32 × (Int32 × Int32 × Int32 × Int32 × Int64 × Int64 × Int32 × Int32) × (Nat → Int64) × (Nat → Int64)))
  | 0, _, _, _, _, _, _ => none
  | fu + 1, x4, x5, x7, y_t_copy, g_t_copy_before0, g_t_copy_before1 => if p1 ≤ x7 then (bnd ((fX0_captivesOf y_t_copy 0) + (fX0_captivesOf y_t_copy 1)) fun v8 => (fX0_groupsOf y_t_copy w_t_now_grid 0).bind fun r9 => (fX0_groupsOf y_t_copy w_t_now_grid 1).bind fun r10 => some (Sum.inr (((((10000 * v8) + (100 * (r9 + r10))) + (fJ13_bitCount_95d88 (fX0_stonesOf y_t_copy 0))), y_t_copy, g_t_copy_before0, g_t_copy_before1)))) else (bnd ((x5 * 6364136223846793005) + 1442695040888963407) fun v11 => if (((ushrL v11 33).toInt32) - ((ushrL v11 33).toInt32) / 16 * 16) = 0 then ((fX0_passIfAllowed y_t_copy g_t_copy_before0 g_t_copy_before1).bind fun r19 => fX7_simulate_51 w_t_now w_t_copy f_t_copy_before0 f_t_copy_before1 f_t_now_before0 f_t_now_before1 w_t_now_grid p0 p1 fu x4 v11 (x7 + 1) r19.2.1 r19.2.2.1 r19.2.2.2) else (if x4 ≤ 0 then (fX7_simulate_51 w_t_now w_t_copy f_t_copy_before0 f_t_copy_before1 f_t_now_before0 f_t_now_before1 w_t_now_grid p0 p1 fu x4 v11 (x7 + 1) y_t_copy g_t_copy_before0 g_t_copy_before1) else (if x4 = 0 then none else (fX0_layIfAllowed y_t_copy g_t_copy_before0 g_t_copy_before1 w_t_now_grid ((((ushrL v11 33).toInt32) / 16) - (((ushrL v11 33).toInt32) / 16) / x4 * x4)).bind fun r15 => fX7_simulate_51 w_t_now w_t_copy f_t_copy_before0 f_t_copy_before1 f_t_now_before0 f_t_now_before1 w_t_now_grid p0 p1 fu x4 v11 (x7 + 1) r15.2.1 r15.2.2.1 r15.2.2.2)))
def fX7_simulate (w_t_now : Int32 × Int32 × Int32 × Int32 × Int64 × Int64 × Int32 × Int32) (w_t_copy : Int32 × Int32 × Int32 × Int32 × Int64 × Int64 × Int32 × Int32) (f_t_copy_before0 : Nat → Int64) (f_t_copy_before1 : Nat → Int64) (f_t_now_before0 : Nat → Int64) (f_t_now_before1 : Nat → Int64) (w_t_now_grid : Int32 × Int32 × Int64 × Int64 × Int64) (p0 : Int64) (p1 : Int32) : Option (String ⊕ (Int32 × (Int32 × Int32 × Int32 × Int32 × Int64 × Int64 × Int32 × Int32) × (Nat → Int64) × (Nat → Int64))) := if p1 < 1 then (some (Sum.inl "java/lang/IllegalArgumentException")) else (if p1 ≤ 100 then ((fX0_copyFrom w_t_copy w_t_now f_t_copy_before0 f_t_copy_before1 f_t_now_before0 f_t_now_before1).bind fun r3 => fX7_simulate_51 w_t_now w_t_copy f_t_copy_before0 f_t_copy_before1 f_t_now_before0 f_t_now_before1 w_t_now_grid p0 p1 5000 w_t_now_grid.2.1 p0 0 r3.1 r3.2.1 r3.2.2) else (some (Sum.inl "java/lang/IllegalArgumentException")))
set_option maxHeartbeats 4000000 in
set_option maxRecDepth 100000 in
theorem c_X7_simulate {l : Launch} {z : Nat} {D : va_G} {K : Nat → ClassId} {σ : mwm} {a_t a_t_text a_t_now a_t_copy a_t_memory a_t_slot0 a_t_slot1 a_t_copy_before0 a_t_copy_before1 a_t_copy_grid a_t_now_before0 a_t_now_before1 a_t_now_grid : Nat} {w_t_now : Int32 × Int32 × Int32 × Int32 × Int64 × Int64 × Int32 × Int32} {w_t_copy : Int32 × Int32 × Int32 × Int32 × Int64 × Int64 × Int32 × Int32} {f_t_copy_before0 : Nat → Int64} {f_t_copy_before1 : Nat → Int64} {f_t_now_before0 : Nat → Int64} {f_t_now_before1 : Nat → Int64} {w_t_now_grid : Int32 × Int32 × Int64 × Int64 × Int64} {p0 : Int64} {p1 : Int32} (hc_t : σ a_t = some (cl5 a_t_text a_t_now a_t_copy a_t_memory a_t_slot0 a_t_slot1)) (hc_t_now : σ a_t_now = some (cl0 a_t_now_before0 a_t_now_before1 a_t_now_grid w_t_now)) (hc_t_copy : σ a_t_copy = some (cl0 a_t_copy_before0 a_t_copy_before1 a_t_copy_grid w_t_copy)) (hc_t_copy_before0 : σ a_t_copy_before0 = some (eJ K 121 f_t_copy_before0)) (hc_t_copy_before1 : σ a_t_copy_before1 = some (eJ K 121 f_t_copy_before1)) (hc_t_now_before0 : σ a_t_now_before0 = some (eJ K 121 f_t_now_before0)) (hc_t_now_before1 : σ a_t_now_before1 = some (eJ K 121 f_t_now_before1)) (hc_t_now_grid : σ a_t_now_grid = some (cl2  w_t_now_grid)) (n_t_t_copy : a_t ≠ a_t_copy) (n_t_t_copy_before0 : a_t ≠ a_t_copy_before0) (n_t_t_copy_before1 : a_t ≠ a_t_copy_before1) (n_t_copy_t_copy_before0 : a_t_copy ≠ a_t_copy_before0) (n_t_copy_t_copy_before1 : a_t_copy ≠ a_t_copy_before1) (n_t_copy_t_now : a_t_copy ≠ a_t_now) (n_t_copy_t_now_before0 : a_t_copy ≠ a_t_now_before0) (n_t_copy_t_now_before1 : a_t_copy ≠ a_t_now_before1) (n_t_copy_t_now_grid : a_t_copy ≠ a_t_now_grid) (n_t_copy_before0_t_copy_before1 : a_t_copy_before0 ≠ a_t_copy_before1) (n_t_copy_before0_t_now : a_t_copy_before0 ≠ a_t_now) (n_t_copy_before0_t_now_before0 : a_t_copy_before0 ≠ a_t_now_before0) (n_t_copy_before0_t_now_before1 : a_t_copy_before0 ≠ a_t_now_before1) (n_t_copy_before0_t_now_grid : a_t_copy_before0 ≠ a_t_now_grid) (n_t_copy_before1_t_now : a_t_copy_before1 ≠ a_t_now) (n_t_copy_before1_t_now_before0 : a_t_copy_before1 ≠ a_t_now_before0) (n_t_copy_before1_t_now_before1 : a_t_copy_before1 ≠ a_t_now_before1) (n_t_copy_before1_t_now_grid : a_t_copy_before1 ≠ a_t_now_grid) (hlt : l.stackTraces = false) {v : String ⊕ (Int32 × (Int32 × Int32 × Int32 × Int32 × Int64 × Int64 × Int32 × Int32) × (Nat → Int64) × (Nat → Int64))} (h : fX7_simulate w_t_now w_t_copy f_t_copy_before0 f_t_copy_before1 f_t_now_before0 f_t_now_before1 w_t_now_grid p0 p1 = some v) : vx_Met l yX7_simulate wsX7_simulate ({ frames := 6, cells := 1, slots := 6, locals := 127 } : Room) (PCx z D K [.ref a_t, .long p0, .int p1] σ) (qwI z D (fun r σ2 => ∃ w9 : Int32 × (Int32 × Int32 × Int32 × Int32 × Int64 × Int64 × Int32 × Int32) × (Nat → Int64) × (Nat → Int64), v = Sum.inr w9 ∧ r = w9.1 ∧ σ2 a_t_copy = some (cl0 a_t_copy_before0 a_t_copy_before1 a_t_now_grid w9.2.1) ∧ σ2 a_t_copy_before0 = some (eJ K 121 w9.2.2.1) ∧ σ2 a_t_copy_before1 = some (eJ K 121 w9.2.2.2) ∧ ∀ (q : Nat) (f : va_E), σ q = some f → q ≠ a_t_copy → q ≠ a_t_copy_before0 → q ≠ a_t_copy_before1 → σ2 q = some f)) (XQ z D σ v) 1 6 (zA z) := by
  refine mx_enter (cc := cX7_simulate) (maxL := 9) (ret := (some .int)) (own := RX7) (lv := [(0, .ref a_t), (1, .long p0), (3, .int p1)]) (by decide) rfl rfl (Nat.le_of_ble_eq_true rfl) rfl ?_
  intro p e s m below meth c ls hC hx hb hown hts hK hr hlocks hnm hz hM hS hl hX hex
  unfold fX7_simulate at h
  refine lv_iload_n hx hb dX7_simulate_0 rfl (lv_at hl 2 rfl) ?_
  refine lv_iconst (v := 1) hx hb dX7_simulate_1 (by decide) ?_
  refine lv_icmp_lt (tgt := 11) hx hb dX7_simulate_2 (by decide) (fun c1 => ?_) (fun c1 => ?_)
  · replace h := it_pos c1 h
    cases h
    exact mx_throwW hC hX hlt hM hS rfl (by decide +kernel) l_X7_simulate_1 l_X7_simulate_2 (sx_267 hX.2.2.1) a_X7_simulate_A xb_A (xc_A hX) xg_A hl.1 dX7_simulate_11 dX7_simulate_14 dX7_simulate_15 dX7_simulate_18 dX7_simulate_21 hex (Nat.le_of_ble_eq_true rfl) (Nat.le_of_ble_eq_true rfl) (Nat.le_of_ble_eq_true rfl) (Nat.le_of_ble_eq_true rfl) hlocks (Nat.le_of_ble_eq_true rfl) (Nat.le_of_ble_eq_true rfl)
  · replace h := it_neg c1 h
    refine lv_iload_n hx hb dX7_simulate_5 rfl (lv_at hl 2 rfl) ?_
    refine lv_bipush (v := 100) hx hb dX7_simulate_6 (by decide) ?_
    refine lv_icmp_le (tgt := 22) hx hb dX7_simulate_8 (by decide) (fun c2 => ?_) (fun c2 => ?_)
    · replace h := it_pos c2 h
      refine lv_aload_n hx hb dX7_simulate_22 rfl (lv_at hl 0 rfl) ?_
      refine mw_get (ci := 5) (C := RX7) (T := TX7) (N := 6) (v := .ref a_t_copy) hC i_X7_simulate_X7 hM hc_t rfl 2 (by decide) l_X7_simulate_3 rfl rfl dX7_simulate_23 ?_
      refine lv_aload_n hx hb dX7_simulate_26 rfl (lv_at hl 0 rfl) ?_
      refine mw_get (ci := 5) (C := RX7) (T := TX7) (N := 6) (v := .ref a_t_now) hC i_X7_simulate_X7 hM hc_t rfl 1 (by decide) l_X7_simulate_5 rfl rfl dX7_simulate_27 ?_
      obtain ⟨r3, hr3, h⟩ := ob_some h
      refine mw_wv (mw_runV (As := [.ref a_t_now]) (rest := []) (ci := 0) (C := RX0) (T := TX0) (N := 11) hC hM hS hc_t_copy rfl (c_X0_copyFrom (a_t := a_t_copy) (a_p0 := a_t_now) (a_t_before0 := a_t_copy_before0) (a_t_before1 := a_t_copy_before1) (a_t_grid := a_t_copy_grid) (a_p0_before0 := a_t_now_before0) (a_p0_before1 := a_t_now_before1) (a_p0_grid := a_t_now_grid) (w_t := w_t_copy) (w_p0 := w_t_now) (f_t_before0 := f_t_copy_before0) (f_t_before1 := f_t_copy_before1) (f_p0_before0 := f_t_now_before0) (f_p0_before1 := f_t_now_before1) (hc_t := hc_t_copy) (hc_p0 := hc_t_now) (hc_t_before0 := hc_t_copy_before0) (hc_t_before1 := hc_t_copy_before1) (hc_p0_before0 := hc_t_now_before0) (hc_p0_before1 := hc_t_now_before1) (n_p0_t := (Ne.symm n_t_copy_t_now)) (n_p0_t_before0 := (Ne.symm n_t_copy_before0_t_now)) (n_p0_t_before1 := (Ne.symm n_t_copy_before1_t_now)) (n_p0_before0_t := (Ne.symm n_t_copy_t_now_before0)) (n_p0_before0_t_before0 := (Ne.symm n_t_copy_before0_t_now_before0)) (n_p0_before0_t_before1 := (Ne.symm n_t_copy_before1_t_now_before0)) (n_p0_before1_t := (Ne.symm n_t_copy_t_now_before1)) (n_p0_before1_t_before0 := (Ne.symm n_t_copy_before0_t_now_before1)) (n_p0_before1_t_before1 := (Ne.symm n_t_copy_before1_t_now_before1)) (n_t_t_before0 := n_t_copy_t_copy_before0) (n_t_t_before1 := n_t_copy_t_copy_before1) (n_t_before0_t_before1 := n_t_copy_before0_t_copy_before1) (v := r3) hr3) gX7_simulate_X0_copyFrom rfl rfl rfl rfl q_X0_copyFrom ⟨Nat.le_of_ble_eq_true rfl, Nat.le_of_ble_eq_true rfl⟩ rfl rfl (Nat.le_of_ble_eq_true rfl) hl.1 dX7_simulate_30 ⟨Nat.le_of_ble_eq_true rfl, Nat.le_of_ble_eq_true rfl⟩) hS (fun H locs σ1 hp5 hM hS => ?_)
      obtain ⟨hc_t_copy, hc_t_copy_before0, hc_t_copy_before1, ho4⟩ := hp5
      have hf6 := fun (q : Nat) (f : va_E) (hf : σ q = some f) (n0 : q ≠ a_t_copy) (n1 : q ≠ a_t_copy_before0) (n2 : q ≠ a_t_copy_before1) => ho4 q f hf n0 n1 n2
      refine lv_aload_n hx hb dX7_simulate_33 rfl (lv_at hl 0 rfl) ?_
      refine mw_get (ci := 5) (C := RX7) (T := TX7) (N := 6) (v := .ref a_t_copy) hC i_X7_simulate_X7 hM (hf6 a_t _ hc_t n_t_t_copy n_t_t_copy_before0 n_t_t_copy_before1) rfl 2 (by decide) l_X7_simulate_3 rfl rfl dX7_simulate_34 ?_
      refine mw_getN (ci := 0) (C := RX0) (T := TX0) (N := 11) (v := .ref a_t_now_grid) hC i_X7_simulate_X0 hM hc_t_copy rfl 2 (by decide) (nx_RX7_118 hC.2.2.2) rfl rfl dX7_simulate_37 ?_
      refine mw_get (ci := 2) (C := RX2) (T := TX2) (N := 5) (v := .int w_t_now_grid.2.1) hC i_X7_simulate_X2 hM (hf6 a_t_now_grid _ hc_t_now_grid (Ne.symm n_t_copy_t_now_grid) (Ne.symm n_t_copy_before0_t_now_grid) (Ne.symm n_t_copy_before1_t_now_grid)) rfl 1 (by decide) l_X7_simulate_7 rfl rfl dX7_simulate_40 ?_
      refine lv_istore (lv' := [(4, .int w_t_now_grid.2.1), (0, .ref a_t), (1, .long p0), (3, .int p1)]) hx hb dX7_simulate_43 hl (by decide) rfl (fun ls hl => ?_)
      refine lv_lload_n hx hb dX7_simulate_45 rfl (lv_at hl 2 rfl) ?_
      refine lv_lstore (lv' := [(5, .long p0), (4, .int w_t_now_grid.2.1), (0, .ref a_t), (1, .long p0), (3, .int p1)]) hx hb dX7_simulate_46 hl (by decide) rfl (fun ls hl => ?_)
      refine lv_iconst (v := 0) hx hb dX7_simulate_48 (by decide) ?_
      refine lv_istore (lv' := [(7, .int 0), (5, .long p0), (4, .int w_t_now_grid.2.1), (0, .ref a_t), (1, .long p0), (3, .int p1)]) hx hb dX7_simulate_49 hl (by decide) rfl (fun ls hl => ?_)
      have L51 : ∀ (fu0 : Nat) (x4 : Int32) (x5 : Int64) (x7 : Int32) (y_t_copy : Int32 × Int32 × Int32 × Int32 × Int64 × Int64 × Int32 × Int32) (g_t_copy_before0 : Nat → Int64) (g_t_copy_before1 : Nat → Int64) (H : Heap) (locs : List Loc) (σ1 : mwm), MW z D σ1 H → va_S (zA z) s.heap H locs → σ1 a_t_copy = some (cl0 a_t_copy_before0 a_t_copy_before1 a_t_now_grid y_t_copy) → σ1 a_t_copy_before0 = some (eJ K 121 g_t_copy_before0) → σ1 a_t_copy_before1 = some (eJ K 121 g_t_copy_before1) → (∀ (q : Nat) (f : va_E), σ q = some f → q ≠ a_t_copy → q ≠ a_t_copy_before0 → q ≠ a_t_copy_before1 → σ1 q = some f) → fX7_simulate_51 w_t_now w_t_copy f_t_copy_before0 f_t_copy_before1 f_t_now_before0 f_t_now_before1 w_t_now_grid p0 p1 fu0 x4 x5 x7 y_t_copy g_t_copy_before0 g_t_copy_before1 = some v → ∀ ls : Array Slot, lv_has ls 9 [(7, .int x7), (5, .long x5), (4, .int x4), (0, .ref a_t), (3, .int p1)] → W p l e ({ frames := 6, cells := 1, slots := 6, locals := 127 } : Room) s m ([.ref a_t, .long p0, .int p1] : List Value).toArray below meth c H locs 0 0 (vx_MQ below (qwI z D (fun r σ2 => ∃ w9 : Int32 × (Int32 × Int32 × Int32 × Int32 × Int64 × Int64 × Int32 × Int32) × (Nat → Int64) × (Nat → Int64), v = Sum.inr w9 ∧ r = w9.1 ∧ σ2 a_t_copy = some (cl0 a_t_copy_before0 a_t_copy_before1 a_t_now_grid w9.2.1) ∧ σ2 a_t_copy_before0 = some (eJ K 121 w9.2.2.1) ∧ σ2 a_t_copy_before1 = some (eJ K 121 w9.2.2.2) ∧ ∀ (q : Nat) (f : va_E), σ q = some f → q ≠ a_t_copy → q ≠ a_t_copy_before0 → q ≠ a_t_copy_before1 → σ2 q = some f)) (XQ z D σ v) ([.ref a_t, .long p0, .int p1] : List Value).toArray s 1 6 (zA z)) (F0 m 51 ls []) := by
        intro fu0
        induction fu0 with
        | zero =>
          intro x4 x5 x7 y_t_copy g_t_copy_before0 g_t_copy_before1 H locs σ1 hM hS hc_t_copy hc_t_copy_before0 hc_t_copy_before1 hfL h
          unfold fX7_simulate_51 at h
          cases h
        | succ fu0 ih0 =>
          intro x4 x5 x7 y_t_copy g_t_copy_before0 g_t_copy_before1 H locs σ1 hM hS hc_t_copy hc_t_copy_before0 hc_t_copy_before1 hfL h ls hl
          unfold fX7_simulate_51 at h
          refine lv_iload hx hb dX7_simulate_51 (lv_at hl 0 rfl) ?_
          refine lv_iload_n hx hb dX7_simulate_53 rfl (lv_at hl 4 rfl) ?_
          refine lv_icmp_ge (tgt := 123) hx hb dX7_simulate_54 (by decide) (fun c7 => ?_) (fun c7 => ?_)
          · replace h := it_pos c7 h
            refine lv_aload_n hx hb dX7_simulate_123 rfl (lv_at hl 3 rfl) ?_
            refine mw_get (ci := 5) (C := RX7) (T := TX7) (N := 6) (v := .ref a_t_copy) hC i_X7_simulate_X7 hM (hfL a_t _ hc_t n_t_t_copy n_t_t_copy_before0 n_t_t_copy_before1) rfl 2 (by decide) l_X7_simulate_3 rfl rfl dX7_simulate_124 ?_
            refine lv_iconst (v := 0) hx hb dX7_simulate_127 (by decide) ?_
            refine mw_ci (mw_runV (As := [.int 0]) (rest := []) (ci := 0) (C := RX0) (T := TX0) (N := 11) hC hM hS hc_t_copy rfl (c_X0_captivesOf (a_t := a_t_copy) (a_t_before0 := a_t_copy_before0) (a_t_before1 := a_t_copy_before1) (a_t_grid := a_t_now_grid) (w_t := y_t_copy) (p0 := 0) (hc_t := hc_t_copy) (v := (fX0_captivesOf y_t_copy 0)) rfl) gX7_simulate_X0_captivesOf rfl rfl rfl rfl q_X0_captivesOf ⟨Nat.le_of_ble_eq_true rfl, Nat.le_of_ble_eq_true rfl⟩ rfl rfl (Nat.le_of_ble_eq_true rfl) hl.1 dX7_simulate_128 ⟨Nat.le_of_ble_eq_true rfl, Nat.le_of_ble_eq_true rfl⟩) ?_
            refine lv_aload_n hx hb dX7_simulate_131 rfl (lv_at hl 3 rfl) ?_
            refine mw_get (ci := 5) (C := RX7) (T := TX7) (N := 6) (v := .ref a_t_copy) hC i_X7_simulate_X7 hM (hfL a_t _ hc_t n_t_t_copy n_t_t_copy_before0 n_t_t_copy_before1) rfl 2 (by decide) l_X7_simulate_3 rfl rfl dX7_simulate_132 ?_
            refine lv_iconst (v := 1) hx hb dX7_simulate_135 (by decide) ?_
            refine mw_ci (mw_runV (As := [.int 1]) (rest := [.int (fX0_captivesOf y_t_copy 0)]) (ci := 0) (C := RX0) (T := TX0) (N := 11) hC hM hS hc_t_copy rfl (c_X0_captivesOf (a_t := a_t_copy) (a_t_before0 := a_t_copy_before0) (a_t_before1 := a_t_copy_before1) (a_t_grid := a_t_now_grid) (w_t := y_t_copy) (p0 := 1) (hc_t := hc_t_copy) (v := (fX0_captivesOf y_t_copy 1)) rfl) gX7_simulate_X0_captivesOf rfl rfl rfl rfl q_X0_captivesOf ⟨Nat.le_of_ble_eq_true rfl, Nat.le_of_ble_eq_true rfl⟩ rfl rfl (Nat.le_of_ble_eq_true rfl) hl.1 dX7_simulate_136 ⟨Nat.le_of_ble_eq_true rfl, Nat.le_of_ble_eq_true rfl⟩) ?_
            refine lv_iadd hx hb dX7_simulate_139 ?_
            refine lv_topi (fun v8 ev8 => ?_)
            replace h := bnd_at ev8 h
            refine lv_istore (lv' := [(7, .int v8), (5, .long x5), (4, .int x4), (0, .ref a_t), (3, .int p1)]) hx hb dX7_simulate_140 hl (by decide) rfl (fun ls hl => ?_)
            refine lv_aload_n hx hb dX7_simulate_142 rfl (lv_at hl 3 rfl) ?_
            refine mw_get (ci := 5) (C := RX7) (T := TX7) (N := 6) (v := .ref a_t_copy) hC i_X7_simulate_X7 hM (hfL a_t _ hc_t n_t_t_copy n_t_t_copy_before0 n_t_t_copy_before1) rfl 2 (by decide) l_X7_simulate_3 rfl rfl dX7_simulate_143 ?_
            refine lv_iconst (v := 0) hx hb dX7_simulate_146 (by decide) ?_
            obtain ⟨r9, hr9, h⟩ := ob_some h
            refine mw_ci (mw_runV (As := [.int 0]) (rest := []) (ci := 0) (C := RX0) (T := TX0) (N := 11) hC hM hS hc_t_copy rfl (c_X0_groupsOf (a_t := a_t_copy) (a_t_before0 := a_t_copy_before0) (a_t_before1 := a_t_copy_before1) (a_t_grid := a_t_now_grid) (w_t := y_t_copy) (w_t_grid := w_t_now_grid) (p0 := 0) (hc_t := hc_t_copy) (hc_t_grid := (hfL a_t_now_grid _ hc_t_now_grid (Ne.symm n_t_copy_t_now_grid) (Ne.symm n_t_copy_before0_t_now_grid) (Ne.symm n_t_copy_before1_t_now_grid))) (v := r9) hr9) gX7_simulate_X0_groupsOf rfl rfl rfl rfl q_X0_groupsOf ⟨Nat.le_of_ble_eq_true rfl, Nat.le_of_ble_eq_true rfl⟩ rfl rfl (Nat.le_of_ble_eq_true rfl) hl.1 dX7_simulate_147 ⟨Nat.le_of_ble_eq_true rfl, Nat.le_of_ble_eq_true rfl⟩) ?_
            refine lv_aload_n hx hb dX7_simulate_150 rfl (lv_at hl 3 rfl) ?_
            refine mw_get (ci := 5) (C := RX7) (T := TX7) (N := 6) (v := .ref a_t_copy) hC i_X7_simulate_X7 hM (hfL a_t _ hc_t n_t_t_copy n_t_t_copy_before0 n_t_t_copy_before1) rfl 2 (by decide) l_X7_simulate_3 rfl rfl dX7_simulate_151 ?_
            refine lv_iconst (v := 1) hx hb dX7_simulate_154 (by decide) ?_
            obtain ⟨r10, hr10, h⟩ := ob_some h
            refine mw_ci (mw_runV (As := [.int 1]) (rest := [.int r9]) (ci := 0) (C := RX0) (T := TX0) (N := 11) hC hM hS hc_t_copy rfl (c_X0_groupsOf (a_t := a_t_copy) (a_t_before0 := a_t_copy_before0) (a_t_before1 := a_t_copy_before1) (a_t_grid := a_t_now_grid) (w_t := y_t_copy) (w_t_grid := w_t_now_grid) (p0 := 1) (hc_t := hc_t_copy) (hc_t_grid := (hfL a_t_now_grid _ hc_t_now_grid (Ne.symm n_t_copy_t_now_grid) (Ne.symm n_t_copy_before0_t_now_grid) (Ne.symm n_t_copy_before1_t_now_grid))) (v := r10) hr10) gX7_simulate_X0_groupsOf rfl rfl rfl rfl q_X0_groupsOf ⟨Nat.le_of_ble_eq_true rfl, Nat.le_of_ble_eq_true rfl⟩ rfl rfl (Nat.le_of_ble_eq_true rfl) hl.1 dX7_simulate_155 ⟨Nat.le_of_ble_eq_true rfl, Nat.le_of_ble_eq_true rfl⟩) ?_
            refine lv_iadd hx hb dX7_simulate_158 ?_
            refine lv_istore (lv' := [(8, .int (r9 + r10)), (7, .int v8), (5, .long x5), (4, .int x4), (0, .ref a_t), (3, .int p1)]) hx hb dX7_simulate_159 hl (by decide) rfl (fun ls hl => ?_)
            refine lv_sipush (v := 10000) hx hb dX7_simulate_161 (by decide) ?_
            refine lv_iload hx hb dX7_simulate_164 (lv_at hl 1 rfl) ?_
            refine lv_imul hx hb dX7_simulate_166 ?_
            refine lv_bipush (v := 100) hx hb dX7_simulate_167 (by decide) ?_
            refine lv_iload hx hb dX7_simulate_169 (lv_at hl 0 rfl) ?_
            refine lv_imul hx hb dX7_simulate_171 ?_
            refine lv_iadd hx hb dX7_simulate_172 ?_
            refine lv_aload_n hx hb dX7_simulate_173 rfl (lv_at hl 4 rfl) ?_
            refine mw_get (ci := 5) (C := RX7) (T := TX7) (N := 6) (v := .ref a_t_copy) hC i_X7_simulate_X7 hM (hfL a_t _ hc_t n_t_t_copy n_t_t_copy_before0 n_t_t_copy_before1) rfl 2 (by decide) l_X7_simulate_3 rfl rfl dX7_simulate_174 ?_
            refine lv_iconst (v := 0) hx hb dX7_simulate_177 (by decide) ?_
            refine mw_cl (mw_runV (As := [.int 0]) (rest := [.int ((10000 * v8) + (100 * (r9 + r10)))]) (ci := 0) (C := RX0) (T := TX0) (N := 11) hC hM hS hc_t_copy rfl (c_X0_stonesOf (a_t := a_t_copy) (a_t_before0 := a_t_copy_before0) (a_t_before1 := a_t_copy_before1) (a_t_grid := a_t_now_grid) (w_t := y_t_copy) (p0 := 0) (hc_t := hc_t_copy) (v := (fX0_stonesOf y_t_copy 0)) rfl) gX7_simulate_X0_stonesOf rfl rfl rfl rfl q_X0_stonesOf ⟨Nat.le_of_ble_eq_true rfl, Nat.le_of_ble_eq_true rfl⟩ rfl rfl (Nat.le_of_ble_eq_true rfl) hl.1 dX7_simulate_178 ⟨Nat.le_of_ble_eq_true rfl, Nat.le_of_ble_eq_true rfl⟩) ?_
            refine mw_ci (mw_runS (As := [.long (fX0_stonesOf y_t_copy 0)]) (rest := [.int ((10000 * v8) + (100 * (r9 + r10)))]) hC hM hS (c_J13_bitCount_95d88 (p0 := (fX0_stonesOf y_t_copy 0)) (v := (fJ13_bitCount_95d88 (fX0_stonesOf y_t_copy 0))) rfl) gX7_simulate_J13_bitCount_95d88 rfl rfl rfl q_J13_bitCount_95d88 ⟨Nat.le_of_ble_eq_true rfl, Nat.le_of_ble_eq_true rfl⟩ rfl rfl (Nat.le_of_ble_eq_true rfl) hl.1 dX7_simulate_181 ⟨Nat.le_of_ble_eq_true rfl, Nat.le_of_ble_eq_true rfl⟩) ?_
            refine lv_iadd hx hb dX7_simulate_184 ?_
            cases h
            refine W.widen (k := 1) (n := 6) (by decide) (by decide) ?_
            exact vx_ret (W.iret hx hb hr (fun t ht hW => ⟨⟨_, _, rfl, ⟨_, rfl, rfl, hc_t_copy, hc_t_copy_before0, hc_t_copy_before1, hfL⟩, by show MW z D _ t.heap; rw [ht]; exact hM⟩, hS.F ht⟩) hS.2.2 dX7_simulate_185 hlocks)
          · replace h := it_neg c7 h
            refine lv_lload hx hb dX7_simulate_57 (lv_at hl 1 rfl) ?_
            refine lv_ldc2 (v := 6364136223846793005) hx hb hown (hts _ l_X7_simulate_9) dX7_simulate_59 ?_
            refine lv_lmul hx hb dX7_simulate_62 ?_
            refine lv_ldc2 (v := 1442695040888963407) hx hb hown (hts _ l_X7_simulate_10) dX7_simulate_63 ?_
            refine lv_ladd hx hb dX7_simulate_66 ?_
            refine lv_topl (fun v11 ev11 => ?_)
            replace h := bnd_at ev11 h
            refine lv_lstore (lv' := [(5, .long v11), (7, .int x7), (4, .int x4), (0, .ref a_t), (3, .int p1)]) hx hb dX7_simulate_67 hl (by decide) rfl (fun ls hl => ?_)
            refine lv_lload hx hb dX7_simulate_69 (lv_at hl 0 rfl) ?_
            refine lv_bipush (v := 33) hx hb dX7_simulate_71 (by decide) ?_
            refine lv_lushr (v := (ushrL v11 33)) hx hb dX7_simulate_73 rfl ?_
            refine lv_l2i hx hb dX7_simulate_74 rfl ?_
            refine lv_istore (lv' := [(8, .int ((ushrL v11 33).toInt32)), (5, .long v11), (7, .int x7), (4, .int x4), (0, .ref a_t), (3, .int p1)]) hx hb dX7_simulate_75 hl (by decide) rfl (fun ls hl => ?_)
            refine lv_iload hx hb dX7_simulate_77 (lv_at hl 0 rfl) ?_
            refine lv_bipush (v := 16) hx hb dX7_simulate_79 (by decide) ?_
            refine lv_irem hx hb dX7_simulate_81 (by decide) ?_
            refine lv_if_ne (tgt := 96) hx hb dX7_simulate_82 (by decide) (fun c12 => ?_) (fun c12 => ?_)
            · replace h := it_neg c12 h
              refine lv_iload hx hb dX7_simulate_96 (lv_at hl 3 rfl) ?_
              refine lv_if_le (tgt := 117) hx hb dX7_simulate_98 (by decide) (fun c13 => ?_) (fun c13 => ?_)
              · replace h := it_pos c13 h
                refine lv_iinc (v := (x7 + 1)) (lv' := [(7, .int (x7 + 1)), (8, .int ((ushrL v11 33).toInt32)), (5, .long v11), (4, .int x4), (0, .ref a_t), (3, .int p1)]) hx hb dX7_simulate_117 hl (k := 2) rfl rfl (by decide) rfl (fun ls hl => ?_)
                refine lv_goto (tgt := 51) hx hb dX7_simulate_120 (by decide) ?_
                exact ih0 x4 v11 (x7 + 1) y_t_copy g_t_copy_before0 g_t_copy_before1 _ _ _ hM hS hc_t_copy hc_t_copy_before0 hc_t_copy_before1 hfL h ls (lv_sub hl [0, 2, 3, 4, 5] rfl)
              · replace h := it_neg c13 h
                refine lv_aload_n hx hb dX7_simulate_101 rfl (lv_at hl 4 rfl) ?_
                refine mw_get (ci := 5) (C := RX7) (T := TX7) (N := 6) (v := .ref a_t_copy) hC i_X7_simulate_X7 hM (hfL a_t _ hc_t n_t_t_copy n_t_t_copy_before0 n_t_t_copy_before1) rfl 2 (by decide) l_X7_simulate_3 rfl rfl dX7_simulate_102 ?_
                refine lv_iload hx hb dX7_simulate_105 (lv_at hl 0 rfl) ?_
                refine lv_bipush (v := 16) hx hb dX7_simulate_107 (by decide) ?_
                refine lv_idiv hx hb dX7_simulate_109 (by decide) ?_
                refine lv_iload hx hb dX7_simulate_110 (lv_at hl 3 rfl) ?_
                by_cases c14 : x4 = 0
                · replace h := it_pos c14 h; cases h
                replace h := it_neg c14 h
                refine lv_irem hx hb dX7_simulate_112 c14 ?_
                obtain ⟨r15, hr15, h⟩ := ob_some h
                refine mw_wi (mw_runV (As := [.int ((((ushrL v11 33).toInt32) / 16) - (((ushrL v11 33).toInt32) / 16) / x4 * x4)]) (rest := []) (ci := 0) (C := RX0) (T := TX0) (N := 11) hC hM hS hc_t_copy rfl (c_X0_layIfAllowed (a_t := a_t_copy) (a_t_before0 := a_t_copy_before0) (a_t_before1 := a_t_copy_before1) (a_t_grid := a_t_now_grid) (w_t := y_t_copy) (f_t_before0 := g_t_copy_before0) (f_t_before1 := g_t_copy_before1) (w_t_grid := w_t_now_grid) (p0 := ((((ushrL v11 33).toInt32) / 16) - (((ushrL v11 33).toInt32) / 16) / x4 * x4)) (hc_t := hc_t_copy) (hc_t_before0 := hc_t_copy_before0) (hc_t_before1 := hc_t_copy_before1) (hc_t_grid := (hfL a_t_now_grid _ hc_t_now_grid (Ne.symm n_t_copy_t_now_grid) (Ne.symm n_t_copy_before0_t_now_grid) (Ne.symm n_t_copy_before1_t_now_grid))) (n_t_t_before0 := n_t_copy_t_copy_before0) (n_t_t_before1 := n_t_copy_t_copy_before1) (n_t_before0_t_before1 := n_t_copy_before0_t_copy_before1) (v := r15) hr15) gX7_simulate_X0_layIfAllowed rfl rfl rfl rfl q_X0_layIfAllowed ⟨Nat.le_of_ble_eq_true rfl, Nat.le_of_ble_eq_true rfl⟩ rfl rfl (Nat.le_of_ble_eq_true rfl) hl.1 dX7_simulate_113 ⟨Nat.le_of_ble_eq_true rfl, Nat.le_of_ble_eq_true rfl⟩) hS (fun r9 H locs σ1 hp17 hM hS => ?_)
                obtain ⟨rfl, hc_t_copy, hc_t_copy_before0, hc_t_copy_before1, ho16⟩ := hp17
                have hf18 := fun (q : Nat) (f : va_E) (hf : σ q = some f) (n0 : q ≠ a_t_copy) (n1 : q ≠ a_t_copy_before0) (n2 : q ≠ a_t_copy_before1) => ho16 q f (hfL q f hf n0 n1 n2) n0 n1 n2
                refine lv_pop hx hb dX7_simulate_116 rfl ?_
                refine lv_iinc (v := (x7 + 1)) (lv' := [(7, .int (x7 + 1)), (8, .int ((ushrL v11 33).toInt32)), (5, .long v11), (4, .int x4), (0, .ref a_t), (3, .int p1)]) hx hb dX7_simulate_117 hl (k := 2) rfl rfl (by decide) rfl (fun ls hl => ?_)
                refine lv_goto (tgt := 51) hx hb dX7_simulate_120 (by decide) ?_
                exact ih0 x4 v11 (x7 + 1) r15.2.1 r15.2.2.1 r15.2.2.2 _ _ _ hM hS hc_t_copy hc_t_copy_before0 hc_t_copy_before1 hf18 h ls (lv_sub hl [0, 2, 3, 4, 5] rfl)
            · replace h := it_pos c12 h
              refine lv_aload_n hx hb dX7_simulate_85 rfl (lv_at hl 4 rfl) ?_
              refine mw_get (ci := 5) (C := RX7) (T := TX7) (N := 6) (v := .ref a_t_copy) hC i_X7_simulate_X7 hM (hfL a_t _ hc_t n_t_t_copy n_t_t_copy_before0 n_t_t_copy_before1) rfl 2 (by decide) l_X7_simulate_3 rfl rfl dX7_simulate_86 ?_
              obtain ⟨r19, hr19, h⟩ := ob_some h
              refine mw_wi (mw_runV (As := []) (rest := []) (ci := 0) (C := RX0) (T := TX0) (N := 11) hC hM hS hc_t_copy rfl (c_X0_passIfAllowed (a_t := a_t_copy) (a_t_before0 := a_t_copy_before0) (a_t_before1 := a_t_copy_before1) (a_t_grid := a_t_now_grid) (w_t := y_t_copy) (f_t_before0 := g_t_copy_before0) (f_t_before1 := g_t_copy_before1) (hc_t := hc_t_copy) (hc_t_before0 := hc_t_copy_before0) (hc_t_before1 := hc_t_copy_before1) (n_t_t_before0 := n_t_copy_t_copy_before0) (n_t_t_before1 := n_t_copy_t_copy_before1) (n_t_before0_t_before1 := n_t_copy_before0_t_copy_before1) (v := r19) hr19) gX7_simulate_X0_passIfAllowed rfl rfl rfl rfl q_X0_passIfAllowed ⟨Nat.le_of_ble_eq_true rfl, Nat.le_of_ble_eq_true rfl⟩ rfl rfl (Nat.le_of_ble_eq_true rfl) hl.1 dX7_simulate_89 ⟨Nat.le_of_ble_eq_true rfl, Nat.le_of_ble_eq_true rfl⟩) hS (fun r9 H locs σ1 hp21 hM hS => ?_)
              obtain ⟨rfl, hc_t_copy, hc_t_copy_before0, hc_t_copy_before1, ho20⟩ := hp21
              have hf22 := fun (q : Nat) (f : va_E) (hf : σ q = some f) (n0 : q ≠ a_t_copy) (n1 : q ≠ a_t_copy_before0) (n2 : q ≠ a_t_copy_before1) => ho20 q f (hfL q f hf n0 n1 n2) n0 n1 n2
              refine lv_pop hx hb dX7_simulate_92 rfl ?_
              refine lv_goto (tgt := 117) hx hb dX7_simulate_93 (by decide) ?_
              refine lv_iinc (v := (x7 + 1)) (lv' := [(7, .int (x7 + 1)), (8, .int ((ushrL v11 33).toInt32)), (5, .long v11), (4, .int x4), (0, .ref a_t), (3, .int p1)]) hx hb dX7_simulate_117 hl (k := 2) rfl rfl (by decide) rfl (fun ls hl => ?_)
              refine lv_goto (tgt := 51) hx hb dX7_simulate_120 (by decide) ?_
              exact ih0 x4 v11 (x7 + 1) r19.2.1 r19.2.2.1 r19.2.2.2 _ _ _ hM hS hc_t_copy hc_t_copy_before0 hc_t_copy_before1 hf22 h ls (lv_sub hl [0, 2, 3, 4, 5] rfl)
      exact L51 5000 w_t_now_grid.2.1 p0 0 r3.1 r3.2.1 r3.2.2 _ _ _ hM hS hc_t_copy hc_t_copy_before0 hc_t_copy_before1 hf6 h ls (lv_sub hl [0, 1, 2, 3, 5] rfl)
    · replace h := it_neg c2 h
      cases h
      exact mx_throwW hC hX hlt hM hS rfl (by decide +kernel) l_X7_simulate_1 l_X7_simulate_2 (sx_267 hX.2.2.1) a_X7_simulate_A xb_A (xc_A hX) xg_A hl.1 dX7_simulate_11 dX7_simulate_14 dX7_simulate_15 dX7_simulate_18 dX7_simulate_21 hex (Nat.le_of_ble_eq_true rfl) (Nat.le_of_ble_eq_true rfl) (Nat.le_of_ble_eq_true rfl) (Nat.le_of_ble_eq_true rfl) hlocks (Nat.le_of_ble_eq_true rfl) (Nat.le_of_ble_eq_true rfl)
theorem l_X7_save_0 : Cond.fieldLink RX7 47 "CornerStones" "slot1" "LCornerStones$Slot;" ∈ wsX7_save := (List.mem_cons_of_mem _ (List.mem_append_left _ (List.mem_append_left _ (List.mem_append_left _ (List.mem_append_left _ (List.mem_of_getElem? (i := 3) rfl))))))
theorem i_X7_save_X7 : ∀ w ∈ wsX70, w ∈ wsX7_save := fun _ h => (List.mem_cons_of_mem _ (List.mem_append_left _ (List.mem_append_left _ (List.mem_append_left _ (List.mem_append_right _ h)))))
theorem i_X7_save_X6 : ∀ w ∈ wsX60, w ∈ wsX7_save := fun _ h => (List.mem_cons_of_mem _ (List.mem_append_left _ (List.mem_append_left _ (List.mem_append_right _ h))))
theorem l_X7_save_3 : Cond.fieldLink RX7 26 "CornerStones" "now" "LCornerStones$Game;" ∈ wsX7_save := (List.mem_cons_of_mem _ (List.mem_append_left _ (List.mem_append_left _ (List.mem_append_left _ (List.mem_append_left _ (List.mem_of_getElem? (i := 4) rfl))))))
theorem i_X7_save_X0 : ∀ w ∈ wsX00, w ∈ wsX7_save := fun _ h => (List.mem_cons_of_mem _ (List.mem_append_left _ (List.mem_append_right _ h)))
theorem l_X7_save_5 : Cond.fieldLink RX7 43 "CornerStones" "slot0" "LCornerStones$Slot;" ∈ wsX7_save := (List.mem_cons_of_mem _ (List.mem_append_left _ (List.mem_append_left _ (List.mem_append_left _ (List.mem_append_left _ (List.mem_of_getElem? (i := 2) rfl))))))
theorem a_X7_save_O : ∀ w ∈ (vx_atS RX7 151 "java/lang/IndexOutOfBoundsException" ["java/lang/RuntimeException", "java/lang/Exception"]).filter goodWord, w ∈ wsX7_save := fun _ h => (List.mem_cons_of_mem _ (List.mem_append_right _ h))
theorem l_X7_save_7 : Cond.classLink RX7 147 "java/lang/IndexOutOfBoundsException" ∈ wsX7_save := (List.mem_cons_of_mem _ (List.mem_append_left _ (List.mem_append_left _ (List.mem_append_left _ (List.mem_append_left _ (List.mem_of_getElem? (i := 0) rfl))))))
theorem l_X7_save_8 : Cond.initialized "java/lang/IndexOutOfBoundsException" ∈ wsX7_save := (List.mem_cons_of_mem _ (List.mem_append_left _ (List.mem_append_left _ (List.mem_append_left _ (List.mem_append_left _ (List.mem_of_getElem? (i := 1) rfl))))))
theorem q_X7_save : yX7_save.cls ≠ "java/lang/invoke/MethodHandle" ∧ yX7_save.cls ≠ "java/lang/invoke/VarHandle" ∧ (parseMethodDescriptor yX7_save.desc).map (fun d => d.parameters.length) = some 1 := by decide +kernel
def fX7_save (w_t_now : Int32 × Int32 × Int32 × Int32 × Int64 × Int64 × Int32 × Int32) (w_t_slot0 : Bool) (w_t_slot1 : Bool) (w_t_slot1_kept : Int32 × Int32 × Int32 × Int32 × Int64 × Int64 × Int32 × Int32) (f_t_slot1_kept_before0 : Nat → Int64) (f_t_slot1_kept_before1 : Nat → Int64) (f_t_now_before0 : Nat → Int64) (f_t_now_before1 : Nat → Int64) (w_t_slot0_kept : Int32 × Int32 × Int32 × Int32 × Int64 × Int64 × Int32 × Int32) (f_t_slot0_kept_before0 : Nat → Int64) (f_t_slot0_kept_before1 : Nat → Int64) (p0 : Int32) : Option (String ⊕ (Int32 × Bool × Bool × (Int32 × Int32 × Int32 × Int32 × Int64 × Int64 × Int32 × Int32) × (Nat → Int64) × (Nat → Int64) × (Int32 × Int32 × Int32 × Int32 × Int64 × Int64 × Int32 × Int32) × (Nat → Int64) × (Nat → Int64))) := if p0 = 0 then (if p0 = 0 then ((fX0_copyFrom w_t_slot0_kept w_t_now f_t_slot0_kept_before0 f_t_slot0_kept_before1 f_t_now_before0 f_t_now_before1).bind fun r9 => some (Sum.inr ((w_t_now.2.1, true, w_t_slot1, w_t_slot1_kept, f_t_slot1_kept_before0, f_t_slot1_kept_before1, r9.1, r9.2.1, r9.2.2)))) else ((fX0_copyFrom w_t_slot1_kept w_t_now f_t_slot1_kept_before0 f_t_slot1_kept_before1 f_t_now_before0 f_t_now_before1).bind fun r3 => some (Sum.inr ((w_t_now.2.1, w_t_slot0, true, r3.1, r3.2.1, r3.2.2, w_t_slot0_kept, f_t_slot0_kept_before0, f_t_slot0_kept_before1))))) else (if p0 = 1 then (if p0 = 0 then ((fX0_copyFrom w_t_slot0_kept w_t_now f_t_slot0_kept_before0 f_t_slot0_kept_before1 f_t_now_before0 f_t_now_before1).bind fun r23 => some (Sum.inr ((w_t_now.2.1, true, w_t_slot1, w_t_slot1_kept, f_t_slot1_kept_before0, f_t_slot1_kept_before1, r23.1, r23.2.1, r23.2.2)))) else ((fX0_copyFrom w_t_slot1_kept w_t_now f_t_slot1_kept_before0 f_t_slot1_kept_before1 f_t_now_before0 f_t_now_before1).bind fun r17 => some (Sum.inr ((w_t_now.2.1, w_t_slot0, true, r17.1, r17.2.1, r17.2.2, w_t_slot0_kept, f_t_slot0_kept_before0, f_t_slot0_kept_before1))))) else (some (Sum.inl "java/lang/IndexOutOfBoundsException")))
set_option maxHeartbeats 4000000 in
set_option maxRecDepth 100000 in
theorem c_X7_save {l : Launch} {z : Nat} {D : va_G} {K : Nat → ClassId} {σ : mwm} {a_t a_t_text a_t_now a_t_copy a_t_memory a_t_slot0 a_t_slot1 a_t_slot1_kept a_t_slot1_kept_before0 a_t_slot1_kept_before1 a_t_slot1_kept_grid a_t_now_before0 a_t_now_before1 a_t_now_grid a_t_slot0_kept a_t_slot0_kept_before0 a_t_slot0_kept_before1 a_t_slot0_kept_grid : Nat} {w_t_now : Int32 × Int32 × Int32 × Int32 × Int64 × Int64 × Int32 × Int32} {w_t_slot0 : Bool} {w_t_slot1 : Bool} {w_t_slot1_kept : Int32 × Int32 × Int32 × Int32 × Int64 × Int64 × Int32 × Int32} {f_t_slot1_kept_before0 : Nat → Int64} {f_t_slot1_kept_before1 : Nat → Int64} {f_t_now_before0 : Nat → Int64} {f_t_now_before1 : Nat → Int64} {w_t_slot0_kept : Int32 × Int32 × Int32 × Int32 × Int64 × Int64 × Int32 × Int32} {f_t_slot0_kept_before0 : Nat → Int64} {f_t_slot0_kept_before1 : Nat → Int64} {p0 : Int32} (hc_t : σ a_t = some (cl5 a_t_text a_t_now a_t_copy a_t_memory a_t_slot0 a_t_slot1)) (hc_t_now : σ a_t_now = some (cl0 a_t_now_before0 a_t_now_before1 a_t_now_grid w_t_now)) (hc_t_slot0 : σ a_t_slot0 = some (cl4 a_t_slot0_kept w_t_slot0)) (hc_t_slot1 : σ a_t_slot1 = some (cl4 a_t_slot1_kept w_t_slot1)) (hc_t_slot1_kept : σ a_t_slot1_kept = some (cl0 a_t_slot1_kept_before0 a_t_slot1_kept_before1 a_t_slot1_kept_grid w_t_slot1_kept)) (hc_t_slot1_kept_before0 : σ a_t_slot1_kept_before0 = some (eJ K 121 f_t_slot1_kept_before0)) (hc_t_slot1_kept_before1 : σ a_t_slot1_kept_before1 = some (eJ K 121 f_t_slot1_kept_before1)) (hc_t_now_before0 : σ a_t_now_before0 = some (eJ K 121 f_t_now_before0)) (hc_t_now_before1 : σ a_t_now_before1 = some (eJ K 121 f_t_now_before1)) (hc_t_slot0_kept : σ a_t_slot0_kept = some (cl0 a_t_slot0_kept_before0 a_t_slot0_kept_before1 a_t_slot0_kept_grid w_t_slot0_kept)) (hc_t_slot0_kept_before0 : σ a_t_slot0_kept_before0 = some (eJ K 121 f_t_slot0_kept_before0)) (hc_t_slot0_kept_before1 : σ a_t_slot0_kept_before1 = some (eJ K 121 f_t_slot0_kept_before1)) (n_t_t_slot0 : a_t ≠ a_t_slot0) (n_t_t_slot0_kept : a_t ≠ a_t_slot0_kept) (n_t_t_slot0_kept_before0 : a_t ≠ a_t_slot0_kept_before0) (n_t_t_slot0_kept_before1 : a_t ≠ a_t_slot0_kept_before1) (n_t_t_slot1 : a_t ≠ a_t_slot1) (n_t_t_slot1_kept : a_t ≠ a_t_slot1_kept) (n_t_t_slot1_kept_before0 : a_t ≠ a_t_slot1_kept_before0) (n_t_t_slot1_kept_before1 : a_t ≠ a_t_slot1_kept_before1) (n_t_now_t_slot0 : a_t_now ≠ a_t_slot0) (n_t_now_t_slot0_kept : a_t_now ≠ a_t_slot0_kept) (n_t_now_t_slot0_kept_before0 : a_t_now ≠ a_t_slot0_kept_before0) (n_t_now_t_slot0_kept_before1 : a_t_now ≠ a_t_slot0_kept_before1) (n_t_now_t_slot1 : a_t_now ≠ a_t_slot1) (n_t_now_t_slot1_kept : a_t_now ≠ a_t_slot1_kept) (n_t_now_t_slot1_kept_before0 : a_t_now ≠ a_t_slot1_kept_before0) (n_t_now_t_slot1_kept_before1 : a_t_now ≠ a_t_slot1_kept_before1) (n_t_now_before0_t_slot0_kept : a_t_now_before0 ≠ a_t_slot0_kept) (n_t_now_before0_t_slot0_kept_before0 : a_t_now_before0 ≠ a_t_slot0_kept_before0) (n_t_now_before0_t_slot0_kept_before1 : a_t_now_before0 ≠ a_t_slot0_kept_before1) (n_t_now_before0_t_slot1_kept : a_t_now_before0 ≠ a_t_slot1_kept) (n_t_now_before0_t_slot1_kept_before0 : a_t_now_before0 ≠ a_t_slot1_kept_before0) (n_t_now_before0_t_slot1_kept_before1 : a_t_now_before0 ≠ a_t_slot1_kept_before1) (n_t_now_before1_t_slot0_kept : a_t_now_before1 ≠ a_t_slot0_kept) (n_t_now_before1_t_slot0_kept_before0 : a_t_now_before1 ≠ a_t_slot0_kept_before0) (n_t_now_before1_t_slot0_kept_before1 : a_t_now_before1 ≠ a_t_slot0_kept_before1) (n_t_now_before1_t_slot1_kept : a_t_now_before1 ≠ a_t_slot1_kept) (n_t_now_before1_t_slot1_kept_before0 : a_t_now_before1 ≠ a_t_slot1_kept_before0) (n_t_now_before1_t_slot1_kept_before1 : a_t_now_before1 ≠ a_t_slot1_kept_before1) (n_t_slot0_t_slot0_kept : a_t_slot0 ≠ a_t_slot0_kept) (n_t_slot0_t_slot0_kept_before0 : a_t_slot0 ≠ a_t_slot0_kept_before0) (n_t_slot0_t_slot0_kept_before1 : a_t_slot0 ≠ a_t_slot0_kept_before1) (n_t_slot0_t_slot1 : a_t_slot0 ≠ a_t_slot1) (n_t_slot0_t_slot1_kept : a_t_slot0 ≠ a_t_slot1_kept) (n_t_slot0_t_slot1_kept_before0 : a_t_slot0 ≠ a_t_slot1_kept_before0) (n_t_slot0_t_slot1_kept_before1 : a_t_slot0 ≠ a_t_slot1_kept_before1) (n_t_slot0_kept_t_slot0_kept_before0 : a_t_slot0_kept ≠ a_t_slot0_kept_before0) (n_t_slot0_kept_t_slot0_kept_before1 : a_t_slot0_kept ≠ a_t_slot0_kept_before1) (n_t_slot0_kept_t_slot1 : a_t_slot0_kept ≠ a_t_slot1) (n_t_slot0_kept_t_slot1_kept : a_t_slot0_kept ≠ a_t_slot1_kept) (n_t_slot0_kept_t_slot1_kept_before0 : a_t_slot0_kept ≠ a_t_slot1_kept_before0) (n_t_slot0_kept_t_slot1_kept_before1 : a_t_slot0_kept ≠ a_t_slot1_kept_before1) (n_t_slot0_kept_before0_t_slot0_kept_before1 : a_t_slot0_kept_before0 ≠ a_t_slot0_kept_before1) (n_t_slot0_kept_before0_t_slot1 : a_t_slot0_kept_before0 ≠ a_t_slot1) (n_t_slot0_kept_before0_t_slot1_kept : a_t_slot0_kept_before0 ≠ a_t_slot1_kept) (n_t_slot0_kept_before0_t_slot1_kept_before0 : a_t_slot0_kept_before0 ≠ a_t_slot1_kept_before0) (n_t_slot0_kept_before0_t_slot1_kept_before1 : a_t_slot0_kept_before0 ≠ a_t_slot1_kept_before1) (n_t_slot0_kept_before1_t_slot1 : a_t_slot0_kept_before1 ≠ a_t_slot1) (n_t_slot0_kept_before1_t_slot1_kept : a_t_slot0_kept_before1 ≠ a_t_slot1_kept) (n_t_slot0_kept_before1_t_slot1_kept_before0 : a_t_slot0_kept_before1 ≠ a_t_slot1_kept_before0) (n_t_slot0_kept_before1_t_slot1_kept_before1 : a_t_slot0_kept_before1 ≠ a_t_slot1_kept_before1) (n_t_slot1_t_slot1_kept : a_t_slot1 ≠ a_t_slot1_kept) (n_t_slot1_t_slot1_kept_before0 : a_t_slot1 ≠ a_t_slot1_kept_before0) (n_t_slot1_t_slot1_kept_before1 : a_t_slot1 ≠ a_t_slot1_kept_before1) (n_t_slot1_kept_t_slot1_kept_before0 : a_t_slot1_kept ≠ a_t_slot1_kept_before0) (n_t_slot1_kept_t_slot1_kept_before1 : a_t_slot1_kept ≠ a_t_slot1_kept_before1) (n_t_slot1_kept_before0_t_slot1_kept_before1 : a_t_slot1_kept_before0 ≠ a_t_slot1_kept_before1) (hlt : l.stackTraces = false) {v : String ⊕ (Int32 × Bool × Bool × (Int32 × Int32 × Int32 × Int32 × Int64 × Int64 × Int32 × Int32) × (Nat → Int64) × (Nat → Int64) × (Int32 × Int32 × Int32 × Int32 × Int64 × Int64 × Int32 × Int32) × (Nat → Int64) × (Nat → Int64))} (h : fX7_save w_t_now w_t_slot0 w_t_slot1 w_t_slot1_kept f_t_slot1_kept_before0 f_t_slot1_kept_before1 f_t_now_before0 f_t_now_before1 w_t_slot0_kept f_t_slot0_kept_before0 f_t_slot0_kept_before1 p0 = some v) : vx_Met l yX7_save wsX7_save ({ frames := 6, cells := 1, slots := 6, locals := 99 } : Room) (PCx z D K [.ref a_t, .int p0] σ) (qwI z D (fun r σ2 => ∃ w9 : Int32 × Bool × Bool × (Int32 × Int32 × Int32 × Int32 × Int64 × Int64 × Int32 × Int32) × (Nat → Int64) × (Nat → Int64) × (Int32 × Int32 × Int32 × Int32 × Int64 × Int64 × Int32 × Int32) × (Nat → Int64) × (Nat → Int64), v = Sum.inr w9 ∧ r = w9.1 ∧ σ2 a_t_slot0 = some (cl4 a_t_slot0_kept w9.2.1) ∧ σ2 a_t_slot1 = some (cl4 a_t_slot1_kept w9.2.2.1) ∧ σ2 a_t_slot1_kept = some (cl0 a_t_slot1_kept_before0 a_t_slot1_kept_before1 (if p0 = 0 then a_t_slot1_kept_grid else a_t_now_grid) w9.2.2.2.1) ∧ σ2 a_t_slot1_kept_before0 = some (eJ K 121 w9.2.2.2.2.1) ∧ σ2 a_t_slot1_kept_before1 = some (eJ K 121 w9.2.2.2.2.2.1) ∧ σ2 a_t_slot0_kept = some (cl0 a_t_slot0_kept_before0 a_t_slot0_kept_before1 (if p0 = 0 then a_t_now_grid else a_t_slot0_kept_grid) w9.2.2.2.2.2.2.1) ∧ σ2 a_t_slot0_kept_before0 = some (eJ K 121 w9.2.2.2.2.2.2.2.1) ∧ σ2 a_t_slot0_kept_before1 = some (eJ K 121 w9.2.2.2.2.2.2.2.2) ∧ ∀ (q : Nat) (f : va_E), σ q = some f → q ≠ a_t_slot0 → q ≠ a_t_slot1 → q ≠ a_t_slot1_kept → q ≠ a_t_slot1_kept_before0 → q ≠ a_t_slot1_kept_before1 → q ≠ a_t_slot0_kept → q ≠ a_t_slot0_kept_before0 → q ≠ a_t_slot0_kept_before1 → σ2 q = some f)) (XQ z D σ v) 1 6 (zA z) := by
  refine mx_enter (cc := cX7_save) (maxL := 3) (ret := (some .int)) (own := RX7) (lv := [(0, .ref a_t), (1, .int p0)]) (by decide) rfl rfl (Nat.le_of_ble_eq_true rfl) rfl ?_
  intro p e s m below meth c ls hC hx hb hown hts hK hr hlocks hnm hz hM hS hl hX hex
  unfold fX7_save at h
  refine lv_iload_n hx hb dX7_save_0 rfl (lv_at hl 1 rfl) ?_
  refine lv_if_eq (tgt := 20) hx hb dX7_save_1 (by decide) (fun c1 => ?_) (fun c1 => ?_)
  · replace h := it_pos c1 h
    refine lv_iload_n hx hb dX7_save_20 rfl (lv_at hl 1 rfl) ?_
    refine lv_if_ne (tgt := 31) hx hb dX7_save_21 (by decide) (fun c2 => ?_) (fun c2 => ?_)
    · replace h := it_neg c2 h
      refine lv_aload_n hx hb dX7_save_31 rfl (lv_at hl 0 rfl) ?_
      refine mw_get (ci := 5) (C := RX7) (T := TX7) (N := 6) (v := .ref a_t_slot1) hC i_X7_save_X7 hM hc_t rfl 5 (by decide) l_X7_save_0 rfl rfl dX7_save_32 ?_
      refine lv_astore_n (lv' := [(2, .ref a_t_slot1), (0, .ref a_t), (1, .int p0)]) hx hb dX7_save_35 rfl hl (by decide) rfl (fun ls hl => ?_)
      refine lv_aload_n hx hb dX7_save_36 rfl (lv_at hl 0 rfl) ?_
      refine mw_getN (ci := 4) (C := RX6) (T := TX6) (N := 2) (v := .ref a_t_slot1_kept) hC i_X7_save_X6 hM hc_t_slot1 rfl 0 (by decide) (nx_RX7_275 hC.2.2.2) rfl rfl dX7_save_37 ?_
      refine lv_aload_n hx hb dX7_save_40 rfl (lv_at hl 1 rfl) ?_
      refine mw_get (ci := 5) (C := RX7) (T := TX7) (N := 6) (v := .ref a_t_now) hC i_X7_save_X7 hM hc_t rfl 1 (by decide) l_X7_save_3 rfl rfl dX7_save_41 ?_
      obtain ⟨r3, hr3, h⟩ := ob_some h
      refine mw_wv (mw_runV (As := [.ref a_t_now]) (rest := []) (ci := 0) (C := RX0) (T := TX0) (N := 11) hC hM hS hc_t_slot1_kept rfl (c_X0_copyFrom (a_t := a_t_slot1_kept) (a_p0 := a_t_now) (a_t_before0 := a_t_slot1_kept_before0) (a_t_before1 := a_t_slot1_kept_before1) (a_t_grid := a_t_slot1_kept_grid) (a_p0_before0 := a_t_now_before0) (a_p0_before1 := a_t_now_before1) (a_p0_grid := a_t_now_grid) (w_t := w_t_slot1_kept) (w_p0 := w_t_now) (f_t_before0 := f_t_slot1_kept_before0) (f_t_before1 := f_t_slot1_kept_before1) (f_p0_before0 := f_t_now_before0) (f_p0_before1 := f_t_now_before1) (hc_t := hc_t_slot1_kept) (hc_p0 := hc_t_now) (hc_t_before0 := hc_t_slot1_kept_before0) (hc_t_before1 := hc_t_slot1_kept_before1) (hc_p0_before0 := hc_t_now_before0) (hc_p0_before1 := hc_t_now_before1) (n_p0_t := n_t_now_t_slot1_kept) (n_p0_t_before0 := n_t_now_t_slot1_kept_before0) (n_p0_t_before1 := n_t_now_t_slot1_kept_before1) (n_p0_before0_t := n_t_now_before0_t_slot1_kept) (n_p0_before0_t_before0 := n_t_now_before0_t_slot1_kept_before0) (n_p0_before0_t_before1 := n_t_now_before0_t_slot1_kept_before1) (n_p0_before1_t := n_t_now_before1_t_slot1_kept) (n_p0_before1_t_before0 := n_t_now_before1_t_slot1_kept_before0) (n_p0_before1_t_before1 := n_t_now_before1_t_slot1_kept_before1) (n_t_t_before0 := n_t_slot1_kept_t_slot1_kept_before0) (n_t_t_before1 := n_t_slot1_kept_t_slot1_kept_before1) (n_t_before0_t_before1 := n_t_slot1_kept_before0_t_slot1_kept_before1) (v := r3) hr3) gX7_save_X0_copyFrom rfl rfl rfl rfl q_X0_copyFrom ⟨Nat.le_of_ble_eq_true rfl, Nat.le_of_ble_eq_true rfl⟩ rfl rfl (Nat.le_of_ble_eq_true rfl) hl.1 dX7_save_44 ⟨Nat.le_of_ble_eq_true rfl, Nat.le_of_ble_eq_true rfl⟩) hS (fun H locs σ1 hp5 hM hS => ?_)
      obtain ⟨hc_t_slot1_kept, hc_t_slot1_kept_before0, hc_t_slot1_kept_before1, ho4⟩ := hp5
      replace hc_t_slot0 := ho4 a_t_slot0 _ hc_t_slot0 n_t_slot0_t_slot1_kept n_t_slot0_t_slot1_kept_before0 n_t_slot0_t_slot1_kept_before1
      replace hc_t_slot1 := ho4 a_t_slot1 _ hc_t_slot1 n_t_slot1_t_slot1_kept n_t_slot1_t_slot1_kept_before0 n_t_slot1_t_slot1_kept_before1
      replace hc_t_slot0_kept := ho4 a_t_slot0_kept _ hc_t_slot0_kept n_t_slot0_kept_t_slot1_kept n_t_slot0_kept_t_slot1_kept_before0 n_t_slot0_kept_t_slot1_kept_before1
      replace hc_t_slot0_kept_before0 := ho4 a_t_slot0_kept_before0 _ hc_t_slot0_kept_before0 n_t_slot0_kept_before0_t_slot1_kept n_t_slot0_kept_before0_t_slot1_kept_before0 n_t_slot0_kept_before0_t_slot1_kept_before1
      replace hc_t_slot0_kept_before1 := ho4 a_t_slot0_kept_before1 _ hc_t_slot0_kept_before1 n_t_slot0_kept_before1_t_slot1_kept n_t_slot0_kept_before1_t_slot1_kept_before0 n_t_slot0_kept_before1_t_slot1_kept_before1
      have hf6 := fun (q : Nat) (f : va_E) (hf : σ q = some f) (n0 : q ≠ a_t_slot0) (n1 : q ≠ a_t_slot1) (n2 : q ≠ a_t_slot1_kept) (n3 : q ≠ a_t_slot1_kept_before0) (n4 : q ≠ a_t_slot1_kept_before1) (n5 : q ≠ a_t_slot0_kept) (n6 : q ≠ a_t_slot0_kept_before0) (n7 : q ≠ a_t_slot0_kept_before1) => ho4 q f hf n2 n3 n4
      refine lv_aload_n hx hb dX7_save_47 rfl (lv_at hl 0 rfl) ?_
      refine lv_iconst (v := 1) hx hb dX7_save_48 (by decide) ?_
      refine mw_putN (ci := 4) (C := RX6) (T := TX6) (N := 2) (ty := .boolean) hC i_X7_save_X6 tyX6 tyX6_ok nmX6 hM hS hc_t_slot1 rfl 1 (by decide) (nx_RX7_114 hC.2.2.2) rfl rfl (by decide +kernel) (by decide +kernel) (by decide +kernel) (Nat.le_of_ble_eq_true rfl) dX7_save_49 (fun H locs σ1 hM hS hc_t_slot1 ho7 => ?_)
      replace hc_t_slot1 : σ1 a_t_slot1 = some (cl4 a_t_slot1_kept true) := hc_t_slot1
      replace hc_t_slot0 := ho7 a_t_slot0 _ hc_t_slot0 n_t_slot0_t_slot1
      replace hc_t_slot1_kept := ho7 a_t_slot1_kept _ hc_t_slot1_kept (Ne.symm n_t_slot1_t_slot1_kept)
      replace hc_t_slot1_kept_before0 := ho7 a_t_slot1_kept_before0 _ hc_t_slot1_kept_before0 (Ne.symm n_t_slot1_t_slot1_kept_before0)
      replace hc_t_slot1_kept_before1 := ho7 a_t_slot1_kept_before1 _ hc_t_slot1_kept_before1 (Ne.symm n_t_slot1_t_slot1_kept_before1)
      replace hc_t_slot0_kept := ho7 a_t_slot0_kept _ hc_t_slot0_kept n_t_slot0_kept_t_slot1
      replace hc_t_slot0_kept_before0 := ho7 a_t_slot0_kept_before0 _ hc_t_slot0_kept_before0 n_t_slot0_kept_before0_t_slot1
      replace hc_t_slot0_kept_before1 := ho7 a_t_slot0_kept_before1 _ hc_t_slot0_kept_before1 n_t_slot0_kept_before1_t_slot1
      have hf8 := fun (q : Nat) (f : va_E) (hf : σ q = some f) (n0 : q ≠ a_t_slot0) (n1 : q ≠ a_t_slot1) (n2 : q ≠ a_t_slot1_kept) (n3 : q ≠ a_t_slot1_kept_before0) (n4 : q ≠ a_t_slot1_kept_before1) (n5 : q ≠ a_t_slot0_kept) (n6 : q ≠ a_t_slot0_kept_before0) (n7 : q ≠ a_t_slot0_kept_before1) => ho7 q f (hf6 q f hf n0 n1 n2 n3 n4 n5 n6 n7) n1
      refine lv_aload_n hx hb dX7_save_52 rfl (lv_at hl 1 rfl) ?_
      refine mw_get (ci := 5) (C := RX7) (T := TX7) (N := 6) (v := .ref a_t_now) hC i_X7_save_X7 hM (hf8 a_t _ hc_t n_t_t_slot0 n_t_t_slot1 n_t_t_slot1_kept n_t_t_slot1_kept_before0 n_t_t_slot1_kept_before1 n_t_t_slot0_kept n_t_t_slot0_kept_before0 n_t_t_slot0_kept_before1) rfl 1 (by decide) l_X7_save_3 rfl rfl dX7_save_53 ?_
      refine mw_getN (ci := 0) (C := RX0) (T := TX0) (N := 11) (v := .int w_t_now.2.1) hC i_X7_save_X0 hM (hf8 a_t_now _ hc_t_now n_t_now_t_slot0 n_t_now_t_slot1 n_t_now_t_slot1_kept n_t_now_t_slot1_kept_before0 n_t_now_t_slot1_kept_before1 n_t_now_t_slot0_kept n_t_now_t_slot0_kept_before0 n_t_now_t_slot0_kept_before1) rfl 4 (by decide) (nx_RX7_124 hC.2.2.2) rfl rfl dX7_save_56 ?_
      cases h
      replace hc_t_slot0_kept : σ1 a_t_slot0_kept = some (cl0 a_t_slot0_kept_before0 a_t_slot0_kept_before1 (if p0 = 0 then a_t_now_grid else a_t_slot0_kept_grid) w_t_slot0_kept) := by
        first | (rw [if_pos (by assumption)]; exact hc_t_slot0_kept) | (rw [if_neg (by assumption)]; exact hc_t_slot0_kept) | (rw [if_neg (by decide)]; exact hc_t_slot0_kept) | (rw [if_pos (by decide)]; exact hc_t_slot0_kept)
      replace hc_t_slot1_kept : σ1 a_t_slot1_kept = some (cl0 a_t_slot1_kept_before0 a_t_slot1_kept_before1 (if p0 = 0 then a_t_slot1_kept_grid else a_t_now_grid) r3.1) := by
        first | (rw [if_pos (by assumption)]; exact hc_t_slot1_kept) | (rw [if_neg (by assumption)]; exact hc_t_slot1_kept) | (rw [if_neg (by decide)]; exact hc_t_slot1_kept) | (rw [if_pos (by decide)]; exact hc_t_slot1_kept)
      refine W.widen (k := 1) (n := 6) (by decide) (by decide) ?_
      exact vx_ret (W.iret hx hb hr (fun t ht hW => ⟨⟨_, _, rfl, ⟨_, rfl, rfl, hc_t_slot0, hc_t_slot1, hc_t_slot1_kept, hc_t_slot1_kept_before0, hc_t_slot1_kept_before1, hc_t_slot0_kept, hc_t_slot0_kept_before0, hc_t_slot0_kept_before1, hf8⟩, by show MW z D _ t.heap; rw [ht]; exact hM⟩, hS.F ht⟩) hS.2.2 dX7_save_59 hlocks)
    · replace h := it_pos c2 h
      refine lv_aload_n hx hb dX7_save_24 rfl (lv_at hl 0 rfl) ?_
      refine mw_get (ci := 5) (C := RX7) (T := TX7) (N := 6) (v := .ref a_t_slot0) hC i_X7_save_X7 hM hc_t rfl 4 (by decide) l_X7_save_5 rfl rfl dX7_save_25 ?_
      refine lv_goto (tgt := 35) hx hb dX7_save_28 (by decide) ?_
      refine lv_astore_n (lv' := [(2, .ref a_t_slot0), (0, .ref a_t), (1, .int p0)]) hx hb dX7_save_35 rfl hl (by decide) rfl (fun ls hl => ?_)
      refine lv_aload_n hx hb dX7_save_36 rfl (lv_at hl 0 rfl) ?_
      refine mw_getN (ci := 4) (C := RX6) (T := TX6) (N := 2) (v := .ref a_t_slot0_kept) hC i_X7_save_X6 hM hc_t_slot0 rfl 0 (by decide) (nx_RX7_275 hC.2.2.2) rfl rfl dX7_save_37 ?_
      refine lv_aload_n hx hb dX7_save_40 rfl (lv_at hl 1 rfl) ?_
      refine mw_get (ci := 5) (C := RX7) (T := TX7) (N := 6) (v := .ref a_t_now) hC i_X7_save_X7 hM hc_t rfl 1 (by decide) l_X7_save_3 rfl rfl dX7_save_41 ?_
      obtain ⟨r9, hr9, h⟩ := ob_some h
      refine mw_wv (mw_runV (As := [.ref a_t_now]) (rest := []) (ci := 0) (C := RX0) (T := TX0) (N := 11) hC hM hS hc_t_slot0_kept rfl (c_X0_copyFrom (a_t := a_t_slot0_kept) (a_p0 := a_t_now) (a_t_before0 := a_t_slot0_kept_before0) (a_t_before1 := a_t_slot0_kept_before1) (a_t_grid := a_t_slot0_kept_grid) (a_p0_before0 := a_t_now_before0) (a_p0_before1 := a_t_now_before1) (a_p0_grid := a_t_now_grid) (w_t := w_t_slot0_kept) (w_p0 := w_t_now) (f_t_before0 := f_t_slot0_kept_before0) (f_t_before1 := f_t_slot0_kept_before1) (f_p0_before0 := f_t_now_before0) (f_p0_before1 := f_t_now_before1) (hc_t := hc_t_slot0_kept) (hc_p0 := hc_t_now) (hc_t_before0 := hc_t_slot0_kept_before0) (hc_t_before1 := hc_t_slot0_kept_before1) (hc_p0_before0 := hc_t_now_before0) (hc_p0_before1 := hc_t_now_before1) (n_p0_t := n_t_now_t_slot0_kept) (n_p0_t_before0 := n_t_now_t_slot0_kept_before0) (n_p0_t_before1 := n_t_now_t_slot0_kept_before1) (n_p0_before0_t := n_t_now_before0_t_slot0_kept) (n_p0_before0_t_before0 := n_t_now_before0_t_slot0_kept_before0) (n_p0_before0_t_before1 := n_t_now_before0_t_slot0_kept_before1) (n_p0_before1_t := n_t_now_before1_t_slot0_kept) (n_p0_before1_t_before0 := n_t_now_before1_t_slot0_kept_before0) (n_p0_before1_t_before1 := n_t_now_before1_t_slot0_kept_before1) (n_t_t_before0 := n_t_slot0_kept_t_slot0_kept_before0) (n_t_t_before1 := n_t_slot0_kept_t_slot0_kept_before1) (n_t_before0_t_before1 := n_t_slot0_kept_before0_t_slot0_kept_before1) (v := r9) hr9) gX7_save_X0_copyFrom rfl rfl rfl rfl q_X0_copyFrom ⟨Nat.le_of_ble_eq_true rfl, Nat.le_of_ble_eq_true rfl⟩ rfl rfl (Nat.le_of_ble_eq_true rfl) hl.1 dX7_save_44 ⟨Nat.le_of_ble_eq_true rfl, Nat.le_of_ble_eq_true rfl⟩) hS (fun H locs σ1 hp11 hM hS => ?_)
      obtain ⟨hc_t_slot0_kept, hc_t_slot0_kept_before0, hc_t_slot0_kept_before1, ho10⟩ := hp11
      replace hc_t_slot0 := ho10 a_t_slot0 _ hc_t_slot0 n_t_slot0_t_slot0_kept n_t_slot0_t_slot0_kept_before0 n_t_slot0_t_slot0_kept_before1
      replace hc_t_slot1 := ho10 a_t_slot1 _ hc_t_slot1 (Ne.symm n_t_slot0_kept_t_slot1) (Ne.symm n_t_slot0_kept_before0_t_slot1) (Ne.symm n_t_slot0_kept_before1_t_slot1)
      replace hc_t_slot1_kept := ho10 a_t_slot1_kept _ hc_t_slot1_kept (Ne.symm n_t_slot0_kept_t_slot1_kept) (Ne.symm n_t_slot0_kept_before0_t_slot1_kept) (Ne.symm n_t_slot0_kept_before1_t_slot1_kept)
      replace hc_t_slot1_kept_before0 := ho10 a_t_slot1_kept_before0 _ hc_t_slot1_kept_before0 (Ne.symm n_t_slot0_kept_t_slot1_kept_before0) (Ne.symm n_t_slot0_kept_before0_t_slot1_kept_before0) (Ne.symm n_t_slot0_kept_before1_t_slot1_kept_before0)
      replace hc_t_slot1_kept_before1 := ho10 a_t_slot1_kept_before1 _ hc_t_slot1_kept_before1 (Ne.symm n_t_slot0_kept_t_slot1_kept_before1) (Ne.symm n_t_slot0_kept_before0_t_slot1_kept_before1) (Ne.symm n_t_slot0_kept_before1_t_slot1_kept_before1)
      have hf12 := fun (q : Nat) (f : va_E) (hf : σ q = some f) (n0 : q ≠ a_t_slot0) (n1 : q ≠ a_t_slot1) (n2 : q ≠ a_t_slot1_kept) (n3 : q ≠ a_t_slot1_kept_before0) (n4 : q ≠ a_t_slot1_kept_before1) (n5 : q ≠ a_t_slot0_kept) (n6 : q ≠ a_t_slot0_kept_before0) (n7 : q ≠ a_t_slot0_kept_before1) => ho10 q f hf n5 n6 n7
      refine lv_aload_n hx hb dX7_save_47 rfl (lv_at hl 0 rfl) ?_
      refine lv_iconst (v := 1) hx hb dX7_save_48 (by decide) ?_
      refine mw_putN (ci := 4) (C := RX6) (T := TX6) (N := 2) (ty := .boolean) hC i_X7_save_X6 tyX6 tyX6_ok nmX6 hM hS hc_t_slot0 rfl 1 (by decide) (nx_RX7_114 hC.2.2.2) rfl rfl (by decide +kernel) (by decide +kernel) (by decide +kernel) (Nat.le_of_ble_eq_true rfl) dX7_save_49 (fun H locs σ1 hM hS hc_t_slot0 ho13 => ?_)
      replace hc_t_slot0 : σ1 a_t_slot0 = some (cl4 a_t_slot0_kept true) := hc_t_slot0
      replace hc_t_slot1 := ho13 a_t_slot1 _ hc_t_slot1 (Ne.symm n_t_slot0_t_slot1)
      replace hc_t_slot1_kept := ho13 a_t_slot1_kept _ hc_t_slot1_kept (Ne.symm n_t_slot0_t_slot1_kept)
      replace hc_t_slot1_kept_before0 := ho13 a_t_slot1_kept_before0 _ hc_t_slot1_kept_before0 (Ne.symm n_t_slot0_t_slot1_kept_before0)
      replace hc_t_slot1_kept_before1 := ho13 a_t_slot1_kept_before1 _ hc_t_slot1_kept_before1 (Ne.symm n_t_slot0_t_slot1_kept_before1)
      replace hc_t_slot0_kept := ho13 a_t_slot0_kept _ hc_t_slot0_kept (Ne.symm n_t_slot0_t_slot0_kept)
      replace hc_t_slot0_kept_before0 := ho13 a_t_slot0_kept_before0 _ hc_t_slot0_kept_before0 (Ne.symm n_t_slot0_t_slot0_kept_before0)
      replace hc_t_slot0_kept_before1 := ho13 a_t_slot0_kept_before1 _ hc_t_slot0_kept_before1 (Ne.symm n_t_slot0_t_slot0_kept_before1)
      have hf14 := fun (q : Nat) (f : va_E) (hf : σ q = some f) (n0 : q ≠ a_t_slot0) (n1 : q ≠ a_t_slot1) (n2 : q ≠ a_t_slot1_kept) (n3 : q ≠ a_t_slot1_kept_before0) (n4 : q ≠ a_t_slot1_kept_before1) (n5 : q ≠ a_t_slot0_kept) (n6 : q ≠ a_t_slot0_kept_before0) (n7 : q ≠ a_t_slot0_kept_before1) => ho13 q f (hf12 q f hf n0 n1 n2 n3 n4 n5 n6 n7) n0
      refine lv_aload_n hx hb dX7_save_52 rfl (lv_at hl 1 rfl) ?_
      refine mw_get (ci := 5) (C := RX7) (T := TX7) (N := 6) (v := .ref a_t_now) hC i_X7_save_X7 hM (hf14 a_t _ hc_t n_t_t_slot0 n_t_t_slot1 n_t_t_slot1_kept n_t_t_slot1_kept_before0 n_t_t_slot1_kept_before1 n_t_t_slot0_kept n_t_t_slot0_kept_before0 n_t_t_slot0_kept_before1) rfl 1 (by decide) l_X7_save_3 rfl rfl dX7_save_53 ?_
      refine mw_getN (ci := 0) (C := RX0) (T := TX0) (N := 11) (v := .int w_t_now.2.1) hC i_X7_save_X0 hM (hf14 a_t_now _ hc_t_now n_t_now_t_slot0 n_t_now_t_slot1 n_t_now_t_slot1_kept n_t_now_t_slot1_kept_before0 n_t_now_t_slot1_kept_before1 n_t_now_t_slot0_kept n_t_now_t_slot0_kept_before0 n_t_now_t_slot0_kept_before1) rfl 4 (by decide) (nx_RX7_124 hC.2.2.2) rfl rfl dX7_save_56 ?_
      cases h
      replace hc_t_slot0_kept : σ1 a_t_slot0_kept = some (cl0 a_t_slot0_kept_before0 a_t_slot0_kept_before1 (if p0 = 0 then a_t_now_grid else a_t_slot0_kept_grid) r9.1) := by
        first | (rw [if_pos (by assumption)]; exact hc_t_slot0_kept) | (rw [if_neg (by assumption)]; exact hc_t_slot0_kept) | (rw [if_neg (by decide)]; exact hc_t_slot0_kept) | (rw [if_pos (by decide)]; exact hc_t_slot0_kept)
      replace hc_t_slot1_kept : σ1 a_t_slot1_kept = some (cl0 a_t_slot1_kept_before0 a_t_slot1_kept_before1 (if p0 = 0 then a_t_slot1_kept_grid else a_t_now_grid) w_t_slot1_kept) := by
        first | (rw [if_pos (by assumption)]; exact hc_t_slot1_kept) | (rw [if_neg (by assumption)]; exact hc_t_slot1_kept) | (rw [if_neg (by decide)]; exact hc_t_slot1_kept) | (rw [if_pos (by decide)]; exact hc_t_slot1_kept)
      refine W.widen (k := 1) (n := 6) (by decide) (by decide) ?_
      exact vx_ret (W.iret hx hb hr (fun t ht hW => ⟨⟨_, _, rfl, ⟨_, rfl, rfl, hc_t_slot0, hc_t_slot1, hc_t_slot1_kept, hc_t_slot1_kept_before0, hc_t_slot1_kept_before1, hc_t_slot0_kept, hc_t_slot0_kept_before0, hc_t_slot0_kept_before1, hf14⟩, by show MW z D _ t.heap; rw [ht]; exact hM⟩, hS.F ht⟩) hS.2.2 dX7_save_59 hlocks)
  · replace h := it_neg c1 h
    refine lv_iload_n hx hb dX7_save_4 rfl (lv_at hl 1 rfl) ?_
    refine lv_iconst (v := 1) hx hb dX7_save_5 (by decide) ?_
    refine lv_icmp_eq (tgt := 20) hx hb dX7_save_6 (by decide) (fun c15 => ?_) (fun c15 => ?_)
    · replace h := it_pos c15 h
      refine lv_iload_n hx hb dX7_save_20 rfl (lv_at hl 1 rfl) ?_
      refine lv_if_ne (tgt := 31) hx hb dX7_save_21 (by decide) (fun c16 => ?_) (fun c16 => ?_)
      · replace h := it_neg c16 h
        refine lv_aload_n hx hb dX7_save_31 rfl (lv_at hl 0 rfl) ?_
        refine mw_get (ci := 5) (C := RX7) (T := TX7) (N := 6) (v := .ref a_t_slot1) hC i_X7_save_X7 hM hc_t rfl 5 (by decide) l_X7_save_0 rfl rfl dX7_save_32 ?_
        refine lv_astore_n (lv' := [(2, .ref a_t_slot1), (0, .ref a_t), (1, .int p0)]) hx hb dX7_save_35 rfl hl (by decide) rfl (fun ls hl => ?_)
        refine lv_aload_n hx hb dX7_save_36 rfl (lv_at hl 0 rfl) ?_
        refine mw_getN (ci := 4) (C := RX6) (T := TX6) (N := 2) (v := .ref a_t_slot1_kept) hC i_X7_save_X6 hM hc_t_slot1 rfl 0 (by decide) (nx_RX7_275 hC.2.2.2) rfl rfl dX7_save_37 ?_
        refine lv_aload_n hx hb dX7_save_40 rfl (lv_at hl 1 rfl) ?_
        refine mw_get (ci := 5) (C := RX7) (T := TX7) (N := 6) (v := .ref a_t_now) hC i_X7_save_X7 hM hc_t rfl 1 (by decide) l_X7_save_3 rfl rfl dX7_save_41 ?_
        obtain ⟨r17, hr17, h⟩ := ob_some h
        refine mw_wv (mw_runV (As := [.ref a_t_now]) (rest := []) (ci := 0) (C := RX0) (T := TX0) (N := 11) hC hM hS hc_t_slot1_kept rfl (c_X0_copyFrom (a_t := a_t_slot1_kept) (a_p0 := a_t_now) (a_t_before0 := a_t_slot1_kept_before0) (a_t_before1 := a_t_slot1_kept_before1) (a_t_grid := a_t_slot1_kept_grid) (a_p0_before0 := a_t_now_before0) (a_p0_before1 := a_t_now_before1) (a_p0_grid := a_t_now_grid) (w_t := w_t_slot1_kept) (w_p0 := w_t_now) (f_t_before0 := f_t_slot1_kept_before0) (f_t_before1 := f_t_slot1_kept_before1) (f_p0_before0 := f_t_now_before0) (f_p0_before1 := f_t_now_before1) (hc_t := hc_t_slot1_kept) (hc_p0 := hc_t_now) (hc_t_before0 := hc_t_slot1_kept_before0) (hc_t_before1 := hc_t_slot1_kept_before1) (hc_p0_before0 := hc_t_now_before0) (hc_p0_before1 := hc_t_now_before1) (n_p0_t := n_t_now_t_slot1_kept) (n_p0_t_before0 := n_t_now_t_slot1_kept_before0) (n_p0_t_before1 := n_t_now_t_slot1_kept_before1) (n_p0_before0_t := n_t_now_before0_t_slot1_kept) (n_p0_before0_t_before0 := n_t_now_before0_t_slot1_kept_before0) (n_p0_before0_t_before1 := n_t_now_before0_t_slot1_kept_before1) (n_p0_before1_t := n_t_now_before1_t_slot1_kept) (n_p0_before1_t_before0 := n_t_now_before1_t_slot1_kept_before0) (n_p0_before1_t_before1 := n_t_now_before1_t_slot1_kept_before1) (n_t_t_before0 := n_t_slot1_kept_t_slot1_kept_before0) (n_t_t_before1 := n_t_slot1_kept_t_slot1_kept_before1) (n_t_before0_t_before1 := n_t_slot1_kept_before0_t_slot1_kept_before1) (v := r17) hr17) gX7_save_X0_copyFrom rfl rfl rfl rfl q_X0_copyFrom ⟨Nat.le_of_ble_eq_true rfl, Nat.le_of_ble_eq_true rfl⟩ rfl rfl (Nat.le_of_ble_eq_true rfl) hl.1 dX7_save_44 ⟨Nat.le_of_ble_eq_true rfl, Nat.le_of_ble_eq_true rfl⟩) hS (fun H locs σ1 hp19 hM hS => ?_)
        obtain ⟨hc_t_slot1_kept, hc_t_slot1_kept_before0, hc_t_slot1_kept_before1, ho18⟩ := hp19
        replace hc_t_slot0 := ho18 a_t_slot0 _ hc_t_slot0 n_t_slot0_t_slot1_kept n_t_slot0_t_slot1_kept_before0 n_t_slot0_t_slot1_kept_before1
        replace hc_t_slot1 := ho18 a_t_slot1 _ hc_t_slot1 n_t_slot1_t_slot1_kept n_t_slot1_t_slot1_kept_before0 n_t_slot1_t_slot1_kept_before1
        replace hc_t_slot0_kept := ho18 a_t_slot0_kept _ hc_t_slot0_kept n_t_slot0_kept_t_slot1_kept n_t_slot0_kept_t_slot1_kept_before0 n_t_slot0_kept_t_slot1_kept_before1
        replace hc_t_slot0_kept_before0 := ho18 a_t_slot0_kept_before0 _ hc_t_slot0_kept_before0 n_t_slot0_kept_before0_t_slot1_kept n_t_slot0_kept_before0_t_slot1_kept_before0 n_t_slot0_kept_before0_t_slot1_kept_before1
        replace hc_t_slot0_kept_before1 := ho18 a_t_slot0_kept_before1 _ hc_t_slot0_kept_before1 n_t_slot0_kept_before1_t_slot1_kept n_t_slot0_kept_before1_t_slot1_kept_before0 n_t_slot0_kept_before1_t_slot1_kept_before1
        have hf20 := fun (q : Nat) (f : va_E) (hf : σ q = some f) (n0 : q ≠ a_t_slot0) (n1 : q ≠ a_t_slot1) (n2 : q ≠ a_t_slot1_kept) (n3 : q ≠ a_t_slot1_kept_before0) (n4 : q ≠ a_t_slot1_kept_before1) (n5 : q ≠ a_t_slot0_kept) (n6 : q ≠ a_t_slot0_kept_before0) (n7 : q ≠ a_t_slot0_kept_before1) => ho18 q f hf n2 n3 n4
        refine lv_aload_n hx hb dX7_save_47 rfl (lv_at hl 0 rfl) ?_
        refine lv_iconst (v := 1) hx hb dX7_save_48 (by decide) ?_
        refine mw_putN (ci := 4) (C := RX6) (T := TX6) (N := 2) (ty := .boolean) hC i_X7_save_X6 tyX6 tyX6_ok nmX6 hM hS hc_t_slot1 rfl 1 (by decide) (nx_RX7_114 hC.2.2.2) rfl rfl (by decide +kernel) (by decide +kernel) (by decide +kernel) (Nat.le_of_ble_eq_true rfl) dX7_save_49 (fun H locs σ1 hM hS hc_t_slot1 ho21 => ?_)
        replace hc_t_slot1 : σ1 a_t_slot1 = some (cl4 a_t_slot1_kept true) := hc_t_slot1
        replace hc_t_slot0 := ho21 a_t_slot0 _ hc_t_slot0 n_t_slot0_t_slot1
        replace hc_t_slot1_kept := ho21 a_t_slot1_kept _ hc_t_slot1_kept (Ne.symm n_t_slot1_t_slot1_kept)
        replace hc_t_slot1_kept_before0 := ho21 a_t_slot1_kept_before0 _ hc_t_slot1_kept_before0 (Ne.symm n_t_slot1_t_slot1_kept_before0)
        replace hc_t_slot1_kept_before1 := ho21 a_t_slot1_kept_before1 _ hc_t_slot1_kept_before1 (Ne.symm n_t_slot1_t_slot1_kept_before1)
        replace hc_t_slot0_kept := ho21 a_t_slot0_kept _ hc_t_slot0_kept n_t_slot0_kept_t_slot1
        replace hc_t_slot0_kept_before0 := ho21 a_t_slot0_kept_before0 _ hc_t_slot0_kept_before0 n_t_slot0_kept_before0_t_slot1
        replace hc_t_slot0_kept_before1 := ho21 a_t_slot0_kept_before1 _ hc_t_slot0_kept_before1 n_t_slot0_kept_before1_t_slot1
        have hf22 := fun (q : Nat) (f : va_E) (hf : σ q = some f) (n0 : q ≠ a_t_slot0) (n1 : q ≠ a_t_slot1) (n2 : q ≠ a_t_slot1_kept) (n3 : q ≠ a_t_slot1_kept_before0) (n4 : q ≠ a_t_slot1_kept_before1) (n5 : q ≠ a_t_slot0_kept) (n6 : q ≠ a_t_slot0_kept_before0) (n7 : q ≠ a_t_slot0_kept_before1) => ho21 q f (hf20 q f hf n0 n1 n2 n3 n4 n5 n6 n7) n1
        refine lv_aload_n hx hb dX7_save_52 rfl (lv_at hl 1 rfl) ?_
        refine mw_get (ci := 5) (C := RX7) (T := TX7) (N := 6) (v := .ref a_t_now) hC i_X7_save_X7 hM (hf22 a_t _ hc_t n_t_t_slot0 n_t_t_slot1 n_t_t_slot1_kept n_t_t_slot1_kept_before0 n_t_t_slot1_kept_before1 n_t_t_slot0_kept n_t_t_slot0_kept_before0 n_t_t_slot0_kept_before1) rfl 1 (by decide) l_X7_save_3 rfl rfl dX7_save_53 ?_
        refine mw_getN (ci := 0) (C := RX0) (T := TX0) (N := 11) (v := .int w_t_now.2.1) hC i_X7_save_X0 hM (hf22 a_t_now _ hc_t_now n_t_now_t_slot0 n_t_now_t_slot1 n_t_now_t_slot1_kept n_t_now_t_slot1_kept_before0 n_t_now_t_slot1_kept_before1 n_t_now_t_slot0_kept n_t_now_t_slot0_kept_before0 n_t_now_t_slot0_kept_before1) rfl 4 (by decide) (nx_RX7_124 hC.2.2.2) rfl rfl dX7_save_56 ?_
        cases h
        replace hc_t_slot0_kept : σ1 a_t_slot0_kept = some (cl0 a_t_slot0_kept_before0 a_t_slot0_kept_before1 (if p0 = 0 then a_t_now_grid else a_t_slot0_kept_grid) w_t_slot0_kept) := by
          first | (rw [if_pos (by assumption)]; exact hc_t_slot0_kept) | (rw [if_neg (by assumption)]; exact hc_t_slot0_kept) | (rw [if_neg (by decide)]; exact hc_t_slot0_kept) | (rw [if_pos (by decide)]; exact hc_t_slot0_kept)
        replace hc_t_slot1_kept : σ1 a_t_slot1_kept = some (cl0 a_t_slot1_kept_before0 a_t_slot1_kept_before1 (if p0 = 0 then a_t_slot1_kept_grid else a_t_now_grid) r17.1) := by
          first | (rw [if_pos (by assumption)]; exact hc_t_slot1_kept) | (rw [if_neg (by assumption)]; exact hc_t_slot1_kept) | (rw [if_neg (by decide)]; exact hc_t_slot1_kept) | (rw [if_pos (by decide)]; exact hc_t_slot1_kept)
        refine W.widen (k := 1) (n := 6) (by decide) (by decide) ?_
        exact vx_ret (W.iret hx hb hr (fun t ht hW => ⟨⟨_, _, rfl, ⟨_, rfl, rfl, hc_t_slot0, hc_t_slot1, hc_t_slot1_kept, hc_t_slot1_kept_before0, hc_t_slot1_kept_before1, hc_t_slot0_kept, hc_t_slot0_kept_before0, hc_t_slot0_kept_before1, hf22⟩, by show MW z D _ t.heap; rw [ht]; exact hM⟩, hS.F ht⟩) hS.2.2 dX7_save_59 hlocks)
      · replace h := it_pos c16 h
        refine lv_aload_n hx hb dX7_save_24 rfl (lv_at hl 0 rfl) ?_
        refine mw_get (ci := 5) (C := RX7) (T := TX7) (N := 6) (v := .ref a_t_slot0) hC i_X7_save_X7 hM hc_t rfl 4 (by decide) l_X7_save_5 rfl rfl dX7_save_25 ?_
        refine lv_goto (tgt := 35) hx hb dX7_save_28 (by decide) ?_
        refine lv_astore_n (lv' := [(2, .ref a_t_slot0), (0, .ref a_t), (1, .int p0)]) hx hb dX7_save_35 rfl hl (by decide) rfl (fun ls hl => ?_)
        refine lv_aload_n hx hb dX7_save_36 rfl (lv_at hl 0 rfl) ?_
        refine mw_getN (ci := 4) (C := RX6) (T := TX6) (N := 2) (v := .ref a_t_slot0_kept) hC i_X7_save_X6 hM hc_t_slot0 rfl 0 (by decide) (nx_RX7_275 hC.2.2.2) rfl rfl dX7_save_37 ?_
        refine lv_aload_n hx hb dX7_save_40 rfl (lv_at hl 1 rfl) ?_
        refine mw_get (ci := 5) (C := RX7) (T := TX7) (N := 6) (v := .ref a_t_now) hC i_X7_save_X7 hM hc_t rfl 1 (by decide) l_X7_save_3 rfl rfl dX7_save_41 ?_
        obtain ⟨r23, hr23, h⟩ := ob_some h
        refine mw_wv (mw_runV (As := [.ref a_t_now]) (rest := []) (ci := 0) (C := RX0) (T := TX0) (N := 11) hC hM hS hc_t_slot0_kept rfl (c_X0_copyFrom (a_t := a_t_slot0_kept) (a_p0 := a_t_now) (a_t_before0 := a_t_slot0_kept_before0) (a_t_before1 := a_t_slot0_kept_before1) (a_t_grid := a_t_slot0_kept_grid) (a_p0_before0 := a_t_now_before0) (a_p0_before1 := a_t_now_before1) (a_p0_grid := a_t_now_grid) (w_t := w_t_slot0_kept) (w_p0 := w_t_now) (f_t_before0 := f_t_slot0_kept_before0) (f_t_before1 := f_t_slot0_kept_before1) (f_p0_before0 := f_t_now_before0) (f_p0_before1 := f_t_now_before1) (hc_t := hc_t_slot0_kept) (hc_p0 := hc_t_now) (hc_t_before0 := hc_t_slot0_kept_before0) (hc_t_before1 := hc_t_slot0_kept_before1) (hc_p0_before0 := hc_t_now_before0) (hc_p0_before1 := hc_t_now_before1) (n_p0_t := n_t_now_t_slot0_kept) (n_p0_t_before0 := n_t_now_t_slot0_kept_before0) (n_p0_t_before1 := n_t_now_t_slot0_kept_before1) (n_p0_before0_t := n_t_now_before0_t_slot0_kept) (n_p0_before0_t_before0 := n_t_now_before0_t_slot0_kept_before0) (n_p0_before0_t_before1 := n_t_now_before0_t_slot0_kept_before1) (n_p0_before1_t := n_t_now_before1_t_slot0_kept) (n_p0_before1_t_before0 := n_t_now_before1_t_slot0_kept_before0) (n_p0_before1_t_before1 := n_t_now_before1_t_slot0_kept_before1) (n_t_t_before0 := n_t_slot0_kept_t_slot0_kept_before0) (n_t_t_before1 := n_t_slot0_kept_t_slot0_kept_before1) (n_t_before0_t_before1 := n_t_slot0_kept_before0_t_slot0_kept_before1) (v := r23) hr23) gX7_save_X0_copyFrom rfl rfl rfl rfl q_X0_copyFrom ⟨Nat.le_of_ble_eq_true rfl, Nat.le_of_ble_eq_true rfl⟩ rfl rfl (Nat.le_of_ble_eq_true rfl) hl.1 dX7_save_44 ⟨Nat.le_of_ble_eq_true rfl, Nat.le_of_ble_eq_true rfl⟩) hS (fun H locs σ1 hp25 hM hS => ?_)
        obtain ⟨hc_t_slot0_kept, hc_t_slot0_kept_before0, hc_t_slot0_kept_before1, ho24⟩ := hp25
        replace hc_t_slot0 := ho24 a_t_slot0 _ hc_t_slot0 n_t_slot0_t_slot0_kept n_t_slot0_t_slot0_kept_before0 n_t_slot0_t_slot0_kept_before1
        replace hc_t_slot1 := ho24 a_t_slot1 _ hc_t_slot1 (Ne.symm n_t_slot0_kept_t_slot1) (Ne.symm n_t_slot0_kept_before0_t_slot1) (Ne.symm n_t_slot0_kept_before1_t_slot1)
        replace hc_t_slot1_kept := ho24 a_t_slot1_kept _ hc_t_slot1_kept (Ne.symm n_t_slot0_kept_t_slot1_kept) (Ne.symm n_t_slot0_kept_before0_t_slot1_kept) (Ne.symm n_t_slot0_kept_before1_t_slot1_kept)
        replace hc_t_slot1_kept_before0 := ho24 a_t_slot1_kept_before0 _ hc_t_slot1_kept_before0 (Ne.symm n_t_slot0_kept_t_slot1_kept_before0) (Ne.symm n_t_slot0_kept_before0_t_slot1_kept_before0) (Ne.symm n_t_slot0_kept_before1_t_slot1_kept_before0)
        replace hc_t_slot1_kept_before1 := ho24 a_t_slot1_kept_before1 _ hc_t_slot1_kept_before1 (Ne.symm n_t_slot0_kept_t_slot1_kept_before1) (Ne.symm n_t_slot0_kept_before0_t_slot1_kept_before1) (Ne.symm n_t_slot0_kept_before1_t_slot1_kept_before1)
        have hf26 := fun (q : Nat) (f : va_E) (hf : σ q = some f) (n0 : q ≠ a_t_slot0) (n1 : q ≠ a_t_slot1) (n2 : q ≠ a_t_slot1_kept) (n3 : q ≠ a_t_slot1_kept_before0) (n4 : q ≠ a_t_slot1_kept_before1) (n5 : q ≠ a_t_slot0_kept) (n6 : q ≠ a_t_slot0_kept_before0) (n7 : q ≠ a_t_slot0_kept_before1) => ho24 q f hf n5 n6 n7
        refine lv_aload_n hx hb dX7_save_47 rfl (lv_at hl 0 rfl) ?_
        refine lv_iconst (v := 1) hx hb dX7_save_48 (by decide) ?_
        refine mw_putN (ci := 4) (C := RX6) (T := TX6) (N := 2) (ty := .boolean) hC i_X7_save_X6 tyX6 tyX6_ok nmX6 hM hS hc_t_slot0 rfl 1 (by decide) (nx_RX7_114 hC.2.2.2) rfl rfl (by decide +kernel) (by decide +kernel) (by decide +kernel) (Nat.le_of_ble_eq_true rfl) dX7_save_49 (fun H locs σ1 hM hS hc_t_slot0 ho27 => ?_)
        replace hc_t_slot0 : σ1 a_t_slot0 = some (cl4 a_t_slot0_kept true) := hc_t_slot0
        replace hc_t_slot1 := ho27 a_t_slot1 _ hc_t_slot1 (Ne.symm n_t_slot0_t_slot1)
        replace hc_t_slot1_kept := ho27 a_t_slot1_kept _ hc_t_slot1_kept (Ne.symm n_t_slot0_t_slot1_kept)
        replace hc_t_slot1_kept_before0 := ho27 a_t_slot1_kept_before0 _ hc_t_slot1_kept_before0 (Ne.symm n_t_slot0_t_slot1_kept_before0)
        replace hc_t_slot1_kept_before1 := ho27 a_t_slot1_kept_before1 _ hc_t_slot1_kept_before1 (Ne.symm n_t_slot0_t_slot1_kept_before1)
        replace hc_t_slot0_kept := ho27 a_t_slot0_kept _ hc_t_slot0_kept (Ne.symm n_t_slot0_t_slot0_kept)
        replace hc_t_slot0_kept_before0 := ho27 a_t_slot0_kept_before0 _ hc_t_slot0_kept_before0 (Ne.symm n_t_slot0_t_slot0_kept_before0)
        replace hc_t_slot0_kept_before1 := ho27 a_t_slot0_kept_before1 _ hc_t_slot0_kept_before1 (Ne.symm n_t_slot0_t_slot0_kept_before1)
        have hf28 := fun (q : Nat) (f : va_E) (hf : σ q = some f) (n0 : q ≠ a_t_slot0) (n1 : q ≠ a_t_slot1) (n2 : q ≠ a_t_slot1_kept) (n3 : q ≠ a_t_slot1_kept_before0) (n4 : q ≠ a_t_slot1_kept_before1) (n5 : q ≠ a_t_slot0_kept) (n6 : q ≠ a_t_slot0_kept_before0) (n7 : q ≠ a_t_slot0_kept_before1) => ho27 q f (hf26 q f hf n0 n1 n2 n3 n4 n5 n6 n7) n0
        refine lv_aload_n hx hb dX7_save_52 rfl (lv_at hl 1 rfl) ?_
        refine mw_get (ci := 5) (C := RX7) (T := TX7) (N := 6) (v := .ref a_t_now) hC i_X7_save_X7 hM (hf28 a_t _ hc_t n_t_t_slot0 n_t_t_slot1 n_t_t_slot1_kept n_t_t_slot1_kept_before0 n_t_t_slot1_kept_before1 n_t_t_slot0_kept n_t_t_slot0_kept_before0 n_t_t_slot0_kept_before1) rfl 1 (by decide) l_X7_save_3 rfl rfl dX7_save_53 ?_
        refine mw_getN (ci := 0) (C := RX0) (T := TX0) (N := 11) (v := .int w_t_now.2.1) hC i_X7_save_X0 hM (hf28 a_t_now _ hc_t_now n_t_now_t_slot0 n_t_now_t_slot1 n_t_now_t_slot1_kept n_t_now_t_slot1_kept_before0 n_t_now_t_slot1_kept_before1 n_t_now_t_slot0_kept n_t_now_t_slot0_kept_before0 n_t_now_t_slot0_kept_before1) rfl 4 (by decide) (nx_RX7_124 hC.2.2.2) rfl rfl dX7_save_56 ?_
        cases h
        replace hc_t_slot0_kept : σ1 a_t_slot0_kept = some (cl0 a_t_slot0_kept_before0 a_t_slot0_kept_before1 (if p0 = 0 then a_t_now_grid else a_t_slot0_kept_grid) r23.1) := by
          first | (rw [if_pos (by assumption)]; exact hc_t_slot0_kept) | (rw [if_neg (by assumption)]; exact hc_t_slot0_kept) | (rw [if_neg (by decide)]; exact hc_t_slot0_kept) | (rw [if_pos (by decide)]; exact hc_t_slot0_kept)
        replace hc_t_slot1_kept : σ1 a_t_slot1_kept = some (cl0 a_t_slot1_kept_before0 a_t_slot1_kept_before1 (if p0 = 0 then a_t_slot1_kept_grid else a_t_now_grid) w_t_slot1_kept) := by
          first | (rw [if_pos (by assumption)]; exact hc_t_slot1_kept) | (rw [if_neg (by assumption)]; exact hc_t_slot1_kept) | (rw [if_neg (by decide)]; exact hc_t_slot1_kept) | (rw [if_pos (by decide)]; exact hc_t_slot1_kept)
        refine W.widen (k := 1) (n := 6) (by decide) (by decide) ?_
        exact vx_ret (W.iret hx hb hr (fun t ht hW => ⟨⟨_, _, rfl, ⟨_, rfl, rfl, hc_t_slot0, hc_t_slot1, hc_t_slot1_kept, hc_t_slot1_kept_before0, hc_t_slot1_kept_before1, hc_t_slot0_kept, hc_t_slot0_kept_before0, hc_t_slot0_kept_before1, hf28⟩, by show MW z D _ t.heap; rw [ht]; exact hM⟩, hS.F ht⟩) hS.2.2 dX7_save_59 hlocks)
    · replace h := it_neg c15 h
      cases h
      exact mx_throwW hC hX hlt hM hS rfl (by decide +kernel) l_X7_save_7 l_X7_save_8 (sx_273 hX.2.2.1) a_X7_save_O xb_O (xc_O hX) xg_O hl.1 dX7_save_9 dX7_save_12 dX7_save_13 dX7_save_16 dX7_save_19 hex (Nat.le_of_ble_eq_true rfl) (Nat.le_of_ble_eq_true rfl) (Nat.le_of_ble_eq_true rfl) (Nat.le_of_ble_eq_true rfl) hlocks (Nat.le_of_ble_eq_true rfl) (Nat.le_of_ble_eq_true rfl)
theorem l_X7_restore_0 : Cond.fieldLink RX7 47 "CornerStones" "slot1" "LCornerStones$Slot;" ∈ wsX7_restore := (List.mem_cons_of_mem _ (List.mem_append_left _ (List.mem_append_left _ (List.mem_append_left _ (List.mem_append_left _ (List.mem_append_left _ (List.mem_append_left _ (List.mem_append_left _ (List.mem_of_getElem? (i := 5) rfl)))))))))
theorem i_X7_restore_X7 : ∀ w ∈ wsX70, w ∈ wsX7_restore := fun _ h => (List.mem_cons_of_mem _ (List.mem_append_left _ (List.mem_append_left _ (List.mem_append_left _ (List.mem_append_left _ (List.mem_append_left _ (List.mem_append_right _ h)))))))
theorem i_X7_restore_X6 : ∀ w ∈ wsX60, w ∈ wsX7_restore := fun _ h => (List.mem_cons_of_mem _ (List.mem_append_left _ (List.mem_append_left _ (List.mem_append_left _ (List.mem_append_left _ (List.mem_append_right _ h))))))
theorem l_X7_restore_3 : Cond.fieldLink RX7 26 "CornerStones" "now" "LCornerStones$Game;" ∈ wsX7_restore := (List.mem_cons_of_mem _ (List.mem_append_left _ (List.mem_append_left _ (List.mem_append_left _ (List.mem_append_left _ (List.mem_append_left _ (List.mem_append_left _ (List.mem_append_left _ (List.mem_of_getElem? (i := 6) rfl)))))))))
theorem l_X7_restore_4 : Cond.fieldLink RX7 36 "CornerStones" "memory" "LCornerStones$Memory;" ∈ wsX7_restore := (List.mem_cons_of_mem _ (List.mem_append_left _ (List.mem_append_left _ (List.mem_append_left _ (List.mem_append_left _ (List.mem_append_left _ (List.mem_append_left _ (List.mem_append_left _ (List.mem_of_getElem? (i := 7) rfl)))))))))
theorem i_X7_restore_X0 : ∀ w ∈ wsX00, w ∈ wsX7_restore := fun _ h => (List.mem_cons_of_mem _ (List.mem_append_left _ (List.mem_append_left _ (List.mem_append_left _ (List.mem_append_right _ h)))))
theorem a_X7_restore_S : ∀ w ∈ (vx_atS RX7 65 "java/lang/IllegalStateException" ["java/lang/RuntimeException", "java/lang/Exception"]).filter goodWord, w ∈ wsX7_restore := fun _ h => (List.mem_cons_of_mem _ (List.mem_append_right _ h))
theorem l_X7_restore_7 : Cond.classLink RX7 61 "java/lang/IllegalStateException" ∈ wsX7_restore := (List.mem_cons_of_mem _ (List.mem_append_left _ (List.mem_append_left _ (List.mem_append_left _ (List.mem_append_left _ (List.mem_append_left _ (List.mem_append_left _ (List.mem_append_left _ (List.mem_of_getElem? (i := 2) rfl)))))))))
theorem l_X7_restore_8 : Cond.initialized "java/lang/IllegalStateException" ∈ wsX7_restore := (List.mem_cons_of_mem _ (List.mem_append_left _ (List.mem_append_left _ (List.mem_append_left _ (List.mem_append_left _ (List.mem_append_left _ (List.mem_append_left _ (List.mem_append_left _ (List.mem_of_getElem? (i := 3) rfl)))))))))
theorem l_X7_restore_9 : Cond.fieldLink RX7 43 "CornerStones" "slot0" "LCornerStones$Slot;" ∈ wsX7_restore := (List.mem_cons_of_mem _ (List.mem_append_left _ (List.mem_append_left _ (List.mem_append_left _ (List.mem_append_left _ (List.mem_append_left _ (List.mem_append_left _ (List.mem_append_left _ (List.mem_of_getElem? (i := 4) rfl)))))))))
theorem a_X7_restore_O : ∀ w ∈ (vx_atS RX7 151 "java/lang/IndexOutOfBoundsException" ["java/lang/RuntimeException", "java/lang/Exception"]).filter goodWord, w ∈ wsX7_restore := fun _ h => (List.mem_cons_of_mem _ (List.mem_append_left _ (List.mem_append_right _ h)))
theorem l_X7_restore_11 : Cond.classLink RX7 147 "java/lang/IndexOutOfBoundsException" ∈ wsX7_restore := (List.mem_cons_of_mem _ (List.mem_append_left _ (List.mem_append_left _ (List.mem_append_left _ (List.mem_append_left _ (List.mem_append_left _ (List.mem_append_left _ (List.mem_append_left _ (List.mem_of_getElem? (i := 0) rfl)))))))))
theorem l_X7_restore_12 : Cond.initialized "java/lang/IndexOutOfBoundsException" ∈ wsX7_restore := (List.mem_cons_of_mem _ (List.mem_append_left _ (List.mem_append_left _ (List.mem_append_left _ (List.mem_append_left _ (List.mem_append_left _ (List.mem_append_left _ (List.mem_append_left _ (List.mem_of_getElem? (i := 1) rfl)))))))))
theorem q_X7_restore : yX7_restore.cls ≠ "java/lang/invoke/MethodHandle" ∧ yX7_restore.cls ≠ "java/lang/invoke/VarHandle" ∧ (parseMethodDescriptor yX7_restore.desc).map (fun d => d.parameters.length) = some 1 := by decide +kernel
def fX7_restore (w_t_now : Int32 × Int32 × Int32 × Int32 × Int64 × Int64 × Int32 × Int32) (w_t_memory : Int32 × Int32) (w_t_slot0 : Bool) (w_t_slot1 : Bool) (w_t_slot1_kept : Int32 × Int32 × Int32 × Int32 × Int64 × Int64 × Int32 × Int32) (f_t_now_before0 : Nat → Int64) (f_t_now_before1 : Nat → Int64) (f_t_slot1_kept_before0 : Nat → Int64) (f_t_slot1_kept_before1 : Nat → Int64) (w_t_slot0_kept : Int32 × Int32 × Int32 × Int32 × Int64 × Int64 × Int32 × Int32) (f_t_slot0_kept_before0 : Nat → Int64) (f_t_slot0_kept_before1 : Nat → Int64) (p0 : Int32) : Option (String ⊕ (Int32 × (Int32 × Int32 × Int32 × Int32 × Int64 × Int64 × Int32 × Int32) × (Int32 × Int32) × (Nat → Int64) × (Nat → Int64))) := if p0 = 0 then (if p0 = 0 then (if w_t_slot0 = true then ((fX0_copyFrom w_t_now w_t_slot0_kept f_t_now_before0 f_t_now_before1 f_t_slot0_kept_before0 f_t_slot0_kept_before1).bind fun r13 => bnd (fX4_forgetAll w_t_memory) fun r17 => some (Sum.inr ((r13.1.2.1, r13.1, r17, r13.2.1, r13.2.2)))) else (some (Sum.inl "java/lang/IllegalStateException"))) else (if w_t_slot1 = true then ((fX0_copyFrom w_t_now w_t_slot1_kept f_t_now_before0 f_t_now_before1 f_t_slot1_kept_before0 f_t_slot1_kept_before1).bind fun r4 => bnd (fX4_forgetAll w_t_memory) fun r8 => some (Sum.inr ((r4.1.2.1, r4.1, r8, r4.2.1, r4.2.2)))) else (some (Sum.inl "java/lang/IllegalStateException")))) else (if p0 = 1 then (if p0 = 0 then (if w_t_slot0 = true then ((fX0_copyFrom w_t_now w_t_slot0_kept f_t_now_before0 f_t_now_before1 f_t_slot0_kept_before0 f_t_slot0_kept_before1).bind fun r33 => bnd (fX4_forgetAll w_t_memory) fun r37 => some (Sum.inr ((r33.1.2.1, r33.1, r37, r33.2.1, r33.2.2)))) else (some (Sum.inl "java/lang/IllegalStateException"))) else (if w_t_slot1 = true then ((fX0_copyFrom w_t_now w_t_slot1_kept f_t_now_before0 f_t_now_before1 f_t_slot1_kept_before0 f_t_slot1_kept_before1).bind fun r24 => bnd (fX4_forgetAll w_t_memory) fun r28 => some (Sum.inr ((r24.1.2.1, r24.1, r28, r24.2.1, r24.2.2)))) else (some (Sum.inl "java/lang/IllegalStateException")))) else (some (Sum.inl "java/lang/IndexOutOfBoundsException")))
set_option maxHeartbeats 4000000 in
set_option maxRecDepth 100000 in
theorem c_X7_restore {l : Launch} {z : Nat} {D : va_G} {K : Nat → ClassId} {σ : mwm} {a_t a_t_text a_t_now a_t_copy a_t_memory a_t_slot0 a_t_slot1 a_t_slot1_kept a_t_now_before0 a_t_now_before1 a_t_now_grid a_t_slot1_kept_before0 a_t_slot1_kept_before1 a_t_slot1_kept_grid a_t_memory_ring a_t_slot0_kept a_t_slot0_kept_before0 a_t_slot0_kept_before1 a_t_slot0_kept_grid : Nat} {w_t_now : Int32 × Int32 × Int32 × Int32 × Int64 × Int64 × Int32 × Int32} {w_t_memory : Int32 × Int32} {w_t_slot0 : Bool} {w_t_slot1 : Bool} {w_t_slot1_kept : Int32 × Int32 × Int32 × Int32 × Int64 × Int64 × Int32 × Int32} {f_t_now_before0 : Nat → Int64} {f_t_now_before1 : Nat → Int64} {f_t_slot1_kept_before0 : Nat → Int64} {f_t_slot1_kept_before1 : Nat → Int64} {w_t_slot0_kept : Int32 × Int32 × Int32 × Int32 × Int64 × Int64 × Int32 × Int32} {f_t_slot0_kept_before0 : Nat → Int64} {f_t_slot0_kept_before1 : Nat → Int64} {p0 : Int32} (hc_t : σ a_t = some (cl5 a_t_text a_t_now a_t_copy a_t_memory a_t_slot0 a_t_slot1)) (hc_t_now : σ a_t_now = some (cl0 a_t_now_before0 a_t_now_before1 a_t_now_grid w_t_now)) (hc_t_memory : σ a_t_memory = some (cl3 a_t_memory_ring w_t_memory)) (hc_t_slot0 : σ a_t_slot0 = some (cl4 a_t_slot0_kept w_t_slot0)) (hc_t_slot1 : σ a_t_slot1 = some (cl4 a_t_slot1_kept w_t_slot1)) (hc_t_slot1_kept : σ a_t_slot1_kept = some (cl0 a_t_slot1_kept_before0 a_t_slot1_kept_before1 a_t_slot1_kept_grid w_t_slot1_kept)) (hc_t_now_before0 : σ a_t_now_before0 = some (eJ K 121 f_t_now_before0)) (hc_t_now_before1 : σ a_t_now_before1 = some (eJ K 121 f_t_now_before1)) (hc_t_slot1_kept_before0 : σ a_t_slot1_kept_before0 = some (eJ K 121 f_t_slot1_kept_before0)) (hc_t_slot1_kept_before1 : σ a_t_slot1_kept_before1 = some (eJ K 121 f_t_slot1_kept_before1)) (hc_t_slot0_kept : σ a_t_slot0_kept = some (cl0 a_t_slot0_kept_before0 a_t_slot0_kept_before1 a_t_slot0_kept_grid w_t_slot0_kept)) (hc_t_slot0_kept_before0 : σ a_t_slot0_kept_before0 = some (eJ K 121 f_t_slot0_kept_before0)) (hc_t_slot0_kept_before1 : σ a_t_slot0_kept_before1 = some (eJ K 121 f_t_slot0_kept_before1)) (n_t_t_memory : a_t ≠ a_t_memory) (n_t_t_now : a_t ≠ a_t_now) (n_t_t_now_before0 : a_t ≠ a_t_now_before0) (n_t_t_now_before1 : a_t ≠ a_t_now_before1) (n_t_memory_t_now : a_t_memory ≠ a_t_now) (n_t_memory_t_now_before0 : a_t_memory ≠ a_t_now_before0) (n_t_memory_t_now_before1 : a_t_memory ≠ a_t_now_before1) (n_t_now_t_now_before0 : a_t_now ≠ a_t_now_before0) (n_t_now_t_now_before1 : a_t_now ≠ a_t_now_before1) (n_t_now_t_slot0_kept : a_t_now ≠ a_t_slot0_kept) (n_t_now_t_slot0_kept_before0 : a_t_now ≠ a_t_slot0_kept_before0) (n_t_now_t_slot0_kept_before1 : a_t_now ≠ a_t_slot0_kept_before1) (n_t_now_t_slot1_kept : a_t_now ≠ a_t_slot1_kept) (n_t_now_t_slot1_kept_before0 : a_t_now ≠ a_t_slot1_kept_before0) (n_t_now_t_slot1_kept_before1 : a_t_now ≠ a_t_slot1_kept_before1) (n_t_now_before0_t_now_before1 : a_t_now_before0 ≠ a_t_now_before1) (n_t_now_before0_t_slot0_kept : a_t_now_before0 ≠ a_t_slot0_kept) (n_t_now_before0_t_slot0_kept_before0 : a_t_now_before0 ≠ a_t_slot0_kept_before0) (n_t_now_before0_t_slot0_kept_before1 : a_t_now_before0 ≠ a_t_slot0_kept_before1) (n_t_now_before0_t_slot1_kept : a_t_now_before0 ≠ a_t_slot1_kept) (n_t_now_before0_t_slot1_kept_before0 : a_t_now_before0 ≠ a_t_slot1_kept_before0) (n_t_now_before0_t_slot1_kept_before1 : a_t_now_before0 ≠ a_t_slot1_kept_before1) (n_t_now_before1_t_slot0_kept : a_t_now_before1 ≠ a_t_slot0_kept) (n_t_now_before1_t_slot0_kept_before0 : a_t_now_before1 ≠ a_t_slot0_kept_before0) (n_t_now_before1_t_slot0_kept_before1 : a_t_now_before1 ≠ a_t_slot0_kept_before1) (n_t_now_before1_t_slot1_kept : a_t_now_before1 ≠ a_t_slot1_kept) (n_t_now_before1_t_slot1_kept_before0 : a_t_now_before1 ≠ a_t_slot1_kept_before0) (n_t_now_before1_t_slot1_kept_before1 : a_t_now_before1 ≠ a_t_slot1_kept_before1) (hlt : l.stackTraces = false) {v : String ⊕ (Int32 × (Int32 × Int32 × Int32 × Int32 × Int64 × Int64 × Int32 × Int32) × (Int32 × Int32) × (Nat → Int64) × (Nat → Int64))} (h : fX7_restore w_t_now w_t_memory w_t_slot0 w_t_slot1 w_t_slot1_kept f_t_now_before0 f_t_now_before1 f_t_slot1_kept_before0 f_t_slot1_kept_before1 w_t_slot0_kept f_t_slot0_kept_before0 f_t_slot0_kept_before1 p0 = some v) : vx_Met l yX7_restore wsX7_restore ({ frames := 6, cells := 1, slots := 6, locals := 99 } : Room) (PCx z D K [.ref a_t, .int p0] σ) (qwI z D (fun r σ2 => ∃ w9 : Int32 × (Int32 × Int32 × Int32 × Int32 × Int64 × Int64 × Int32 × Int32) × (Int32 × Int32) × (Nat → Int64) × (Nat → Int64), v = Sum.inr w9 ∧ r = w9.1 ∧ σ2 a_t_now = some (cl0 a_t_now_before0 a_t_now_before1 (if p0 = 0 then a_t_slot0_kept_grid else a_t_slot1_kept_grid) w9.2.1) ∧ σ2 a_t_memory = some (cl3 a_t_memory_ring w9.2.2.1) ∧ σ2 a_t_now_before0 = some (eJ K 121 w9.2.2.2.1) ∧ σ2 a_t_now_before1 = some (eJ K 121 w9.2.2.2.2) ∧ ∀ (q : Nat) (f : va_E), σ q = some f → q ≠ a_t_now → q ≠ a_t_memory → q ≠ a_t_now_before0 → q ≠ a_t_now_before1 → σ2 q = some f)) (XQ z D σ v) 1 6 (zA z) := by
  refine mx_enter (cc := cX7_restore) (maxL := 3) (ret := (some .int)) (own := RX7) (lv := [(0, .ref a_t), (1, .int p0)]) (by decide) rfl rfl (Nat.le_of_ble_eq_true rfl) rfl ?_
  intro p e s m below meth c ls hC hx hb hown hts hK hr hlocks hnm hz hM hS hl hX hex
  unfold fX7_restore at h
  refine lv_iload_n hx hb dX7_restore_0 rfl (lv_at hl 1 rfl) ?_
  refine lv_if_eq (tgt := 20) hx hb dX7_restore_1 (by decide) (fun c1 => ?_) (fun c1 => ?_)
  · replace h := it_pos c1 h
    refine lv_iload_n hx hb dX7_restore_20 rfl (lv_at hl 1 rfl) ?_
    refine lv_if_ne (tgt := 31) hx hb dX7_restore_21 (by decide) (fun c2 => ?_) (fun c2 => ?_)
    · replace h := it_neg c2 h
      refine lv_aload_n hx hb dX7_restore_31 rfl (lv_at hl 0 rfl) ?_
      refine mw_get (ci := 5) (C := RX7) (T := TX7) (N := 6) (v := .ref a_t_slot1) hC i_X7_restore_X7 hM hc_t rfl 5 (by decide) l_X7_restore_0 rfl rfl dX7_restore_32 ?_
      refine lv_astore_n (lv' := [(2, .ref a_t_slot1), (0, .ref a_t), (1, .int p0)]) hx hb dX7_restore_35 rfl hl (by decide) rfl (fun ls hl => ?_)
      refine lv_aload_n hx hb dX7_restore_36 rfl (lv_at hl 0 rfl) ?_
      refine mw_getN (ci := 4) (C := RX6) (T := TX6) (N := 2) (v := .int (b2i w_t_slot1)) hC i_X7_restore_X6 hM hc_t_slot1 rfl 1 (by decide) (nx_RX7_114 hC.2.2.2) rfl rfl dX7_restore_37 ?_
      refine lv_if_ne (tgt := 54) hx hb dX7_restore_40 (by decide) (fun c3 => ?_) (fun c3 => ?_)
      · replace c3 := b2i_ne0.mp c3
        replace h := it_pos c3 h
        refine lv_aload_n hx hb dX7_restore_54 rfl (lv_at hl 1 rfl) ?_
        refine mw_get (ci := 5) (C := RX7) (T := TX7) (N := 6) (v := .ref a_t_now) hC i_X7_restore_X7 hM hc_t rfl 1 (by decide) l_X7_restore_3 rfl rfl dX7_restore_55 ?_
        refine lv_aload_n hx hb dX7_restore_58 rfl (lv_at hl 0 rfl) ?_
        refine mw_getN (ci := 4) (C := RX6) (T := TX6) (N := 2) (v := .ref a_t_slot1_kept) hC i_X7_restore_X6 hM hc_t_slot1 rfl 0 (by decide) (nx_RX7_275 hC.2.2.2) rfl rfl dX7_restore_59 ?_
        obtain ⟨r4, hr4, h⟩ := ob_some h
        refine mw_wv (mw_runV (As := [.ref a_t_slot1_kept]) (rest := []) (ci := 0) (C := RX0) (T := TX0) (N := 11) hC hM hS hc_t_now rfl (c_X0_copyFrom (a_t := a_t_now) (a_p0 := a_t_slot1_kept) (a_t_before0 := a_t_now_before0) (a_t_before1 := a_t_now_before1) (a_t_grid := a_t_now_grid) (a_p0_before0 := a_t_slot1_kept_before0) (a_p0_before1 := a_t_slot1_kept_before1) (a_p0_grid := a_t_slot1_kept_grid) (w_t := w_t_now) (w_p0 := w_t_slot1_kept) (f_t_before0 := f_t_now_before0) (f_t_before1 := f_t_now_before1) (f_p0_before0 := f_t_slot1_kept_before0) (f_p0_before1 := f_t_slot1_kept_before1) (hc_t := hc_t_now) (hc_p0 := hc_t_slot1_kept) (hc_t_before0 := hc_t_now_before0) (hc_t_before1 := hc_t_now_before1) (hc_p0_before0 := hc_t_slot1_kept_before0) (hc_p0_before1 := hc_t_slot1_kept_before1) (n_p0_t := (Ne.symm n_t_now_t_slot1_kept)) (n_p0_t_before0 := (Ne.symm n_t_now_before0_t_slot1_kept)) (n_p0_t_before1 := (Ne.symm n_t_now_before1_t_slot1_kept)) (n_p0_before0_t := (Ne.symm n_t_now_t_slot1_kept_before0)) (n_p0_before0_t_before0 := (Ne.symm n_t_now_before0_t_slot1_kept_before0)) (n_p0_before0_t_before1 := (Ne.symm n_t_now_before1_t_slot1_kept_before0)) (n_p0_before1_t := (Ne.symm n_t_now_t_slot1_kept_before1)) (n_p0_before1_t_before0 := (Ne.symm n_t_now_before0_t_slot1_kept_before1)) (n_p0_before1_t_before1 := (Ne.symm n_t_now_before1_t_slot1_kept_before1)) (n_t_t_before0 := n_t_now_t_now_before0) (n_t_t_before1 := n_t_now_t_now_before1) (n_t_before0_t_before1 := n_t_now_before0_t_now_before1) (v := r4) hr4) gX7_restore_X0_copyFrom rfl rfl rfl rfl q_X0_copyFrom ⟨Nat.le_of_ble_eq_true rfl, Nat.le_of_ble_eq_true rfl⟩ rfl rfl (Nat.le_of_ble_eq_true rfl) hl.1 dX7_restore_62 ⟨Nat.le_of_ble_eq_true rfl, Nat.le_of_ble_eq_true rfl⟩) hS (fun H locs σ1 hp6 hM hS => ?_)
        obtain ⟨hc_t_now, hc_t_now_before0, hc_t_now_before1, ho5⟩ := hp6
        replace hc_t_memory := ho5 a_t_memory _ hc_t_memory n_t_memory_t_now n_t_memory_t_now_before0 n_t_memory_t_now_before1
        have hf7 := fun (q : Nat) (f : va_E) (hf : σ q = some f) (n0 : q ≠ a_t_now) (n1 : q ≠ a_t_memory) (n2 : q ≠ a_t_now_before0) (n3 : q ≠ a_t_now_before1) => ho5 q f hf n0 n2 n3
        refine lv_aload_n hx hb dX7_restore_65 rfl (lv_at hl 1 rfl) ?_
        refine mw_get (ci := 5) (C := RX7) (T := TX7) (N := 6) (v := .ref a_t_memory) hC i_X7_restore_X7 hM (hf7 a_t _ hc_t n_t_t_now n_t_t_memory n_t_t_now_before0 n_t_t_now_before1) rfl 3 (by decide) l_X7_restore_4 rfl rfl dX7_restore_66 ?_
        obtain ⟨r8, hr8⟩ : ∃ x, fX4_forgetAll w_t_memory = x := ⟨_, rfl⟩
        replace h := bnd_at hr8.symm h
        refine mw_wv (mw_runV (As := []) (rest := []) (ci := 3) (C := RX4) (T := TX4) (N := 3) hC hM hS hc_t_memory rfl (c_X4_forgetAll (a_t := a_t_memory) (a_t_ring := a_t_memory_ring) (w_t := w_t_memory) (hc_t := hc_t_memory) (v := r8) hr8) gX7_restore_X4_forgetAll rfl rfl rfl rfl q_X4_forgetAll ⟨Nat.le_of_ble_eq_true rfl, Nat.le_of_ble_eq_true rfl⟩ rfl rfl (Nat.le_of_ble_eq_true rfl) hl.1 dX7_restore_69 ⟨Nat.le_of_ble_eq_true rfl, Nat.le_of_ble_eq_true rfl⟩) hS (fun H locs σ1 hp10 hM hS => ?_)
        obtain ⟨hc_t_memory, ho9⟩ := hp10
        replace hc_t_now := ho9 a_t_now _ hc_t_now (Ne.symm n_t_memory_t_now)
        replace hc_t_now_before0 := ho9 a_t_now_before0 _ hc_t_now_before0 (Ne.symm n_t_memory_t_now_before0)
        replace hc_t_now_before1 := ho9 a_t_now_before1 _ hc_t_now_before1 (Ne.symm n_t_memory_t_now_before1)
        have hf11 := fun (q : Nat) (f : va_E) (hf : σ q = some f) (n0 : q ≠ a_t_now) (n1 : q ≠ a_t_memory) (n2 : q ≠ a_t_now_before0) (n3 : q ≠ a_t_now_before1) => ho9 q f (hf7 q f hf n0 n1 n2 n3) n1
        refine lv_aload_n hx hb dX7_restore_72 rfl (lv_at hl 1 rfl) ?_
        refine mw_get (ci := 5) (C := RX7) (T := TX7) (N := 6) (v := .ref a_t_now) hC i_X7_restore_X7 hM (hf11 a_t _ hc_t n_t_t_now n_t_t_memory n_t_t_now_before0 n_t_t_now_before1) rfl 1 (by decide) l_X7_restore_3 rfl rfl dX7_restore_73 ?_
        refine mw_getN (ci := 0) (C := RX0) (T := TX0) (N := 11) (v := .int r4.1.2.1) hC i_X7_restore_X0 hM hc_t_now rfl 4 (by decide) (nx_RX7_124 hC.2.2.2) rfl rfl dX7_restore_76 ?_
        cases h
        replace hc_t_now : σ1 a_t_now = some (cl0 a_t_now_before0 a_t_now_before1 (if p0 = 0 then a_t_slot0_kept_grid else a_t_slot1_kept_grid) r4.1) := by
          first | (rw [if_pos (by assumption)]; exact hc_t_now) | (rw [if_neg (by assumption)]; exact hc_t_now) | (rw [if_neg (by decide)]; exact hc_t_now) | (rw [if_pos (by decide)]; exact hc_t_now)
        refine W.widen (k := 1) (n := 6) (by decide) (by decide) ?_
        exact vx_ret (W.iret hx hb hr (fun t ht hW => ⟨⟨_, _, rfl, ⟨_, rfl, rfl, hc_t_now, hc_t_memory, hc_t_now_before0, hc_t_now_before1, hf11⟩, by show MW z D _ t.heap; rw [ht]; exact hM⟩, hS.F ht⟩) hS.2.2 dX7_restore_79 hlocks)
      · replace c3 := b2i_eq0.mp c3
        replace h := it_neg c3 h
        cases h
        exact mx_throwW hC hX hlt hM hS rfl (by decide +kernel) l_X7_restore_7 l_X7_restore_8 (sx_278 hX.2.2.1) a_X7_restore_S xb_S (xc_S hX) xg_S hl.1 dX7_restore_43 dX7_restore_46 dX7_restore_47 dX7_restore_50 dX7_restore_53 hex (Nat.le_of_ble_eq_true rfl) (Nat.le_of_ble_eq_true rfl) (Nat.le_of_ble_eq_true rfl) (Nat.le_of_ble_eq_true rfl) hlocks (Nat.le_of_ble_eq_true rfl) (Nat.le_of_ble_eq_true rfl)
    · replace h := it_pos c2 h
      refine lv_aload_n hx hb dX7_restore_24 rfl (lv_at hl 0 rfl) ?_
      refine mw_get (ci := 5) (C := RX7) (T := TX7) (N := 6) (v := .ref a_t_slot0) hC i_X7_restore_X7 hM hc_t rfl 4 (by decide) l_X7_restore_9 rfl rfl dX7_restore_25 ?_
      refine lv_goto (tgt := 35) hx hb dX7_restore_28 (by decide) ?_
      refine lv_astore_n (lv' := [(2, .ref a_t_slot0), (0, .ref a_t), (1, .int p0)]) hx hb dX7_restore_35 rfl hl (by decide) rfl (fun ls hl => ?_)
      refine lv_aload_n hx hb dX7_restore_36 rfl (lv_at hl 0 rfl) ?_
      refine mw_getN (ci := 4) (C := RX6) (T := TX6) (N := 2) (v := .int (b2i w_t_slot0)) hC i_X7_restore_X6 hM hc_t_slot0 rfl 1 (by decide) (nx_RX7_114 hC.2.2.2) rfl rfl dX7_restore_37 ?_
      refine lv_if_ne (tgt := 54) hx hb dX7_restore_40 (by decide) (fun c12 => ?_) (fun c12 => ?_)
      · replace c12 := b2i_ne0.mp c12
        replace h := it_pos c12 h
        refine lv_aload_n hx hb dX7_restore_54 rfl (lv_at hl 1 rfl) ?_
        refine mw_get (ci := 5) (C := RX7) (T := TX7) (N := 6) (v := .ref a_t_now) hC i_X7_restore_X7 hM hc_t rfl 1 (by decide) l_X7_restore_3 rfl rfl dX7_restore_55 ?_
        refine lv_aload_n hx hb dX7_restore_58 rfl (lv_at hl 0 rfl) ?_
        refine mw_getN (ci := 4) (C := RX6) (T := TX6) (N := 2) (v := .ref a_t_slot0_kept) hC i_X7_restore_X6 hM hc_t_slot0 rfl 0 (by decide) (nx_RX7_275 hC.2.2.2) rfl rfl dX7_restore_59 ?_
        obtain ⟨r13, hr13, h⟩ := ob_some h
        refine mw_wv (mw_runV (As := [.ref a_t_slot0_kept]) (rest := []) (ci := 0) (C := RX0) (T := TX0) (N := 11) hC hM hS hc_t_now rfl (c_X0_copyFrom (a_t := a_t_now) (a_p0 := a_t_slot0_kept) (a_t_before0 := a_t_now_before0) (a_t_before1 := a_t_now_before1) (a_t_grid := a_t_now_grid) (a_p0_before0 := a_t_slot0_kept_before0) (a_p0_before1 := a_t_slot0_kept_before1) (a_p0_grid := a_t_slot0_kept_grid) (w_t := w_t_now) (w_p0 := w_t_slot0_kept) (f_t_before0 := f_t_now_before0) (f_t_before1 := f_t_now_before1) (f_p0_before0 := f_t_slot0_kept_before0) (f_p0_before1 := f_t_slot0_kept_before1) (hc_t := hc_t_now) (hc_p0 := hc_t_slot0_kept) (hc_t_before0 := hc_t_now_before0) (hc_t_before1 := hc_t_now_before1) (hc_p0_before0 := hc_t_slot0_kept_before0) (hc_p0_before1 := hc_t_slot0_kept_before1) (n_p0_t := (Ne.symm n_t_now_t_slot0_kept)) (n_p0_t_before0 := (Ne.symm n_t_now_before0_t_slot0_kept)) (n_p0_t_before1 := (Ne.symm n_t_now_before1_t_slot0_kept)) (n_p0_before0_t := (Ne.symm n_t_now_t_slot0_kept_before0)) (n_p0_before0_t_before0 := (Ne.symm n_t_now_before0_t_slot0_kept_before0)) (n_p0_before0_t_before1 := (Ne.symm n_t_now_before1_t_slot0_kept_before0)) (n_p0_before1_t := (Ne.symm n_t_now_t_slot0_kept_before1)) (n_p0_before1_t_before0 := (Ne.symm n_t_now_before0_t_slot0_kept_before1)) (n_p0_before1_t_before1 := (Ne.symm n_t_now_before1_t_slot0_kept_before1)) (n_t_t_before0 := n_t_now_t_now_before0) (n_t_t_before1 := n_t_now_t_now_before1) (n_t_before0_t_before1 := n_t_now_before0_t_now_before1) (v := r13) hr13) gX7_restore_X0_copyFrom rfl rfl rfl rfl q_X0_copyFrom ⟨Nat.le_of_ble_eq_true rfl, Nat.le_of_ble_eq_true rfl⟩ rfl rfl (Nat.le_of_ble_eq_true rfl) hl.1 dX7_restore_62 ⟨Nat.le_of_ble_eq_true rfl, Nat.le_of_ble_eq_true rfl⟩) hS (fun H locs σ1 hp15 hM hS => ?_)
        obtain ⟨hc_t_now, hc_t_now_before0, hc_t_now_before1, ho14⟩ := hp15
        replace hc_t_memory := ho14 a_t_memory _ hc_t_memory n_t_memory_t_now n_t_memory_t_now_before0 n_t_memory_t_now_before1
        have hf16 := fun (q : Nat) (f : va_E) (hf : σ q = some f) (n0 : q ≠ a_t_now) (n1 : q ≠ a_t_memory) (n2 : q ≠ a_t_now_before0) (n3 : q ≠ a_t_now_before1) => ho14 q f hf n0 n2 n3
        refine lv_aload_n hx hb dX7_restore_65 rfl (lv_at hl 1 rfl) ?_
        refine mw_get (ci := 5) (C := RX7) (T := TX7) (N := 6) (v := .ref a_t_memory) hC i_X7_restore_X7 hM (hf16 a_t _ hc_t n_t_t_now n_t_t_memory n_t_t_now_before0 n_t_t_now_before1) rfl 3 (by decide) l_X7_restore_4 rfl rfl dX7_restore_66 ?_
        obtain ⟨r17, hr17⟩ : ∃ x, fX4_forgetAll w_t_memory = x := ⟨_, rfl⟩
        replace h := bnd_at hr17.symm h
        refine mw_wv (mw_runV (As := []) (rest := []) (ci := 3) (C := RX4) (T := TX4) (N := 3) hC hM hS hc_t_memory rfl (c_X4_forgetAll (a_t := a_t_memory) (a_t_ring := a_t_memory_ring) (w_t := w_t_memory) (hc_t := hc_t_memory) (v := r17) hr17) gX7_restore_X4_forgetAll rfl rfl rfl rfl q_X4_forgetAll ⟨Nat.le_of_ble_eq_true rfl, Nat.le_of_ble_eq_true rfl⟩ rfl rfl (Nat.le_of_ble_eq_true rfl) hl.1 dX7_restore_69 ⟨Nat.le_of_ble_eq_true rfl, Nat.le_of_ble_eq_true rfl⟩) hS (fun H locs σ1 hp19 hM hS => ?_)
        obtain ⟨hc_t_memory, ho18⟩ := hp19
        replace hc_t_now := ho18 a_t_now _ hc_t_now (Ne.symm n_t_memory_t_now)
        replace hc_t_now_before0 := ho18 a_t_now_before0 _ hc_t_now_before0 (Ne.symm n_t_memory_t_now_before0)
        replace hc_t_now_before1 := ho18 a_t_now_before1 _ hc_t_now_before1 (Ne.symm n_t_memory_t_now_before1)
        have hf20 := fun (q : Nat) (f : va_E) (hf : σ q = some f) (n0 : q ≠ a_t_now) (n1 : q ≠ a_t_memory) (n2 : q ≠ a_t_now_before0) (n3 : q ≠ a_t_now_before1) => ho18 q f (hf16 q f hf n0 n1 n2 n3) n1
        refine lv_aload_n hx hb dX7_restore_72 rfl (lv_at hl 1 rfl) ?_
        refine mw_get (ci := 5) (C := RX7) (T := TX7) (N := 6) (v := .ref a_t_now) hC i_X7_restore_X7 hM (hf20 a_t _ hc_t n_t_t_now n_t_t_memory n_t_t_now_before0 n_t_t_now_before1) rfl 1 (by decide) l_X7_restore_3 rfl rfl dX7_restore_73 ?_
        refine mw_getN (ci := 0) (C := RX0) (T := TX0) (N := 11) (v := .int r13.1.2.1) hC i_X7_restore_X0 hM hc_t_now rfl 4 (by decide) (nx_RX7_124 hC.2.2.2) rfl rfl dX7_restore_76 ?_
        cases h
        replace hc_t_now : σ1 a_t_now = some (cl0 a_t_now_before0 a_t_now_before1 (if p0 = 0 then a_t_slot0_kept_grid else a_t_slot1_kept_grid) r13.1) := by
          first | (rw [if_pos (by assumption)]; exact hc_t_now) | (rw [if_neg (by assumption)]; exact hc_t_now) | (rw [if_neg (by decide)]; exact hc_t_now) | (rw [if_pos (by decide)]; exact hc_t_now)
        refine W.widen (k := 1) (n := 6) (by decide) (by decide) ?_
        exact vx_ret (W.iret hx hb hr (fun t ht hW => ⟨⟨_, _, rfl, ⟨_, rfl, rfl, hc_t_now, hc_t_memory, hc_t_now_before0, hc_t_now_before1, hf20⟩, by show MW z D _ t.heap; rw [ht]; exact hM⟩, hS.F ht⟩) hS.2.2 dX7_restore_79 hlocks)
      · replace c12 := b2i_eq0.mp c12
        replace h := it_neg c12 h
        cases h
        exact mx_throwW hC hX hlt hM hS rfl (by decide +kernel) l_X7_restore_7 l_X7_restore_8 (sx_278 hX.2.2.1) a_X7_restore_S xb_S (xc_S hX) xg_S hl.1 dX7_restore_43 dX7_restore_46 dX7_restore_47 dX7_restore_50 dX7_restore_53 hex (Nat.le_of_ble_eq_true rfl) (Nat.le_of_ble_eq_true rfl) (Nat.le_of_ble_eq_true rfl) (Nat.le_of_ble_eq_true rfl) hlocks (Nat.le_of_ble_eq_true rfl) (Nat.le_of_ble_eq_true rfl)
  · replace h := it_neg c1 h
    refine lv_iload_n hx hb dX7_restore_4 rfl (lv_at hl 1 rfl) ?_
    refine lv_iconst (v := 1) hx hb dX7_restore_5 (by decide) ?_
    refine lv_icmp_eq (tgt := 20) hx hb dX7_restore_6 (by decide) (fun c21 => ?_) (fun c21 => ?_)
    · replace h := it_pos c21 h
      refine lv_iload_n hx hb dX7_restore_20 rfl (lv_at hl 1 rfl) ?_
      refine lv_if_ne (tgt := 31) hx hb dX7_restore_21 (by decide) (fun c22 => ?_) (fun c22 => ?_)
      · replace h := it_neg c22 h
        refine lv_aload_n hx hb dX7_restore_31 rfl (lv_at hl 0 rfl) ?_
        refine mw_get (ci := 5) (C := RX7) (T := TX7) (N := 6) (v := .ref a_t_slot1) hC i_X7_restore_X7 hM hc_t rfl 5 (by decide) l_X7_restore_0 rfl rfl dX7_restore_32 ?_
        refine lv_astore_n (lv' := [(2, .ref a_t_slot1), (0, .ref a_t), (1, .int p0)]) hx hb dX7_restore_35 rfl hl (by decide) rfl (fun ls hl => ?_)
        refine lv_aload_n hx hb dX7_restore_36 rfl (lv_at hl 0 rfl) ?_
        refine mw_getN (ci := 4) (C := RX6) (T := TX6) (N := 2) (v := .int (b2i w_t_slot1)) hC i_X7_restore_X6 hM hc_t_slot1 rfl 1 (by decide) (nx_RX7_114 hC.2.2.2) rfl rfl dX7_restore_37 ?_
        refine lv_if_ne (tgt := 54) hx hb dX7_restore_40 (by decide) (fun c23 => ?_) (fun c23 => ?_)
        · replace c23 := b2i_ne0.mp c23
          replace h := it_pos c23 h
          refine lv_aload_n hx hb dX7_restore_54 rfl (lv_at hl 1 rfl) ?_
          refine mw_get (ci := 5) (C := RX7) (T := TX7) (N := 6) (v := .ref a_t_now) hC i_X7_restore_X7 hM hc_t rfl 1 (by decide) l_X7_restore_3 rfl rfl dX7_restore_55 ?_
          refine lv_aload_n hx hb dX7_restore_58 rfl (lv_at hl 0 rfl) ?_
          refine mw_getN (ci := 4) (C := RX6) (T := TX6) (N := 2) (v := .ref a_t_slot1_kept) hC i_X7_restore_X6 hM hc_t_slot1 rfl 0 (by decide) (nx_RX7_275 hC.2.2.2) rfl rfl dX7_restore_59 ?_
          obtain ⟨r24, hr24, h⟩ := ob_some h
          refine mw_wv (mw_runV (As := [.ref a_t_slot1_kept]) (rest := []) (ci := 0) (C := RX0) (T := TX0) (N := 11) hC hM hS hc_t_now rfl (c_X0_copyFrom (a_t := a_t_now) (a_p0 := a_t_slot1_kept) (a_t_before0 := a_t_now_before0) (a_t_before1 := a_t_now_before1) (a_t_grid := a_t_now_grid) (a_p0_before0 := a_t_slot1_kept_before0) (a_p0_before1 := a_t_slot1_kept_before1) (a_p0_grid := a_t_slot1_kept_grid) (w_t := w_t_now) (w_p0 := w_t_slot1_kept) (f_t_before0 := f_t_now_before0) (f_t_before1 := f_t_now_before1) (f_p0_before0 := f_t_slot1_kept_before0) (f_p0_before1 := f_t_slot1_kept_before1) (hc_t := hc_t_now) (hc_p0 := hc_t_slot1_kept) (hc_t_before0 := hc_t_now_before0) (hc_t_before1 := hc_t_now_before1) (hc_p0_before0 := hc_t_slot1_kept_before0) (hc_p0_before1 := hc_t_slot1_kept_before1) (n_p0_t := (Ne.symm n_t_now_t_slot1_kept)) (n_p0_t_before0 := (Ne.symm n_t_now_before0_t_slot1_kept)) (n_p0_t_before1 := (Ne.symm n_t_now_before1_t_slot1_kept)) (n_p0_before0_t := (Ne.symm n_t_now_t_slot1_kept_before0)) (n_p0_before0_t_before0 := (Ne.symm n_t_now_before0_t_slot1_kept_before0)) (n_p0_before0_t_before1 := (Ne.symm n_t_now_before1_t_slot1_kept_before0)) (n_p0_before1_t := (Ne.symm n_t_now_t_slot1_kept_before1)) (n_p0_before1_t_before0 := (Ne.symm n_t_now_before0_t_slot1_kept_before1)) (n_p0_before1_t_before1 := (Ne.symm n_t_now_before1_t_slot1_kept_before1)) (n_t_t_before0 := n_t_now_t_now_before0) (n_t_t_before1 := n_t_now_t_now_before1) (n_t_before0_t_before1 := n_t_now_before0_t_now_before1) (v := r24) hr24) gX7_restore_X0_copyFrom rfl rfl rfl rfl q_X0_copyFrom ⟨Nat.le_of_ble_eq_true rfl, Nat.le_of_ble_eq_true rfl⟩ rfl rfl (Nat.le_of_ble_eq_true rfl) hl.1 dX7_restore_62 ⟨Nat.le_of_ble_eq_true rfl, Nat.le_of_ble_eq_true rfl⟩) hS (fun H locs σ1 hp26 hM hS => ?_)
          obtain ⟨hc_t_now, hc_t_now_before0, hc_t_now_before1, ho25⟩ := hp26
          replace hc_t_memory := ho25 a_t_memory _ hc_t_memory n_t_memory_t_now n_t_memory_t_now_before0 n_t_memory_t_now_before1
          have hf27 := fun (q : Nat) (f : va_E) (hf : σ q = some f) (n0 : q ≠ a_t_now) (n1 : q ≠ a_t_memory) (n2 : q ≠ a_t_now_before0) (n3 : q ≠ a_t_now_before1) => ho25 q f hf n0 n2 n3
          refine lv_aload_n hx hb dX7_restore_65 rfl (lv_at hl 1 rfl) ?_
          refine mw_get (ci := 5) (C := RX7) (T := TX7) (N := 6) (v := .ref a_t_memory) hC i_X7_restore_X7 hM (hf27 a_t _ hc_t n_t_t_now n_t_t_memory n_t_t_now_before0 n_t_t_now_before1) rfl 3 (by decide) l_X7_restore_4 rfl rfl dX7_restore_66 ?_
          obtain ⟨r28, hr28⟩ : ∃ x, fX4_forgetAll w_t_memory = x := ⟨_, rfl⟩
          replace h := bnd_at hr28.symm h
          refine mw_wv (mw_runV (As := []) (rest := []) (ci := 3) (C := RX4) (T := TX4) (N := 3) hC hM hS hc_t_memory rfl (c_X4_forgetAll (a_t := a_t_memory) (a_t_ring := a_t_memory_ring) (w_t := w_t_memory) (hc_t := hc_t_memory) (v := r28) hr28) gX7_restore_X4_forgetAll rfl rfl rfl rfl q_X4_forgetAll ⟨Nat.le_of_ble_eq_true rfl, Nat.le_of_ble_eq_true rfl⟩ rfl rfl (Nat.le_of_ble_eq_true rfl) hl.1 dX7_restore_69 ⟨Nat.le_of_ble_eq_true rfl, Nat.le_of_ble_eq_true rfl⟩) hS (fun H locs σ1 hp30 hM hS => ?_)
          obtain ⟨hc_t_memory, ho29⟩ := hp30
          replace hc_t_now := ho29 a_t_now _ hc_t_now (Ne.symm n_t_memory_t_now)
          replace hc_t_now_before0 := ho29 a_t_now_before0 _ hc_t_now_before0 (Ne.symm n_t_memory_t_now_before0)
          replace hc_t_now_before1 := ho29 a_t_now_before1 _ hc_t_now_before1 (Ne.symm n_t_memory_t_now_before1)
          have hf31 := fun (q : Nat) (f : va_E) (hf : σ q = some f) (n0 : q ≠ a_t_now) (n1 : q ≠ a_t_memory) (n2 : q ≠ a_t_now_before0) (n3 : q ≠ a_t_now_before1) => ho29 q f (hf27 q f hf n0 n1 n2 n3) n1
          refine lv_aload_n hx hb dX7_restore_72 rfl (lv_at hl 1 rfl) ?_
          refine mw_get (ci := 5) (C := RX7) (T := TX7) (N := 6) (v := .ref a_t_now) hC i_X7_restore_X7 hM (hf31 a_t _ hc_t n_t_t_now n_t_t_memory n_t_t_now_before0 n_t_t_now_before1) rfl 1 (by decide) l_X7_restore_3 rfl rfl dX7_restore_73 ?_
          refine mw_getN (ci := 0) (C := RX0) (T := TX0) (N := 11) (v := .int r24.1.2.1) hC i_X7_restore_X0 hM hc_t_now rfl 4 (by decide) (nx_RX7_124 hC.2.2.2) rfl rfl dX7_restore_76 ?_
          cases h
          replace hc_t_now : σ1 a_t_now = some (cl0 a_t_now_before0 a_t_now_before1 (if p0 = 0 then a_t_slot0_kept_grid else a_t_slot1_kept_grid) r24.1) := by
            first | (rw [if_pos (by assumption)]; exact hc_t_now) | (rw [if_neg (by assumption)]; exact hc_t_now) | (rw [if_neg (by decide)]; exact hc_t_now) | (rw [if_pos (by decide)]; exact hc_t_now)
          refine W.widen (k := 1) (n := 6) (by decide) (by decide) ?_
          exact vx_ret (W.iret hx hb hr (fun t ht hW => ⟨⟨_, _, rfl, ⟨_, rfl, rfl, hc_t_now, hc_t_memory, hc_t_now_before0, hc_t_now_before1, hf31⟩, by show MW z D _ t.heap; rw [ht]; exact hM⟩, hS.F ht⟩) hS.2.2 dX7_restore_79 hlocks)
        · replace c23 := b2i_eq0.mp c23
          replace h := it_neg c23 h
          cases h
          exact mx_throwW hC hX hlt hM hS rfl (by decide +kernel) l_X7_restore_7 l_X7_restore_8 (sx_278 hX.2.2.1) a_X7_restore_S xb_S (xc_S hX) xg_S hl.1 dX7_restore_43 dX7_restore_46 dX7_restore_47 dX7_restore_50 dX7_restore_53 hex (Nat.le_of_ble_eq_true rfl) (Nat.le_of_ble_eq_true rfl) (Nat.le_of_ble_eq_true rfl) (Nat.le_of_ble_eq_true rfl) hlocks (Nat.le_of_ble_eq_true rfl) (Nat.le_of_ble_eq_true rfl)
      · replace h := it_pos c22 h
        refine lv_aload_n hx hb dX7_restore_24 rfl (lv_at hl 0 rfl) ?_
        refine mw_get (ci := 5) (C := RX7) (T := TX7) (N := 6) (v := .ref a_t_slot0) hC i_X7_restore_X7 hM hc_t rfl 4 (by decide) l_X7_restore_9 rfl rfl dX7_restore_25 ?_
        refine lv_goto (tgt := 35) hx hb dX7_restore_28 (by decide) ?_
        refine lv_astore_n (lv' := [(2, .ref a_t_slot0), (0, .ref a_t), (1, .int p0)]) hx hb dX7_restore_35 rfl hl (by decide) rfl (fun ls hl => ?_)
        refine lv_aload_n hx hb dX7_restore_36 rfl (lv_at hl 0 rfl) ?_
        refine mw_getN (ci := 4) (C := RX6) (T := TX6) (N := 2) (v := .int (b2i w_t_slot0)) hC i_X7_restore_X6 hM hc_t_slot0 rfl 1 (by decide) (nx_RX7_114 hC.2.2.2) rfl rfl dX7_restore_37 ?_
        refine lv_if_ne (tgt := 54) hx hb dX7_restore_40 (by decide) (fun c32 => ?_) (fun c32 => ?_)
        · replace c32 := b2i_ne0.mp c32
          replace h := it_pos c32 h
          refine lv_aload_n hx hb dX7_restore_54 rfl (lv_at hl 1 rfl) ?_
          refine mw_get (ci := 5) (C := RX7) (T := TX7) (N := 6) (v := .ref a_t_now) hC i_X7_restore_X7 hM hc_t rfl 1 (by decide) l_X7_restore_3 rfl rfl dX7_restore_55 ?_
          refine lv_aload_n hx hb dX7_restore_58 rfl (lv_at hl 0 rfl) ?_
          refine mw_getN (ci := 4) (C := RX6) (T := TX6) (N := 2) (v := .ref a_t_slot0_kept) hC i_X7_restore_X6 hM hc_t_slot0 rfl 0 (by decide) (nx_RX7_275 hC.2.2.2) rfl rfl dX7_restore_59 ?_
          obtain ⟨r33, hr33, h⟩ := ob_some h
          refine mw_wv (mw_runV (As := [.ref a_t_slot0_kept]) (rest := []) (ci := 0) (C := RX0) (T := TX0) (N := 11) hC hM hS hc_t_now rfl (c_X0_copyFrom (a_t := a_t_now) (a_p0 := a_t_slot0_kept) (a_t_before0 := a_t_now_before0) (a_t_before1 := a_t_now_before1) (a_t_grid := a_t_now_grid) (a_p0_before0 := a_t_slot0_kept_before0) (a_p0_before1 := a_t_slot0_kept_before1) (a_p0_grid := a_t_slot0_kept_grid) (w_t := w_t_now) (w_p0 := w_t_slot0_kept) (f_t_before0 := f_t_now_before0) (f_t_before1 := f_t_now_before1) (f_p0_before0 := f_t_slot0_kept_before0) (f_p0_before1 := f_t_slot0_kept_before1) (hc_t := hc_t_now) (hc_p0 := hc_t_slot0_kept) (hc_t_before0 := hc_t_now_before0) (hc_t_before1 := hc_t_now_before1) (hc_p0_before0 := hc_t_slot0_kept_before0) (hc_p0_before1 := hc_t_slot0_kept_before1) (n_p0_t := (Ne.symm n_t_now_t_slot0_kept)) (n_p0_t_before0 := (Ne.symm n_t_now_before0_t_slot0_kept)) (n_p0_t_before1 := (Ne.symm n_t_now_before1_t_slot0_kept)) (n_p0_before0_t := (Ne.symm n_t_now_t_slot0_kept_before0)) (n_p0_before0_t_before0 := (Ne.symm n_t_now_before0_t_slot0_kept_before0)) (n_p0_before0_t_before1 := (Ne.symm n_t_now_before1_t_slot0_kept_before0)) (n_p0_before1_t := (Ne.symm n_t_now_t_slot0_kept_before1)) (n_p0_before1_t_before0 := (Ne.symm n_t_now_before0_t_slot0_kept_before1)) (n_p0_before1_t_before1 := (Ne.symm n_t_now_before1_t_slot0_kept_before1)) (n_t_t_before0 := n_t_now_t_now_before0) (n_t_t_before1 := n_t_now_t_now_before1) (n_t_before0_t_before1 := n_t_now_before0_t_now_before1) (v := r33) hr33) gX7_restore_X0_copyFrom rfl rfl rfl rfl q_X0_copyFrom ⟨Nat.le_of_ble_eq_true rfl, Nat.le_of_ble_eq_true rfl⟩ rfl rfl (Nat.le_of_ble_eq_true rfl) hl.1 dX7_restore_62 ⟨Nat.le_of_ble_eq_true rfl, Nat.le_of_ble_eq_true rfl⟩) hS (fun H locs σ1 hp35 hM hS => ?_)
          obtain ⟨hc_t_now, hc_t_now_before0, hc_t_now_before1, ho34⟩ := hp35
          replace hc_t_memory := ho34 a_t_memory _ hc_t_memory n_t_memory_t_now n_t_memory_t_now_before0 n_t_memory_t_now_before1
          have hf36 := fun (q : Nat) (f : va_E) (hf : σ q = some f) (n0 : q ≠ a_t_now) (n1 : q ≠ a_t_memory) (n2 : q ≠ a_t_now_before0) (n3 : q ≠ a_t_now_before1) => ho34 q f hf n0 n2 n3
          refine lv_aload_n hx hb dX7_restore_65 rfl (lv_at hl 1 rfl) ?_
          refine mw_get (ci := 5) (C := RX7) (T := TX7) (N := 6) (v := .ref a_t_memory) hC i_X7_restore_X7 hM (hf36 a_t _ hc_t n_t_t_now n_t_t_memory n_t_t_now_before0 n_t_t_now_before1) rfl 3 (by decide) l_X7_restore_4 rfl rfl dX7_restore_66 ?_
          obtain ⟨r37, hr37⟩ : ∃ x, fX4_forgetAll w_t_memory = x := ⟨_, rfl⟩
          replace h := bnd_at hr37.symm h
          refine mw_wv (mw_runV (As := []) (rest := []) (ci := 3) (C := RX4) (T := TX4) (N := 3) hC hM hS hc_t_memory rfl (c_X4_forgetAll (a_t := a_t_memory) (a_t_ring := a_t_memory_ring) (w_t := w_t_memory) (hc_t := hc_t_memory) (v := r37) hr37) gX7_restore_X4_forgetAll rfl rfl rfl rfl q_X4_forgetAll ⟨Nat.le_of_ble_eq_true rfl, Nat.le_of_ble_eq_true rfl⟩ rfl rfl (Nat.le_of_ble_eq_true rfl) hl.1 dX7_restore_69 ⟨Nat.le_of_ble_eq_true rfl, Nat.le_of_ble_eq_true rfl⟩) hS (fun H locs σ1 hp39 hM hS => ?_)
          obtain ⟨hc_t_memory, ho38⟩ := hp39
          replace hc_t_now := ho38 a_t_now _ hc_t_now (Ne.symm n_t_memory_t_now)
          replace hc_t_now_before0 := ho38 a_t_now_before0 _ hc_t_now_before0 (Ne.symm n_t_memory_t_now_before0)
          replace hc_t_now_before1 := ho38 a_t_now_before1 _ hc_t_now_before1 (Ne.symm n_t_memory_t_now_before1)
          have hf40 := fun (q : Nat) (f : va_E) (hf : σ q = some f) (n0 : q ≠ a_t_now) (n1 : q ≠ a_t_memory) (n2 : q ≠ a_t_now_before0) (n3 : q ≠ a_t_now_before1) => ho38 q f (hf36 q f hf n0 n1 n2 n3) n1
          refine lv_aload_n hx hb dX7_restore_72 rfl (lv_at hl 1 rfl) ?_
          refine mw_get (ci := 5) (C := RX7) (T := TX7) (N := 6) (v := .ref a_t_now) hC i_X7_restore_X7 hM (hf40 a_t _ hc_t n_t_t_now n_t_t_memory n_t_t_now_before0 n_t_t_now_before1) rfl 1 (by decide) l_X7_restore_3 rfl rfl dX7_restore_73 ?_
          refine mw_getN (ci := 0) (C := RX0) (T := TX0) (N := 11) (v := .int r33.1.2.1) hC i_X7_restore_X0 hM hc_t_now rfl 4 (by decide) (nx_RX7_124 hC.2.2.2) rfl rfl dX7_restore_76 ?_
          cases h
          replace hc_t_now : σ1 a_t_now = some (cl0 a_t_now_before0 a_t_now_before1 (if p0 = 0 then a_t_slot0_kept_grid else a_t_slot1_kept_grid) r33.1) := by
            first | (rw [if_pos (by assumption)]; exact hc_t_now) | (rw [if_neg (by assumption)]; exact hc_t_now) | (rw [if_neg (by decide)]; exact hc_t_now) | (rw [if_pos (by decide)]; exact hc_t_now)
          refine W.widen (k := 1) (n := 6) (by decide) (by decide) ?_
          exact vx_ret (W.iret hx hb hr (fun t ht hW => ⟨⟨_, _, rfl, ⟨_, rfl, rfl, hc_t_now, hc_t_memory, hc_t_now_before0, hc_t_now_before1, hf40⟩, by show MW z D _ t.heap; rw [ht]; exact hM⟩, hS.F ht⟩) hS.2.2 dX7_restore_79 hlocks)
        · replace c32 := b2i_eq0.mp c32
          replace h := it_neg c32 h
          cases h
          exact mx_throwW hC hX hlt hM hS rfl (by decide +kernel) l_X7_restore_7 l_X7_restore_8 (sx_278 hX.2.2.1) a_X7_restore_S xb_S (xc_S hX) xg_S hl.1 dX7_restore_43 dX7_restore_46 dX7_restore_47 dX7_restore_50 dX7_restore_53 hex (Nat.le_of_ble_eq_true rfl) (Nat.le_of_ble_eq_true rfl) (Nat.le_of_ble_eq_true rfl) (Nat.le_of_ble_eq_true rfl) hlocks (Nat.le_of_ble_eq_true rfl) (Nat.le_of_ble_eq_true rfl)
    · replace h := it_neg c21 h
      cases h
      exact mx_throwW hC hX hlt hM hS rfl (by decide +kernel) l_X7_restore_11 l_X7_restore_12 (sx_273 hX.2.2.1) a_X7_restore_O xb_O (xc_O hX) xg_O hl.1 dX7_restore_9 dX7_restore_12 dX7_restore_13 dX7_restore_16 dX7_restore_19 hex (Nat.le_of_ble_eq_true rfl) (Nat.le_of_ble_eq_true rfl) (Nat.le_of_ble_eq_true rfl) (Nat.le_of_ble_eq_true rfl) hlocks (Nat.le_of_ble_eq_true rfl) (Nat.le_of_ble_eq_true rfl)
