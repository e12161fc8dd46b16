theorem l_L_append_0 : Cond.classLink RL 13 "java/lang/IllegalArgumentException" ∈ wsL_append := (List.mem_cons_of_mem _ (List.mem_append_left _ (List.mem_append_left _ (List.mem_append_left _ (List.mem_append_left _ (List.mem_of_getElem? (i := 0) rfl))))))
theorem l_L_append_1 : Cond.classLink RL 15 "java/lang/IllegalStateException" ∈ wsL_append := (List.mem_cons_of_mem _ (List.mem_append_left _ (List.mem_append_left _ (List.mem_append_left _ (List.mem_append_left _ (List.mem_of_getElem? (i := 1) rfl))))))
theorem q_L_append : yL_append.cls ≠ "java/lang/invoke/MethodHandle" ∧ yL_append.cls ≠ "java/lang/invoke/VarHandle" ∧ (parseMethodDescriptor yL_append.desc).map (fun d => d.parameters.length) = some 3 := by decide +kernel
def fL_append (f_p2 : Nat → Int64) (w_p0_text : Int32) (f_p0_text_characters : Nat → Int32) (p1 : Int32) : Option (Int32 × (Nat → Int64) × Int32 × (Nat → Int32)) := (fX7_append w_p0_text f_p0_text_characters p1).bind fun r1 => rsum r1 (fun E4 => if E4 = "java/lang/IllegalArgumentException" then (some (((1 : Int32), f_p2, w_p0_text, f_p0_text_characters))) else (if E4 = "java/lang/IllegalStateException" then (some (((2 : Int32), f_p2, w_p0_text, f_p0_text_characters))) else (none))) (fun w6 => if inB 0 1 = true then (some (((0 : Int32), (vp_updL f_p2 (0 : Int32).toNatClampNeg w6.1.toInt64), w6.2.1, w6.2.2))) else none)
set_option maxHeartbeats 4000000 in
set_option maxRecDepth 100000 in
theorem c_L_append {l : Launch} {z : Nat} {D : va_G} {K : Nat → ClassId} {σ : mwm} {a_p0 a_p2 a_p0_text a_p0_now a_p0_copy a_p0_memory a_p0_slot0 a_p0_slot1 a_p0_text_characters : Nat} {f_p2 : Nat → Int64} {w_p0_text : Int32} {f_p0_text_characters : Nat → Int32} {p1 : Int32} (hc_p0 : σ a_p0 = some (cl5 a_p0_text a_p0_now a_p0_copy a_p0_memory a_p0_slot0 a_p0_slot1)) (hc_p2 : σ a_p2 = some (eJ K 1 f_p2)) (hc_p0_text : σ a_p0_text = some (cl1 a_p0_text_characters w_p0_text)) (hc_p0_text_characters : σ a_p0_text_characters = some (eC K 120 f_p0_text_characters)) (n_p0_text_p0_text_characters : a_p0_text ≠ a_p0_text_characters) (n_p0_text_p2 : a_p0_text ≠ a_p2) (n_p0_text_characters_p2 : a_p0_text_characters ≠ a_p2) (hlt : l.stackTraces = false) {v : Int32 × (Nat → Int64) × Int32 × (Nat → Int32)} (h : fL_append f_p2 w_p0_text f_p0_text_characters p1 = some v) : Met l yL_append wsL_append ({ frames := 7, cells := 1, slots := 6, locals := 120 } : Room) (PCx z D K [.ref a_p0, .int p1, .ref a_p2] σ) (qwI z D (fun r σ2 => r = v.1 ∧ σ2 a_p2 = some (eJ K 1 v.2.1) ∧ σ2 a_p0_text = some (cl1 a_p0_text_characters v.2.2.1) ∧ σ2 a_p0_text_characters = some (eC K 120 v.2.2.2) ∧ ∀ (q : Nat) (f : va_E), σ q = some f → q ≠ a_p2 → q ≠ a_p0_text → q ≠ a_p0_text_characters → σ2 q = some f)) 1 6 (zA z) := by
  refine mh_enter (cc := cL_append) (maxL := 4) (ret := (some .int)) (own := RL) (lv := [(0, .ref a_p0), (1, .int p1), (2, .ref a_p2)]) (by decide) rfl rfl (Nat.le_of_ble_eq_true rfl) rfl ?_
  intro p e s m below meth c ls hC hx hb hown hts hK hr hlocks hnm hz hM hS hl hX hex
  unfold fL_append at h
  refine lv_aload_n hx hb dL_append_0 rfl (lv_at hl 2 rfl) ?_
  refine lv_iconst (v := 0) hx hb dL_append_1 (by decide) ?_
  refine lv_aload_n hx hb dL_append_2 rfl (lv_at hl 0 rfl) ?_
  refine lv_iload_n hx hb dL_append_3 rfl (lv_at hl 1 rfl) ?_
  obtain ⟨r1, hr1, h⟩ := ob_some h
  refine mx_ci (mx_runV (As := [.int p1]) (rest := [.int 0, .ref a_p2]) (ci := 5) (C := RX7) (T := TX7) (N := 6) hC hX hM hS hc_p0 rfl (c_X7_append (a_t := a_p0) (a_t_text := a_p0_text) (a_t_now := a_p0_now) (a_t_copy := a_p0_copy) (a_t_memory := a_p0_memory) (a_t_slot0 := a_p0_slot0) (a_t_slot1 := a_p0_slot1) (a_t_text_characters := a_p0_text_characters) (w_t_text := w_p0_text) (f_t_text_characters := f_p0_text_characters) (p0 := p1) (hc_t := hc_p0) (hc_t_text := hc_p0_text) (hc_t_text_characters := hc_p0_text_characters) (n_t_text_t_text_characters := n_p0_text_p0_text_characters) (hlt := hlt) (v := r1) hr1) gL_append_X7_append rfl rfl rfl rfl q_X7_append ⟨Nat.le_of_ble_eq_true rfl, Nat.le_of_ble_eq_true rfl⟩ rfl rfl (Nat.le_of_ble_eq_true rfl) hl.1 dL_append_4 ⟨Nat.le_of_ble_eq_true rfl, Nat.le_of_ble_eq_true rfl⟩) hS (fun E4 ce a_e5 H locs hvE hM hS hce hcv hcl => ?_) (fun r9 H locs σ1 hp3 hM hS => ?_)
  · subst hvE
    replace h := rsum_inl h
    by_cases c7 : E4 = "java/lang/IllegalArgumentException"
    · replace h := it_pos c7 h
      subst c7
      refine vx_catch (name := "java/lang/IllegalArgumentException") hown [] ⟨0, 9, 12, 13⟩ [⟨0, 9, 15, 15⟩] hex (fun _ h9 => by cases h9) (by decide) (by decide) (hts _ l_L_append_0) (va_Nw.use rfl (xc_A hX)) hce hcv hcl ?_
      refine W.eq (g2 := F0 m 12 ls [.ref a_e5]) rfl ?_
      refine lv_astore_n (lv' := [(3, .ref a_e5), (0, .ref a_p0), (1, .int p1), (2, .ref a_p2)]) hx hb dL_append_12 rfl hl (by decide) rfl (fun ls hl => ?_)
      refine lv_iconst (v := 1) hx hb dL_append_13 (by decide) ?_
      cases h
      exact W.iret hx hb hr (fun t ht hW => ⟨⟨_, _, rfl, ⟨rfl, hc_p2, hc_p0_text, hc_p0_text_characters, (fun _ _ h9 _ _ _ => h9)⟩, by show MW z D _ t.heap; rw [ht]; exact hM⟩, hS.F ht⟩) hS.2.2 dL_append_14 hlocks
    replace h := it_neg c7 h
    by_cases c8 : E4 = "java/lang/IllegalStateException"
    · replace h := it_pos c8 h
      subst c8
      refine vx_catch (name := "java/lang/IllegalStateException") hown [⟨0, 9, 12, 13⟩] ⟨0, 9, 15, 15⟩ [] hex (fun x9 h9 => by rw [List.mem_singleton.mp h9]; exact Or.inr ⟨(by decide), _, hts _ l_L_append_0, hX.2.2.2.2.2.2.1⟩) (by decide) (by decide) (hts _ l_L_append_1) (va_Nw.use rfl (xc_S hX)) hce hcv hcl ?_
      refine W.eq (g2 := F0 m 15 ls [.ref a_e5]) rfl ?_
      refine lv_astore_n (lv' := [(3, .ref a_e5), (0, .ref a_p0), (1, .int p1), (2, .ref a_p2)]) hx hb dL_append_15 rfl hl (by decide) rfl (fun ls hl => ?_)
      refine lv_iconst (v := 2) hx hb dL_append_16 (by decide) ?_
      cases h
      exact W.iret hx hb hr (fun t ht hW => ⟨⟨_, _, rfl, ⟨rfl, hc_p2, hc_p0_text, hc_p0_text_characters, (fun _ _ h9 _ _ _ => h9)⟩, by show MW z D _ t.heap; rw [ht]; exact hM⟩, hS.F ht⟩) hS.2.2 dL_append_17 hlocks
    replace h := it_neg c8 h
    cases h
  · obtain ⟨w6, hw9, hr9, hc_p0_text, hc_p0_text_characters, ho2⟩ := hp3
    replace hr9 := hr9.symm
    subst hr9
    subst hw9
    replace h := rsum_inr h
    replace hc_p2 := ho2 a_p2 _ hc_p2 (Ne.symm n_p0_text_p2) (Ne.symm n_p0_text_characters_p2)
    have hf9 := fun (q : Nat) (f : va_E) (hf : σ q = some f) (n0 : q ≠ a_p2) (n1 : q ≠ a_p0_text) (n2 : q ≠ a_p0_text_characters) => ho2 q f hf n1 n2
    refine W.widen (k := 1) (n := 6) (Nat.le_of_ble_eq_true rfl) (Nat.le_of_ble_eq_true rfl) ?_
    refine lv_i2l hx hb dL_append_7 rfl ?_
    obtain ⟨c10, h⟩ := gd_some h
    refine mw_stJ hC hM hS hc_p2 (inB_ok c10) dL_append_8 (fun H locs σ1 hM hS hc_p2 ho11 => ?_)
    replace hc_p2 : σ1 a_p2 = some (eJ K 1 (vp_updL f_p2 (0 : Int32).toNatClampNeg w6.1.toInt64)) := hc_p2
    replace hc_p0_text := ho11 a_p0_text _ hc_p0_text n_p0_text_p2
    replace hc_p0_text_characters := ho11 a_p0_text_characters _ hc_p0_text_characters n_p0_text_characters_p2
    have hf12 := fun (q : Nat) (f : va_E) (hf : σ q = some f) (n0 : q ≠ a_p2) (n1 : q ≠ a_p0_text) (n2 : q ≠ a_p0_text_characters) => ho11 q f (hf9 q f hf n0 n1 n2) n0
    refine lv_goto (tgt := 18) hx hb dL_append_9 (by decide) ?_
    refine lv_iconst (v := 0) hx hb dL_append_18 (by decide) ?_
    cases h
    exact W.iret hx hb hr (fun t ht hW => ⟨⟨_, _, rfl, ⟨rfl, hc_p2, hc_p0_text, hc_p0_text_characters, hf12⟩, by show MW z D _ t.heap; rw [ht]; exact hM⟩, hS.F ht⟩) hS.2.2 dL_append_19 hlocks
theorem l_L_load_0 : Cond.classLink RL 15 "java/lang/IllegalStateException" ∈ wsL_load := (List.mem_cons_of_mem _ (List.mem_append_left _ (List.mem_append_left _ (List.mem_append_left _ (List.mem_append_left _ (List.mem_append_left _ (List.mem_append_left _ (List.mem_append_left _ (List.mem_append_left _ (List.mem_of_getElem? (i := 0) rfl))))))))))
theorem q_L_load : yL_load.cls ≠ "java/lang/invoke/MethodHandle" ∧ yL_load.cls ≠ "java/lang/invoke/VarHandle" ∧ (parseMethodDescriptor yL_load.desc).map (fun d => d.parameters.length) = some 2 := by decide +kernel
def fL_load (f_p1 : Nat → Int64) (w_p0_text : Int32) (w_p0_now : Int32 × Int32 × Int32 × Int32 × Int64 × Int64 × Int32 × Int32) (w_p0_memory : Int32 × Int32) (w_p0_slot0 : Bool) (w_p0_slot1 : Bool) (f_p0_text_characters : Nat → Int32) (f_p0_now_before0 : Nat → Int64) (f_p0_now_before1 : Nat → Int64) (w_p0_now_grid : Int32 × Int32 × Int64 × Int64 × Int64) : Option (Int32 × (Nat → Int64) × (Int32 × Int32 × Int32 × Int32 × Int64 × Int64 × Int32 × Int32) × (Int32 × Int32) × Bool × Bool × (Nat → Int64) × (Nat → Int64) × (Int32 × Int32 × Int64 × Int64 × Int64)) := (fX7_load w_p0_text w_p0_now w_p0_memory w_p0_slot0 w_p0_slot1 f_p0_text_characters f_p0_now_before0 f_p0_now_before1).bind fun r1 => rsum r1 (fun E4 => if E4 = "java/lang/IllegalStateException" then (some (((1 : Int32), f_p1, w_p0_now, w_p0_memory, w_p0_slot0, w_p0_slot1, f_p0_now_before0, f_p0_now_before1, w_p0_now_grid))) else (none)) (fun w6 => if inB 0 1 = true then (some (((0 : Int32), (vp_updL f_p1 (0 : Int32).toNatClampNeg w6.1.toInt64), w6.2.1, w6.2.2.1, w6.2.2.2.1, w6.2.2.2.2.1, w6.2.2.2.2.2.1, w6.2.2.2.2.2.2.1, w6.2.2.2.2.2.2.2))) else none)
set_option maxHeartbeats 4000000 in
set_option maxRecDepth 100000 in
theorem c_L_load {l : Launch} {z : Nat} {D : va_G} {K : Nat → ClassId} {σ : mwm} {a_p0 a_p1 a_p0_text a_p0_now a_p0_copy a_p0_memory a_p0_slot0 a_p0_slot1 a_p0_text_characters a_p0_now_before0 a_p0_now_before1 a_p0_now_grid a_p0_memory_ring a_p0_slot0_kept a_p0_slot1_kept : Nat} {f_p1 : Nat → Int64} {w_p0_text : Int32} {w_p0_now : Int32 × Int32 × Int32 × Int32 × Int64 × Int64 × Int32 × Int32} {w_p0_memory : Int32 × Int32} {w_p0_slot0 : Bool} {w_p0_slot1 : Bool} {f_p0_text_characters : Nat → Int32} {f_p0_now_before0 : Nat → Int64} {f_p0_now_before1 : Nat → Int64} {w_p0_now_grid : Int32 × Int32 × Int64 × Int64 × Int64} (hc_p0 : σ a_p0 = some (cl5 a_p0_text a_p0_now a_p0_copy a_p0_memory a_p0_slot0 a_p0_slot1)) (hc_p1 : σ a_p1 = some (eJ K 1 f_p1)) (hc_p0_text : σ a_p0_text = some (cl1 a_p0_text_characters w_p0_text)) (hc_p0_now : σ a_p0_now = some (cl0 a_p0_now_before0 a_p0_now_before1 a_p0_now_grid w_p0_now)) (hc_p0_memory : σ a_p0_memory = some (cl3 a_p0_memory_ring w_p0_memory)) (hc_p0_slot0 : σ a_p0_slot0 = some (cl4 a_p0_slot0_kept w_p0_slot0)) (hc_p0_slot1 : σ a_p0_slot1 = some (cl4 a_p0_slot1_kept w_p0_slot1)) (hc_p0_text_characters : σ a_p0_text_characters = some (eC K 120 f_p0_text_characters)) (hc_p0_now_before0 : σ a_p0_now_before0 = some (eJ K 121 f_p0_now_before0)) (hc_p0_now_before1 : σ a_p0_now_before1 = some (eJ K 121 f_p0_now_before1)) (hc_p0_now_grid : σ a_p0_now_grid = some (cl2  w_p0_now_grid)) (n_p0_p0_memory : a_p0 ≠ a_p0_memory) (n_p0_p0_now : a_p0 ≠ a_p0_now) (n_p0_p0_now_before0 : a_p0 ≠ a_p0_now_before0) (n_p0_p0_now_before1 : a_p0 ≠ a_p0_now_before1) (n_p0_p0_slot0 : a_p0 ≠ a_p0_slot0) (n_p0_p0_slot1 : a_p0 ≠ a_p0_slot1) (n_p0_memory_p0_now : a_p0_memory ≠ a_p0_now) (n_p0_memory_p0_now_before0 : a_p0_memory ≠ a_p0_now_before0) (n_p0_memory_p0_now_before1 : a_p0_memory ≠ a_p0_now_before1) (n_p0_memory_p0_slot0 : a_p0_memory ≠ a_p0_slot0) (n_p0_memory_p0_slot1 : a_p0_memory ≠ a_p0_slot1) (n_p0_memory_p0_text : a_p0_memory ≠ a_p0_text) (n_p0_memory_p0_text_characters : a_p0_memory ≠ a_p0_text_characters) (n_p0_memory_p1 : a_p0_memory ≠ a_p1) (n_p0_now_p0_now_before0 : a_p0_now ≠ a_p0_now_before0) (n_p0_now_p0_now_before1 : a_p0_now ≠ a_p0_now_before1) (n_p0_now_p0_slot0 : a_p0_now ≠ a_p0_slot0) (n_p0_now_p0_slot1 : a_p0_now ≠ a_p0_slot1) (n_p0_now_p0_text : a_p0_now ≠ a_p0_text) (n_p0_now_p0_text_characters : a_p0_now ≠ a_p0_text_characters) (n_p0_now_p1 : a_p0_now ≠ a_p1) (n_p0_now_before0_p0_now_before1 : a_p0_now_before0 ≠ a_p0_now_before1) (n_p0_now_before0_p0_slot0 : a_p0_now_before0 ≠ a_p0_slot0) (n_p0_now_before0_p0_slot1 : a_p0_now_before0 ≠ a_p0_slot1) (n_p0_now_before0_p0_text : a_p0_now_before0 ≠ a_p0_text) (n_p0_now_before0_p0_text_characters : a_p0_now_before0 ≠ a_p0_text_characters) (n_p0_now_before0_p1 : a_p0_now_before0 ≠ a_p1) (n_p0_now_before1_p0_slot0 : a_p0_now_before1 ≠ a_p0_slot0) (n_p0_now_before1_p0_slot1 : a_p0_now_before1 ≠ a_p0_slot1) (n_p0_now_before1_p0_text : a_p0_now_before1 ≠ a_p0_text) (n_p0_now_before1_p0_text_characters : a_p0_now_before1 ≠ a_p0_text_characters) (n_p0_now_before1_p1 : a_p0_now_before1 ≠ a_p1) (n_p0_slot0_p0_slot1 : a_p0_slot0 ≠ a_p0_slot1) (n_p0_slot0_p0_text : a_p0_slot0 ≠ a_p0_text) (n_p0_slot0_p0_text_characters : a_p0_slot0 ≠ a_p0_text_characters) (n_p0_slot0_p1 : a_p0_slot0 ≠ a_p1) (n_p0_slot1_p0_text : a_p0_slot1 ≠ a_p0_text) (n_p0_slot1_p0_text_characters : a_p0_slot1 ≠ a_p0_text_characters) (n_p0_slot1_p1 : a_p0_slot1 ≠ a_p1) (hlt : l.stackTraces = false) {v : Int32 × (Nat → Int64) × (Int32 × Int32 × Int32 × Int32 × Int64 × Int64 × Int32 × Int32) × (Int32 × Int32) × Bool × Bool × (Nat → Int64) × (Nat → Int64) × (Int32 × Int32 × Int64 × Int64 × Int64)} (h : fL_load f_p1 w_p0_text w_p0_now w_p0_memory w_p0_slot0 w_p0_slot1 f_p0_text_characters f_p0_now_before0 f_p0_now_before1 w_p0_now_grid = some v) : Met l yL_load wsL_load ({ frames := 7, cells := 1, slots := 6, locals := 150 } : Room) (PCx z D K [.ref a_p0, .ref a_p1] σ) (qwI z D (fun r σ2 => r = v.1 ∧ ∃ a_q1 : Nat, σ2 a_p1 = some (eJ K 1 v.2.1) ∧ σ2 a_p0_now = some (cl0 a_p0_now_before0 a_p0_now_before1 a_q1 v.2.2.1) ∧ σ2 a_p0_memory = some (cl3 a_p0_memory_ring v.2.2.2.1) ∧ σ2 a_p0_slot0 = some (cl4 a_p0_slot0_kept v.2.2.2.2.1) ∧ σ2 a_p0_slot1 = some (cl4 a_p0_slot1_kept v.2.2.2.2.2.1) ∧ σ2 a_p0_now_before0 = some (eJ K 121 v.2.2.2.2.2.2.1) ∧ σ2 a_p0_now_before1 = some (eJ K 121 v.2.2.2.2.2.2.2.1) ∧ σ2 a_q1 = some (cl2  v.2.2.2.2.2.2.2.2) ∧ ∀ (q : Nat) (f : va_E), σ q = some f → q ≠ a_p1 → q ≠ a_p0_now → q ≠ a_p0_memory → q ≠ a_p0_slot0 → q ≠ a_p0_slot1 → q ≠ a_p0_now_before0 → q ≠ a_p0_now_before1 → σ2 q = some f)) 1 6 (zA z) := by
  refine mh_enter (cc := cL_load) (maxL := 3) (ret := (some .int)) (own := RL) (lv := [(0, .ref a_p0), (1, .ref a_p1)]) (by decide) rfl rfl (Nat.le_of_ble_eq_true rfl) rfl ?_
  intro p e s m below meth c ls hC hx hb hown hts hK hr hlocks hnm hz hM hS hl hX hex
  unfold fL_load at h
  refine lv_aload_n hx hb dL_load_0 rfl (lv_at hl 1 rfl) ?_
  refine lv_iconst (v := 0) hx hb dL_load_1 (by decide) ?_
  refine lv_aload_n hx hb dL_load_2 rfl (lv_at hl 0 rfl) ?_
  obtain ⟨r1, hr1, h⟩ := ob_some h
  refine mx_ci (mx_runV (As := []) (rest := [.int 0, .ref a_p1]) (ci := 5) (C := RX7) (T := TX7) (N := 6) hC hX hM hS hc_p0 rfl (c_X7_load (a_t := a_p0) (a_t_text := a_p0_text) (a_t_now := a_p0_now) (a_t_copy := a_p0_copy) (a_t_memory := a_p0_memory) (a_t_slot0 := a_p0_slot0) (a_t_slot1 := a_p0_slot1) (a_t_text_characters := a_p0_text_characters) (a_t_now_before0 := a_p0_now_before0) (a_t_now_before1 := a_p0_now_before1) (a_t_now_grid := a_p0_now_grid) (a_t_memory_ring := a_p0_memory_ring) (a_t_slot0_kept := a_p0_slot0_kept) (a_t_slot1_kept := a_p0_slot1_kept) (w_t_text := w_p0_text) (w_t_now := w_p0_now) (w_t_memory := w_p0_memory) (w_t_slot0 := w_p0_slot0) (w_t_slot1 := w_p0_slot1) (f_t_text_characters := f_p0_text_characters) (f_t_now_before0 := f_p0_now_before0) (f_t_now_before1 := f_p0_now_before1) (hc_t := hc_p0) (hc_t_text := hc_p0_text) (hc_t_now := hc_p0_now) (hc_t_memory := hc_p0_memory) (hc_t_slot0 := hc_p0_slot0) (hc_t_slot1 := hc_p0_slot1) (hc_t_text_characters := hc_p0_text_characters) (hc_t_now_before0 := hc_p0_now_before0) (hc_t_now_before1 := hc_p0_now_before1) (n_t_t_memory := n_p0_p0_memory) (n_t_t_now := n_p0_p0_now) (n_t_t_now_before0 := n_p0_p0_now_before0) (n_t_t_now_before1 := n_p0_p0_now_before1) (n_t_t_slot0 := n_p0_p0_slot0) (n_t_t_slot1 := n_p0_p0_slot1) (n_t_memory_t_now := n_p0_memory_p0_now) (n_t_memory_t_now_before0 := n_p0_memory_p0_now_before0) (n_t_memory_t_now_before1 := n_p0_memory_p0_now_before1) (n_t_memory_t_slot0 := n_p0_memory_p0_slot0) (n_t_memory_t_slot1 := n_p0_memory_p0_slot1) (n_t_memory_t_text := n_p0_memory_p0_text) (n_t_memory_t_text_characters := n_p0_memory_p0_text_characters) (n_t_now_t_now_before0 := n_p0_now_p0_now_before0) (n_t_now_t_now_before1 := n_p0_now_p0_now_before1) (n_t_now_t_slot0 := n_p0_now_p0_slot0) (n_t_now_t_slot1 := n_p0_now_p0_slot1) (n_t_now_t_text := n_p0_now_p0_text) (n_t_now_t_text_characters := n_p0_now_p0_text_characters) (n_t_now_before0_t_now_before1 := n_p0_now_before0_p0_now_before1) (n_t_now_before0_t_slot0 := n_p0_now_before0_p0_slot0) (n_t_now_before0_t_slot1 := n_p0_now_before0_p0_slot1) (n_t_now_before0_t_text := n_p0_now_before0_p0_text) (n_t_now_before0_t_text_characters := n_p0_now_before0_p0_text_characters) (n_t_now_before1_t_slot0 := n_p0_now_before1_p0_slot0) (n_t_now_before1_t_slot1 := n_p0_now_before1_p0_slot1) (n_t_now_before1_t_text := n_p0_now_before1_p0_text) (n_t_now_before1_t_text_characters := n_p0_now_before1_p0_text_characters) (n_t_slot0_t_slot1 := n_p0_slot0_p0_slot1) (n_t_slot0_t_text := n_p0_slot0_p0_text) (n_t_slot0_t_text_characters := n_p0_slot0_p0_text_characters) (n_t_slot1_t_text := n_p0_slot1_p0_text) (n_t_slot1_t_text_characters := n_p0_slot1_p0_text_characters) (hlt := hlt) (v := r1) hr1) gL_load_X7_load rfl rfl rfl rfl q_X7_load ⟨Nat.le_of_ble_eq_true rfl, Nat.le_of_ble_eq_true rfl⟩ rfl rfl (Nat.le_of_ble_eq_true rfl) hl.1 dL_load_3 ⟨Nat.le_of_ble_eq_true rfl, Nat.le_of_ble_eq_true rfl⟩) hS (fun E4 ce a_e5 H locs hvE hM hS hce hcv hcl => ?_) (fun r9 H locs σ1 hp3 hM hS => ?_)
  · subst hvE
    replace h := rsum_inl h
    by_cases c7 : E4 = "java/lang/IllegalStateException"
    · replace h := it_pos c7 h
      subst c7
      refine vx_catch (name := "java/lang/IllegalStateException") hown [] ⟨0, 8, 11, 15⟩ [] hex (fun _ h9 => by cases h9) (by decide) (by decide) (hts _ l_L_load_0) (va_Nw.use rfl (xc_S hX)) hce hcv hcl ?_
      refine W.eq (g2 := F0 m 11 ls [.ref a_e5]) rfl ?_
      refine lv_astore_n (lv' := [(2, .ref a_e5), (0, .ref a_p0), (1, .ref a_p1)]) hx hb dL_load_11 rfl hl (by decide) rfl (fun ls hl => ?_)
      refine lv_iconst (v := 1) hx hb dL_load_12 (by decide) ?_
      cases h
      exact W.iret hx hb hr (fun t ht hW => ⟨⟨_, _, rfl, ⟨rfl, a_p0_now_grid, hc_p1, hc_p0_now, hc_p0_memory, hc_p0_slot0, hc_p0_slot1, hc_p0_now_before0, hc_p0_now_before1, hc_p0_now_grid, (fun _ _ h9 _ _ _ _ _ _ _ => h9)⟩, by show MW z D _ t.heap; rw [ht]; exact hM⟩, hS.F ht⟩) hS.2.2 dL_load_13 hlocks
    replace h := it_neg c7 h
    cases h
  · have ho_p0 := hc_p0
    have ho_p0_text := hc_p0_text
    have ho_p0_now := hc_p0_now
    have ho_p0_memory := hc_p0_memory
    have ho_p0_slot0 := hc_p0_slot0
    have ho_p0_slot1 := hc_p0_slot1
    have ho_p0_text_characters := hc_p0_text_characters
    have ho_p0_now_before0 := hc_p0_now_before0
    have ho_p0_now_before1 := hc_p0_now_before1
    have ho_p0_now_grid := hc_p0_now_grid
    have ho_p1 := hc_p1
    obtain ⟨w6, hw9, hr9, a_q1, hq8, hc_p0_now, hc_p0_memory, hc_p0_slot0, hc_p0_slot1, hc_p0_now_before0, hc_p0_now_before1, hc_q1, ho2⟩ := hp3
    replace hr9 := hr9.symm
    subst hr9
    subst hw9
    replace h := rsum_inr h
    have n_p0_q1 : a_p0 ≠ a_q1 := hq8 a_p0 _ ho_p0
    have n_p0_text_q1 : a_p0_text ≠ a_q1 := hq8 a_p0_text _ ho_p0_text
    have n_p0_now_q1 : a_p0_now ≠ a_q1 := hq8 a_p0_now _ ho_p0_now
    have n_p0_memory_q1 : a_p0_memory ≠ a_q1 := hq8 a_p0_memory _ ho_p0_memory
    have n_p0_slot0_q1 : a_p0_slot0 ≠ a_q1 := hq8 a_p0_slot0 _ ho_p0_slot0
    have n_p0_slot1_q1 : a_p0_slot1 ≠ a_q1 := hq8 a_p0_slot1 _ ho_p0_slot1
    have n_p0_text_characters_q1 : a_p0_text_characters ≠ a_q1 := hq8 a_p0_text_characters _ ho_p0_text_characters
    have n_p0_now_before0_q1 : a_p0_now_before0 ≠ a_q1 := hq8 a_p0_now_before0 _ ho_p0_now_before0
    have n_p0_now_before1_q1 : a_p0_now_before1 ≠ a_q1 := hq8 a_p0_now_before1 _ ho_p0_now_before1
    have n_p0_now_grid_q1 : a_p0_now_grid ≠ a_q1 := hq8 a_p0_now_grid _ ho_p0_now_grid
    have n_p1_q1 : a_p1 ≠ a_q1 := hq8 a_p1 _ ho_p1
    have hqf_q1 : ∀ (b : Nat) (f : va_E), σ b = some f → b ≠ a_q1 := by
      intro b f hb
      by_cases e0 : b = a_p1
      · rw [e0]; exact n_p1_q1
      by_cases e1 : b = a_p0_now
      · rw [e1]; exact n_p0_now_q1
      by_cases e2 : b = a_p0_memory
      · rw [e2]; exact n_p0_memory_q1
      by_cases e3 : b = a_p0_slot0
      · rw [e3]; exact n_p0_slot0_q1
      by_cases e4 : b = a_p0_slot1
      · rw [e4]; exact n_p0_slot1_q1
      by_cases e5 : b = a_p0_now_before0
      · rw [e5]; exact n_p0_now_before0_q1
      by_cases e6 : b = a_p0_now_before1
      · rw [e6]; exact n_p0_now_before1_q1
      exact hq8 b f hb
    replace hc_p1 := ho2 a_p1 _ hc_p1 (Ne.symm n_p0_now_p1) (Ne.symm n_p0_memory_p1) (Ne.symm n_p0_slot0_p1) (Ne.symm n_p0_slot1_p1) (Ne.symm n_p0_now_before0_p1) (Ne.symm n_p0_now_before1_p1)
    have hf9 := fun (q : Nat) (f : va_E) (hf : σ q = some f) (n0 : q ≠ a_p1) (n1 : q ≠ a_p0_now) (n2 : q ≠ a_p0_memory) (n3 : q ≠ a_p0_slot0) (n4 : q ≠ a_p0_slot1) (n5 : q ≠ a_p0_now_before0) (n6 : q ≠ a_p0_now_before1) => ho2 q f hf n1 n2 n3 n4 n5 n6
    refine W.widen (k := 1) (n := 6) (Nat.le_of_ble_eq_true rfl) (Nat.le_of_ble_eq_true rfl) ?_
    refine lv_i2l hx hb dL_load_6 rfl ?_
    obtain ⟨c10, h⟩ := gd_some h
    refine mw_stJ hC hM hS hc_p1 (inB_ok c10) dL_load_7 (fun H locs σ1 hM hS hc_p1 ho11 => ?_)
    replace hc_p1 : σ1 a_p1 = some (eJ K 1 (vp_updL f_p1 (0 : Int32).toNatClampNeg w6.1.toInt64)) := hc_p1
    replace hc_p0_now := ho11 a_p0_now _ hc_p0_now n_p0_now_p1
    replace hc_p0_memory := ho11 a_p0_memory _ hc_p0_memory n_p0_memory_p1
    replace hc_p0_slot0 := ho11 a_p0_slot0 _ hc_p0_slot0 n_p0_slot0_p1
    replace hc_p0_slot1 := ho11 a_p0_slot1 _ hc_p0_slot1 n_p0_slot1_p1
    replace hc_p0_now_before0 := ho11 a_p0_now_before0 _ hc_p0_now_before0 n_p0_now_before0_p1
    replace hc_p0_now_before1 := ho11 a_p0_now_before1 _ hc_p0_now_before1 n_p0_now_before1_p1
    replace hc_q1 := ho11 a_q1 _ hc_q1 (Ne.symm n_p1_q1)
    have hf12 := fun (q : Nat) (f : va_E) (hf : σ q = some f) (n0 : q ≠ a_p1) (n1 : q ≠ a_p0_now) (n2 : q ≠ a_p0_memory) (n3 : q ≠ a_p0_slot0) (n4 : q ≠ a_p0_slot1) (n5 : q ≠ a_p0_now_before0) (n6 : q ≠ a_p0_now_before1) => ho11 q f (hf9 q f hf n0 n1 n2 n3 n4 n5 n6) n0
    refine lv_goto (tgt := 14) hx hb dL_load_8 (by decide) ?_
    refine lv_iconst (v := 0) hx hb dL_load_14 (by decide) ?_
    cases h
    exact W.iret hx hb hr (fun t ht hW => ⟨⟨_, _, rfl, ⟨rfl, a_q1, hc_p1, hc_p0_now, hc_p0_memory, hc_p0_slot0, hc_p0_slot1, hc_p0_now_before0, hc_p0_now_before1, hc_q1, hf12⟩, by show MW z D _ t.heap; rw [ht]; exact hM⟩, hS.F ht⟩) hS.2.2 dL_load_15 hlocks
theorem l_L_about_0 : Cond.classLink RL 13 "java/lang/IllegalArgumentException" ∈ wsL_about := (List.mem_cons_of_mem _ (List.mem_append_left _ (List.mem_append_left _ (List.mem_append_left _ (List.mem_append_left _ (List.mem_append_left _ (List.mem_of_getElem? (i := 0) rfl)))))))
theorem q_L_about : yL_about.cls ≠ "java/lang/invoke/MethodHandle" ∧ yL_about.cls ≠ "java/lang/invoke/VarHandle" ∧ (parseMethodDescriptor yL_about.desc).map (fun d => d.parameters.length) = some 3 := by decide +kernel
def fL_about (f_p2 : Nat → Int64) (w_p0_now : Int32 × Int32 × Int32 × Int32 × Int64 × Int64 × Int32 × Int32) (w_p0_now_grid : Int32 × Int32 × Int64 × Int64 × Int64) (p1 : Int32) : Option (Int32 × (Nat → Int64)) := (fX7_about w_p0_now w_p0_now_grid p1).bind fun r1 => rsum r1 (fun E4 => if E4 = "java/lang/IllegalArgumentException" then (some (((1 : Int32), f_p2))) else (none)) (fun w6 => if inB 0 1 = true then (some (((0 : Int32), (vp_updL f_p2 (0 : Int32).toNatClampNeg w6.toInt64)))) else none)
set_option maxHeartbeats 4000000 in
set_option maxRecDepth 100000 in
theorem c_L_about {l : Launch} {z : Nat} {D : va_G} {K : Nat → ClassId} {σ : mwm} {a_p0 a_p2 a_p0_text a_p0_now a_p0_copy a_p0_memory a_p0_slot0 a_p0_slot1 a_p0_now_before0 a_p0_now_before1 a_p0_now_grid : Nat} {f_p2 : Nat → Int64} {w_p0_now : Int32 × Int32 × Int32 × Int32 × Int64 × Int64 × Int32 × Int32} {w_p0_now_grid : Int32 × Int32 × Int64 × Int64 × Int64} {p1 : Int32} (hc_p0 : σ a_p0 = some (cl5 a_p0_text a_p0_now a_p0_copy a_p0_memory a_p0_slot0 a_p0_slot1)) (hc_p2 : σ a_p2 = some (eJ K 1 f_p2)) (hc_p0_now : σ a_p0_now = some (cl0 a_p0_now_before0 a_p0_now_before1 a_p0_now_grid w_p0_now)) (hc_p0_now_grid : σ a_p0_now_grid = some (cl2  w_p0_now_grid)) (hlt : l.stackTraces = false) {v : Int32 × (Nat → Int64)} (h : fL_about f_p2 w_p0_now w_p0_now_grid p1 = some v) : Met l yL_about wsL_about ({ frames := 7, cells := 1, slots := 6, locals := 148 } : Room) (PCx z D K [.ref a_p0, .int p1, .ref a_p2] σ) (qwI z D (fun r σ2 => r = v.1 ∧ σ2 a_p2 = some (eJ K 1 v.2) ∧ ∀ (q : Nat) (f : va_E), σ q = some f → q ≠ a_p2 → σ2 q = some f)) 1 6 (zA z) := by
  refine mh_enter (cc := cL_about) (maxL := 4) (ret := (some .int)) (own := RL) (lv := [(0, .ref a_p0), (1, .int p1), (2, .ref a_p2)]) (by decide) rfl rfl (Nat.le_of_ble_eq_true rfl) rfl ?_
  intro p e s m below meth c ls hC hx hb hown hts hK hr hlocks hnm hz hM hS hl hX hex
  unfold fL_about at h
  refine lv_aload_n hx hb dL_about_0 rfl (lv_at hl 2 rfl) ?_
  refine lv_iconst (v := 0) hx hb dL_about_1 (by decide) ?_
  refine lv_aload_n hx hb dL_about_2 rfl (lv_at hl 0 rfl) ?_
  refine lv_iload_n hx hb dL_about_3 rfl (lv_at hl 1 rfl) ?_
  obtain ⟨r1, hr1, h⟩ := ob_some h
  refine mx_ci (mx_runV (As := [.int p1]) (rest := [.int 0, .ref a_p2]) (ci := 5) (C := RX7) (T := TX7) (N := 6) hC hX hM hS hc_p0 rfl (c_X7_about (a_t := a_p0) (a_t_text := a_p0_text) (a_t_now := a_p0_now) (a_t_copy := a_p0_copy) (a_t_memory := a_p0_memory) (a_t_slot0 := a_p0_slot0) (a_t_slot1 := a_p0_slot1) (a_t_now_before0 := a_p0_now_before0) (a_t_now_before1 := a_p0_now_before1) (a_t_now_grid := a_p0_now_grid) (w_t_now := w_p0_now) (w_t_now_grid := w_p0_now_grid) (p0 := p1) (hc_t := hc_p0) (hc_t_now := hc_p0_now) (hc_t_now_grid := hc_p0_now_grid) (hlt := hlt) (v := r1) hr1) gL_about_X7_about rfl rfl rfl rfl q_X7_about ⟨Nat.le_of_ble_eq_true rfl, Nat.le_of_ble_eq_true rfl⟩ rfl rfl (Nat.le_of_ble_eq_true rfl) hl.1 dL_about_4 ⟨Nat.le_of_ble_eq_true rfl, Nat.le_of_ble_eq_true rfl⟩) hS (fun E4 ce a_e5 H locs hvE hM hS hce hcv hcl => ?_) (fun r9 H locs σ1 hp3 hM hS => ?_)
  · subst hvE
    replace h := rsum_inl h
    by_cases c7 : E4 = "java/lang/IllegalArgumentException"
    · replace h := it_pos c7 h
      subst c7
      refine vx_catch (name := "java/lang/IllegalArgumentException") hown [] ⟨0, 9, 12, 13⟩ [] hex (fun _ h9 => by cases h9) (by decide) (by decide) (hts _ l_L_about_0) (va_Nw.use rfl (xc_A hX)) hce hcv hcl ?_
      refine W.eq (g2 := F0 m 12 ls [.ref a_e5]) rfl ?_
      refine lv_astore_n (lv' := [(3, .ref a_e5), (0, .ref a_p0), (1, .int p1), (2, .ref a_p2)]) hx hb dL_about_12 rfl hl (by decide) rfl (fun ls hl => ?_)
      refine lv_iconst (v := 1) hx hb dL_about_13 (by decide) ?_
      cases h
      exact W.iret hx hb hr (fun t ht hW => ⟨⟨_, _, rfl, ⟨rfl, hc_p2, (fun _ _ h9 _ => h9)⟩, by show MW z D _ t.heap; rw [ht]; exact hM⟩, hS.F ht⟩) hS.2.2 dL_about_14 hlocks
    replace h := it_neg c7 h
    cases h
  · obtain ⟨w6, hw9, hr9, ho2⟩ := hp3
    replace hr9 := hr9.symm
    subst hr9
    subst hw9
    replace h := rsum_inr h
    replace hc_p2 := ho2 a_p2 _ hc_p2 
    have hf8 := fun (q : Nat) (f : va_E) (hf : σ q = some f) (n0 : q ≠ a_p2) => ho2 q f hf 
    refine W.widen (k := 1) (n := 6) (Nat.le_of_ble_eq_true rfl) (Nat.le_of_ble_eq_true rfl) ?_
    refine lv_i2l hx hb dL_about_7 rfl ?_
    obtain ⟨c9, h⟩ := gd_some h
    refine mw_stJ hC hM hS hc_p2 (inB_ok c9) dL_about_8 (fun H locs σ1 hM hS hc_p2 ho10 => ?_)
    replace hc_p2 : σ1 a_p2 = some (eJ K 1 (vp_updL f_p2 (0 : Int32).toNatClampNeg w6.toInt64)) := hc_p2
    have hf11 := fun (q : Nat) (f : va_E) (hf : σ q = some f) (n0 : q ≠ a_p2) => ho10 q f (hf8 q f hf n0) n0
    refine lv_goto (tgt := 15) hx hb dL_about_9 (by decide) ?_
    refine lv_iconst (v := 0) hx hb dL_about_15 (by decide) ?_
    cases h
    exact W.iret hx hb hr (fun t ht hW => ⟨⟨_, _, rfl, ⟨rfl, hc_p2, hf11⟩, by show MW z D _ t.heap; rw [ht]; exact hM⟩, hS.F ht⟩) hS.2.2 dL_about_16 hlocks
theorem l_L_stones_0 : Cond.classLink RL 28 "java/lang/IndexOutOfBoundsException" ∈ wsL_stones := (List.mem_cons_of_mem _ (List.mem_append_left _ (List.mem_append_left _ (List.mem_append_left _ (List.mem_of_getElem? (i := 0) rfl)))))
theorem q_L_stones : yL_stones.cls ≠ "java/lang/invoke/MethodHandle" ∧ yL_stones.cls ≠ "java/lang/invoke/VarHandle" ∧ (parseMethodDescriptor yL_stones.desc).map (fun d => d.parameters.length) = some 3 := by decide +kernel
def fL_stones (f_p2 : Nat → Int64) (w_p0_now : Int32 × Int32 × Int32 × Int32 × Int64 × Int64 × Int32 × Int32) (p1 : Int32) : Option (Int32 × (Nat → Int64)) := (fX7_stones w_p0_now p1).bind fun r1 => rsum r1 (fun E4 => if E4 = "java/lang/IndexOutOfBoundsException" then (some (((1 : Int32), f_p2))) else (none)) (fun w6 => if inB 0 1 = true then (some (((0 : Int32), (vp_updL f_p2 (0 : Int32).toNatClampNeg w6)))) else none)
set_option maxHeartbeats 4000000 in
set_option maxRecDepth 100000 in
theorem c_L_stones {l : Launch} {z : Nat} {D : va_G} {K : Nat → ClassId} {σ : mwm} {a_p0 a_p2 a_p0_text a_p0_now a_p0_copy a_p0_memory a_p0_slot0 a_p0_slot1 a_p0_now_before0 a_p0_now_before1 a_p0_now_grid : Nat} {f_p2 : Nat → Int64} {w_p0_now : Int32 × Int32 × Int32 × Int32 × Int64 × Int64 × Int32 × Int32} {p1 : Int32} (hc_p0 : σ a_p0 = some (cl5 a_p0_text a_p0_now a_p0_copy a_p0_memory a_p0_slot0 a_p0_slot1)) (hc_p2 : σ a_p2 = some (eJ K 1 f_p2)) (hc_p0_now : σ a_p0_now = some (cl0 a_p0_now_before0 a_p0_now_before1 a_p0_now_grid w_p0_now)) (hlt : l.stackTraces = false) {v : Int32 × (Nat → Int64)} (h : fL_stones f_p2 w_p0_now p1 = some v) : Met l yL_stones wsL_stones ({ frames := 7, cells := 1, slots := 6, locals := 120 } : Room) (PCx z D K [.ref a_p0, .int p1, .ref a_p2] σ) (qwI z D (fun r σ2 => r = v.1 ∧ σ2 a_p2 = some (eJ K 1 v.2) ∧ ∀ (q : Nat) (f : va_E), σ q = some f → q ≠ a_p2 → σ2 q = some f)) 1 6 (zA z) := by
  refine mh_enter (cc := cL_stones) (maxL := 4) (ret := (some .int)) (own := RL) (lv := [(0, .ref a_p0), (1, .int p1), (2, .ref a_p2)]) (by decide) rfl rfl (Nat.le_of_ble_eq_true rfl) rfl ?_
  intro p e s m below meth c ls hC hx hb hown hts hK hr hlocks hnm hz hM hS hl hX hex
  unfold fL_stones at h
  refine lv_aload_n hx hb dL_stones_0 rfl (lv_at hl 2 rfl) ?_
  refine lv_iconst (v := 0) hx hb dL_stones_1 (by decide) ?_
  refine lv_aload_n hx hb dL_stones_2 rfl (lv_at hl 0 rfl) ?_
  refine lv_iload_n hx hb dL_stones_3 rfl (lv_at hl 1 rfl) ?_
  obtain ⟨r1, hr1, h⟩ := ob_some h
  refine mx_cl (mx_runV (As := [.int p1]) (rest := [.int 0, .ref a_p2]) (ci := 5) (C := RX7) (T := TX7) (N := 6) hC hX hM hS hc_p0 rfl (c_X7_stones (a_t := a_p0) (a_t_text := a_p0_text) (a_t_now := a_p0_now) (a_t_copy := a_p0_copy) (a_t_memory := a_p0_memory) (a_t_slot0 := a_p0_slot0) (a_t_slot1 := a_p0_slot1) (a_t_now_before0 := a_p0_now_before0) (a_t_now_before1 := a_p0_now_before1) (a_t_now_grid := a_p0_now_grid) (w_t_now := w_p0_now) (p0 := p1) (hc_t := hc_p0) (hc_t_now := hc_p0_now) (hlt := hlt) (v := r1) hr1) gL_stones_X7_stones rfl rfl rfl rfl q_X7_stones ⟨Nat.le_of_ble_eq_true rfl, Nat.le_of_ble_eq_true rfl⟩ rfl rfl (Nat.le_of_ble_eq_true rfl) hl.1 dL_stones_4 ⟨Nat.le_of_ble_eq_true rfl, Nat.le_of_ble_eq_true rfl⟩) hS (fun E4 ce a_e5 H locs hvE hM hS hce hcv hcl => ?_) (fun r9 H locs σ1 hp3 hM hS => ?_)
  · subst hvE
    replace h := rsum_inl h
    by_cases c7 : E4 = "java/lang/IndexOutOfBoundsException"
    · replace h := it_pos c7 h
      subst c7
      refine vx_catch (name := "java/lang/IndexOutOfBoundsException") hown [] ⟨0, 8, 11, 28⟩ [] hex (fun _ h9 => by cases h9) (by decide) (by decide) (hts _ l_L_stones_0) (va_Nw.use rfl (xc_O hX)) hce hcv hcl ?_
      refine W.eq (g2 := F0 m 11 ls [.ref a_e5]) rfl ?_
      refine lv_astore_n (lv' := [(3, .ref a_e5), (0, .ref a_p0), (1, .int p1), (2, .ref a_p2)]) hx hb dL_stones_11 rfl hl (by decide) rfl (fun ls hl => ?_)
      refine lv_iconst (v := 1) hx hb dL_stones_12 (by decide) ?_
      cases h
      exact W.iret hx hb hr (fun t ht hW => ⟨⟨_, _, rfl, ⟨rfl, hc_p2, (fun _ _ h9 _ => h9)⟩, by show MW z D _ t.heap; rw [ht]; exact hM⟩, hS.F ht⟩) hS.2.2 dL_stones_13 hlocks
    replace h := it_neg c7 h
    cases h
  · obtain ⟨w6, hw9, hr9, ho2⟩ := hp3
    replace hr9 := hr9.symm
    subst hr9
    subst hw9
    replace h := rsum_inr h
    replace hc_p2 := ho2 a_p2 _ hc_p2 
    have hf8 := fun (q : Nat) (f : va_E) (hf : σ q = some f) (n0 : q ≠ a_p2) => ho2 q f hf 
    refine W.widen (k := 1) (n := 6) (Nat.le_of_ble_eq_true rfl) (Nat.le_of_ble_eq_true rfl) ?_
    obtain ⟨c9, h⟩ := gd_some h
    refine mw_stJ hC hM hS hc_p2 (inB_ok c9) dL_stones_7 (fun H locs σ1 hM hS hc_p2 ho10 => ?_)
    replace hc_p2 : σ1 a_p2 = some (eJ K 1 (vp_updL f_p2 (0 : Int32).toNatClampNeg w6)) := hc_p2
    have hf11 := fun (q : Nat) (f : va_E) (hf : σ q = some f) (n0 : q ≠ a_p2) => ho10 q f (hf8 q f hf n0) n0
    refine lv_goto (tgt := 14) hx hb dL_stones_8 (by decide) ?_
    refine lv_iconst (v := 0) hx hb dL_stones_14 (by decide) ?_
    cases h
    exact W.iret hx hb hr (fun t ht hW => ⟨⟨_, _, rfl, ⟨rfl, hc_p2, hf11⟩, by show MW z D _ t.heap; rw [ht]; exact hM⟩, hS.F ht⟩) hS.2.2 dL_stones_15 hlocks
theorem l_L_colour_0 : Cond.classLink RL 28 "java/lang/IndexOutOfBoundsException" ∈ wsL_colour := (List.mem_cons_of_mem _ (List.mem_append_left _ (List.mem_append_left _ (List.mem_append_left _ (List.mem_append_left _ (List.mem_append_left _ (List.mem_append_left _ (List.mem_of_getElem? (i := 0) rfl))))))))
theorem l_L_colour_1 : Cond.classLink RL 13 "java/lang/IllegalArgumentException" ∈ wsL_colour := (List.mem_cons_of_mem _ (List.mem_append_left _ (List.mem_append_left _ (List.mem_append_left _ (List.mem_append_left _ (List.mem_append_left _ (List.mem_append_left _ (List.mem_of_getElem? (i := 1) rfl))))))))
theorem q_L_colour : yL_colour.cls ≠ "java/lang/invoke/MethodHandle" ∧ yL_colour.cls ≠ "java/lang/invoke/VarHandle" ∧ (parseMethodDescriptor yL_colour.desc).map (fun d => d.parameters.length) = some 4 := by decide +kernel
def fL_colour (f_p3 : Nat → Int64) (w_p0_now : Int32 × Int32 × Int32 × Int32 × Int64 × Int64 × Int32 × Int32) (w_p0_now_grid : Int32 × Int32 × Int64 × Int64 × Int64) (p1 : Int32) (p2 : Int32) : Option (Int32 × (Nat → Int64)) := (fX7_colour w_p0_now w_p0_now_grid p1 p2).bind fun r1 => rsum r1 (fun E4 => if E4 = "java/lang/IndexOutOfBoundsException" then (some (((1 : Int32), f_p3))) else (if E4 = "java/lang/IllegalArgumentException" then (some (((2 : Int32), f_p3))) else (none))) (fun w6 => if inB 0 1 = true then (some (((0 : Int32), (vp_updL f_p3 (0 : Int32).toNatClampNeg w6.toInt64)))) else none)
set_option maxHeartbeats 4000000 in
set_option maxRecDepth 100000 in
theorem c_L_colour {l : Launch} {z : Nat} {D : va_G} {K : Nat → ClassId} {σ : mwm} {a_p0 a_p3 a_p0_text a_p0_now a_p0_copy a_p0_memory a_p0_slot0 a_p0_slot1 a_p0_now_before0 a_p0_now_before1 a_p0_now_grid : Nat} {f_p3 : Nat → Int64} {w_p0_now : Int32 × Int32 × Int32 × Int32 × Int64 × Int64 × Int32 × Int32} {w_p0_now_grid : Int32 × Int32 × Int64 × Int64 × Int64} {p1 : Int32} {p2 : Int32} (hc_p0 : σ a_p0 = some (cl5 a_p0_text a_p0_now a_p0_copy a_p0_memory a_p0_slot0 a_p0_slot1)) (hc_p3 : σ a_p3 = some (eJ K 1 f_p3)) (hc_p0_now : σ a_p0_now = some (cl0 a_p0_now_before0 a_p0_now_before1 a_p0_now_grid w_p0_now)) (hc_p0_now_grid : σ a_p0_now_grid = some (cl2  w_p0_now_grid)) (hlt : l.stackTraces = false) {v : Int32 × (Nat → Int64)} (h : fL_colour f_p3 w_p0_now w_p0_now_grid p1 p2 = some v) : Met l yL_colour wsL_colour ({ frames := 7, cells := 1, slots := 6, locals := 121 } : Room) (PCx z D K [.ref a_p0, .int p1, .int p2, .ref a_p3] σ) (qwI z D (fun r σ2 => r = v.1 ∧ σ2 a_p3 = some (eJ K 1 v.2) ∧ ∀ (q : Nat) (f : va_E), σ q = some f → q ≠ a_p3 → σ2 q = some f)) 1 6 (zA z) := by
  refine mh_enter (cc := cL_colour) (maxL := 5) (ret := (some .int)) (own := RL) (lv := [(0, .ref a_p0), (1, .int p1), (2, .int p2), (3, .ref a_p3)]) (by decide) rfl rfl (Nat.le_of_ble_eq_true rfl) rfl ?_
  intro p e s m below meth c ls hC hx hb hown hts hK hr hlocks hnm hz hM hS hl hX hex
  unfold fL_colour at h
  refine lv_aload_n hx hb dL_colour_0 rfl (lv_at hl 3 rfl) ?_
  refine lv_iconst (v := 0) hx hb dL_colour_1 (by decide) ?_
  refine lv_aload_n hx hb dL_colour_2 rfl (lv_at hl 0 rfl) ?_
  refine lv_iload_n hx hb dL_colour_3 rfl (lv_at hl 1 rfl) ?_
  refine lv_iload_n hx hb dL_colour_4 rfl (lv_at hl 2 rfl) ?_
  obtain ⟨r1, hr1, h⟩ := ob_some h
  refine mx_ci (mx_runV (As := [.int p1, .int p2]) (rest := [.int 0, .ref a_p3]) (ci := 5) (C := RX7) (T := TX7) (N := 6) hC hX hM hS hc_p0 rfl (c_X7_colour (a_t := a_p0) (a_t_text := a_p0_text) (a_t_now := a_p0_now) (a_t_copy := a_p0_copy) (a_t_memory := a_p0_memory) (a_t_slot0 := a_p0_slot0) (a_t_slot1 := a_p0_slot1) (a_t_now_before0 := a_p0_now_before0) (a_t_now_before1 := a_p0_now_before1) (a_t_now_grid := a_p0_now_grid) (w_t_now := w_p0_now) (w_t_now_grid := w_p0_now_grid) (p0 := p1) (p1 := p2) (hc_t := hc_p0) (hc_t_now := hc_p0_now) (hc_t_now_grid := hc_p0_now_grid) (hlt := hlt) (v := r1) hr1) gL_colour_X7_colour rfl rfl rfl rfl q_X7_colour ⟨Nat.le_of_ble_eq_true rfl, Nat.le_of_ble_eq_true rfl⟩ rfl rfl (Nat.le_of_ble_eq_true rfl) hl.1 dL_colour_5 ⟨Nat.le_of_ble_eq_true rfl, Nat.le_of_ble_eq_true rfl⟩) hS (fun E4 ce a_e5 H locs hvE hM hS hce hcv hcl => ?_) (fun r9 H locs σ1 hp3 hM hS => ?_)
  · subst hvE
    replace h := rsum_inl h
    by_cases c7 : E4 = "java/lang/IndexOutOfBoundsException"
    · replace h := it_pos c7 h
      subst c7
      refine vx_catch (name := "java/lang/IndexOutOfBoundsException") hown [] ⟨0, 10, 13, 28⟩ [⟨0, 10, 17, 13⟩] hex (fun _ h9 => by cases h9) (by decide) (by decide) (hts _ l_L_colour_0) (va_Nw.use rfl (xc_O hX)) hce hcv hcl ?_
      refine W.eq (g2 := F0 m 13 ls [.ref a_e5]) rfl ?_
      refine lv_astore (lv' := [(4, .ref a_e5), (0, .ref a_p0), (1, .int p1), (2, .int p2), (3, .ref a_p3)]) hx hb dL_colour_13 hl (by decide) rfl (fun ls hl => ?_)
      refine lv_iconst (v := 1) hx hb dL_colour_15 (by decide) ?_
      cases h
      exact W.iret hx hb hr (fun t ht hW => ⟨⟨_, _, rfl, ⟨rfl, hc_p3, (fun _ _ h9 _ => h9)⟩, by show MW z D _ t.heap; rw [ht]; exact hM⟩, hS.F ht⟩) hS.2.2 dL_colour_16 hlocks
    replace h := it_neg c7 h
    by_cases c8 : E4 = "java/lang/IllegalArgumentException"
    · replace h := it_pos c8 h
      subst c8
      refine vx_catch (name := "java/lang/IllegalArgumentException") hown [⟨0, 10, 13, 28⟩] ⟨0, 10, 17, 13⟩ [] hex (fun x9 h9 => by rw [List.mem_singleton.mp h9]; exact Or.inr ⟨(by decide), _, hts _ l_L_colour_0, hX.2.2.2.2.2.1⟩) (by decide) (by decide) (hts _ l_L_colour_1) (va_Nw.use rfl (xc_A hX)) hce hcv hcl ?_
      refine W.eq (g2 := F0 m 17 ls [.ref a_e5]) rfl ?_
      refine lv_astore (lv' := [(4, .ref a_e5), (0, .ref a_p0), (1, .int p1), (2, .int p2), (3, .ref a_p3)]) hx hb dL_colour_17 hl (by decide) rfl (fun ls hl => ?_)
      refine lv_iconst (v := 2) hx hb dL_colour_19 (by decide) ?_
      cases h
      exact W.iret hx hb hr (fun t ht hW => ⟨⟨_, _, rfl, ⟨rfl, hc_p3, (fun _ _ h9 _ => h9)⟩, by show MW z D _ t.heap; rw [ht]; exact hM⟩, hS.F ht⟩) hS.2.2 dL_colour_20 hlocks
    replace h := it_neg c8 h
    cases h
  · obtain ⟨w6, hw9, hr9, ho2⟩ := hp3
    replace hr9 := hr9.symm
    subst hr9
    subst hw9
    replace h := rsum_inr h
    replace hc_p3 := ho2 a_p3 _ hc_p3 
    have hf9 := fun (q : Nat) (f : va_E) (hf : σ q = some f) (n0 : q ≠ a_p3) => ho2 q f hf 
    refine W.widen (k := 1) (n := 6) (Nat.le_of_ble_eq_true rfl) (Nat.le_of_ble_eq_true rfl) ?_
    refine lv_i2l hx hb dL_colour_8 rfl ?_
    obtain ⟨c10, h⟩ := gd_some h
    refine mw_stJ hC hM hS hc_p3 (inB_ok c10) dL_colour_9 (fun H locs σ1 hM hS hc_p3 ho11 => ?_)
    replace hc_p3 : σ1 a_p3 = some (eJ K 1 (vp_updL f_p3 (0 : Int32).toNatClampNeg w6.toInt64)) := hc_p3
    have hf12 := fun (q : Nat) (f : va_E) (hf : σ q = some f) (n0 : q ≠ a_p3) => ho11 q f (hf9 q f hf n0) n0
    refine lv_goto (tgt := 21) hx hb dL_colour_10 (by decide) ?_
    refine lv_iconst (v := 0) hx hb dL_colour_21 (by decide) ?_
    cases h
    exact W.iret hx hb hr (fun t ht hW => ⟨⟨_, _, rfl, ⟨rfl, hc_p3, hf12⟩, by show MW z D _ t.heap; rw [ht]; exact hM⟩, hS.F ht⟩) hS.2.2 dL_colour_22 hlocks
theorem l_L_point_0 : Cond.classLink RL 28 "java/lang/IndexOutOfBoundsException" ∈ wsL_point := (List.mem_cons_of_mem _ (List.mem_append_left _ (List.mem_append_left _ (List.mem_append_left _ (List.mem_append_left _ (List.mem_append_left _ (List.mem_append_left _ (List.mem_of_getElem? (i := 0) rfl))))))))
theorem l_L_point_1 : Cond.classLink RL 13 "java/lang/IllegalArgumentException" ∈ wsL_point := (List.mem_cons_of_mem _ (List.mem_append_left _ (List.mem_append_left _ (List.mem_append_left _ (List.mem_append_left _ (List.mem_append_left _ (List.mem_append_left _ (List.mem_of_getElem? (i := 1) rfl))))))))
theorem q_L_point : yL_point.cls ≠ "java/lang/invoke/MethodHandle" ∧ yL_point.cls ≠ "java/lang/invoke/VarHandle" ∧ (parseMethodDescriptor yL_point.desc).map (fun d => d.parameters.length) = some 4 := by decide +kernel
def fL_point (f_p3 : Nat → Int64) (w_p0_now : Int32 × Int32 × Int32 × Int32 × Int64 × Int64 × Int32 × Int32) (w_p0_now_grid : Int32 × Int32 × Int64 × Int64 × Int64) (p1 : Int32) (p2 : Int32) : Option (Int32 × (Nat → Int64)) := (fX7_point w_p0_now w_p0_now_grid p1 p2).bind fun r1 => rsum r1 (fun E4 => if E4 = "java/lang/IndexOutOfBoundsException" then (some (((1 : Int32), f_p3))) else (if E4 = "java/lang/IllegalArgumentException" then (some (((2 : Int32), f_p3))) else (none))) (fun w6 => if inB 0 1 = true then (some (((0 : Int32), (vp_updL f_p3 (0 : Int32).toNatClampNeg w6.toInt64)))) else none)
set_option maxHeartbeats 4000000 in
set_option maxRecDepth 100000 in
theorem c_L_point {l : Launch} {z : Nat} {D : va_G} {K : Nat → ClassId} {σ : mwm} {a_p0 a_p3 a_p0_text a_p0_now a_p0_copy a_p0_memory a_p0_slot0 a_p0_slot1 a_p0_now_before0 a_p0_now_before1 a_p0_now_grid : Nat} {f_p3 : Nat → Int64} {w_p0_now : Int32 × Int32 × Int32 × Int32 × Int64 × Int64 × Int32 × Int32} {w_p0_now_grid : Int32 × Int32 × Int64 × Int64 × Int64} {p1 : Int32} {p2 : Int32} (hc_p0 : σ a_p0 = some (cl5 a_p0_text a_p0_now a_p0_copy a_p0_memory a_p0_slot0 a_p0_slot1)) (hc_p3 : σ a_p3 = some (eJ K 1 f_p3)) (hc_p0_now : σ a_p0_now = some (cl0 a_p0_now_before0 a_p0_now_before1 a_p0_now_grid w_p0_now)) (hc_p0_now_grid : σ a_p0_now_grid = some (cl2  w_p0_now_grid)) (hlt : l.stackTraces = false) {v : Int32 × (Nat → Int64)} (h : fL_point f_p3 w_p0_now w_p0_now_grid p1 p2 = some v) : Met l yL_point wsL_point ({ frames := 7, cells := 1, slots := 6, locals := 143 } : Room) (PCx z D K [.ref a_p0, .int p1, .int p2, .ref a_p3] σ) (qwI z D (fun r σ2 => r = v.1 ∧ σ2 a_p3 = some (eJ K 1 v.2) ∧ ∀ (q : Nat) (f : va_E), σ q = some f → q ≠ a_p3 → σ2 q = some f)) 1 6 (zA z) := by
  refine mh_enter (cc := cL_point) (maxL := 5) (ret := (some .int)) (own := RL) (lv := [(0, .ref a_p0), (1, .int p1), (2, .int p2), (3, .ref a_p3)]) (by decide) rfl rfl (Nat.le_of_ble_eq_true rfl) rfl ?_
  intro p e s m below meth c ls hC hx hb hown hts hK hr hlocks hnm hz hM hS hl hX hex
  unfold fL_point at h
  refine lv_aload_n hx hb dL_point_0 rfl (lv_at hl 3 rfl) ?_
  refine lv_iconst (v := 0) hx hb dL_point_1 (by decide) ?_
  refine lv_aload_n hx hb dL_point_2 rfl (lv_at hl 0 rfl) ?_
  refine lv_iload_n hx hb dL_point_3 rfl (lv_at hl 1 rfl) ?_
  refine lv_iload_n hx hb dL_point_4 rfl (lv_at hl 2 rfl) ?_
  obtain ⟨r1, hr1, h⟩ := ob_some h
  refine mx_ci (mx_runV (As := [.int p1, .int p2]) (rest := [.int 0, .ref a_p3]) (ci := 5) (C := RX7) (T := TX7) (N := 6) hC hX hM hS hc_p0 rfl (c_X7_point (a_t := a_p0) (a_t_text := a_p0_text) (a_t_now := a_p0_now) (a_t_copy := a_p0_copy) (a_t_memory := a_p0_memory) (a_t_slot0 := a_p0_slot0) (a_t_slot1 := a_p0_slot1) (a_t_now_before0 := a_p0_now_before0) (a_t_now_before1 := a_p0_now_before1) (a_t_now_grid := a_p0_now_grid) (w_t_now := w_p0_now) (w_t_now_grid := w_p0_now_grid) (p0 := p1) (p1 := p2) (hc_t := hc_p0) (hc_t_now := hc_p0_now) (hc_t_now_grid := hc_p0_now_grid) (hlt := hlt) (v := r1) hr1) gL_point_X7_point rfl rfl rfl rfl q_X7_point ⟨Nat.le_of_ble_eq_true rfl, Nat.le_of_ble_eq_true rfl⟩ rfl rfl (Nat.le_of_ble_eq_true rfl) hl.1 dL_point_5 ⟨Nat.le_of_ble_eq_true rfl, Nat.le_of_ble_eq_true rfl⟩) hS (fun E4 ce a_e5 H locs hvE hM hS hce hcv hcl => ?_) (fun r9 H locs σ1 hp3 hM hS => ?_)
  · subst hvE
    replace h := rsum_inl h
    by_cases c7 : E4 = "java/lang/IndexOutOfBoundsException"
    · replace h := it_pos c7 h
      subst c7
      refine vx_catch (name := "java/lang/IndexOutOfBoundsException") hown [] ⟨0, 10, 13, 28⟩ [⟨0, 10, 17, 13⟩] hex (fun _ h9 => by cases h9) (by decide) (by decide) (hts _ l_L_point_0) (va_Nw.use rfl (xc_O hX)) hce hcv hcl ?_
      refine W.eq (g2 := F0 m 13 ls [.ref a_e5]) rfl ?_
      refine lv_astore (lv' := [(4, .ref a_e5), (0, .ref a_p0), (1, .int p1), (2, .int p2), (3, .ref a_p3)]) hx hb dL_point_13 hl (by decide) rfl (fun ls hl => ?_)
      refine lv_iconst (v := 1) hx hb dL_point_15 (by decide) ?_
      cases h
      exact W.iret hx hb hr (fun t ht hW => ⟨⟨_, _, rfl, ⟨rfl, hc_p3, (fun _ _ h9 _ => h9)⟩, by show MW z D _ t.heap; rw [ht]; exact hM⟩, hS.F ht⟩) hS.2.2 dL_point_16 hlocks
    replace h := it_neg c7 h
    by_cases c8 : E4 = "java/lang/IllegalArgumentException"
    · replace h := it_pos c8 h
      subst c8
      refine vx_catch (name := "java/lang/IllegalArgumentException") hown [⟨0, 10, 13, 28⟩] ⟨0, 10, 17, 13⟩ [] hex (fun x9 h9 => by rw [List.mem_singleton.mp h9]; exact Or.inr ⟨(by decide), _, hts _ l_L_point_0, hX.2.2.2.2.2.1⟩) (by decide) (by decide) (hts _ l_L_point_1) (va_Nw.use rfl (xc_A hX)) hce hcv hcl ?_
      refine W.eq (g2 := F0 m 17 ls [.ref a_e5]) rfl ?_
      refine lv_astore (lv' := [(4, .ref a_e5), (0, .ref a_p0), (1, .int p1), (2, .int p2), (3, .ref a_p3)]) hx hb dL_point_17 hl (by decide) rfl (fun ls hl => ?_)
      refine lv_iconst (v := 2) hx hb dL_point_19 (by decide) ?_
      cases h
      exact W.iret hx hb hr (fun t ht hW => ⟨⟨_, _, rfl, ⟨rfl, hc_p3, (fun _ _ h9 _ => h9)⟩, by show MW z D _ t.heap; rw [ht]; exact hM⟩, hS.F ht⟩) hS.2.2 dL_point_20 hlocks
    replace h := it_neg c8 h
    cases h
  · obtain ⟨w6, hw9, hr9, ho2⟩ := hp3
    replace hr9 := hr9.symm
    subst hr9
    subst hw9
    replace h := rsum_inr h
    replace hc_p3 := ho2 a_p3 _ hc_p3 
    have hf9 := fun (q : Nat) (f : va_E) (hf : σ q = some f) (n0 : q ≠ a_p3) => ho2 q f hf 
    refine W.widen (k := 1) (n := 6) (Nat.le_of_ble_eq_true rfl) (Nat.le_of_ble_eq_true rfl) ?_
    refine lv_i2l hx hb dL_point_8 rfl ?_
    obtain ⟨c10, h⟩ := gd_some h
    refine mw_stJ hC hM hS hc_p3 (inB_ok c10) dL_point_9 (fun H locs σ1 hM hS hc_p3 ho11 => ?_)
    replace hc_p3 : σ1 a_p3 = some (eJ K 1 (vp_updL f_p3 (0 : Int32).toNatClampNeg w6.toInt64)) := hc_p3
    have hf12 := fun (q : Nat) (f : va_E) (hf : σ q = some f) (n0 : q ≠ a_p3) => ho11 q f (hf9 q f hf n0) n0
    refine lv_goto (tgt := 21) hx hb dL_point_10 (by decide) ?_
    refine lv_iconst (v := 0) hx hb dL_point_21 (by decide) ?_
    cases h
    exact W.iret hx hb hr (fun t ht hW => ⟨⟨_, _, rfl, ⟨rfl, hc_p3, hf12⟩, by show MW z D _ t.heap; rw [ht]; exact hM⟩, hS.F ht⟩) hS.2.2 dL_point_22 hlocks
theorem l_L_group_0 : Cond.classLink RL 28 "java/lang/IndexOutOfBoundsException" ∈ wsL_group := (List.mem_cons_of_mem _ (List.mem_append_left _ (List.mem_append_left _ (List.mem_append_left _ (List.mem_append_left _ (List.mem_append_left _ (List.mem_append_left _ (List.mem_of_getElem? (i := 0) rfl))))))))
theorem l_L_group_1 : Cond.classLink RL 13 "java/lang/IllegalArgumentException" ∈ wsL_group := (List.mem_cons_of_mem _ (List.mem_append_left _ (List.mem_append_left _ (List.mem_append_left _ (List.mem_append_left _ (List.mem_append_left _ (List.mem_append_left _ (List.mem_of_getElem? (i := 1) rfl))))))))
theorem q_L_group : yL_group.cls ≠ "java/lang/invoke/MethodHandle" ∧ yL_group.cls ≠ "java/lang/invoke/VarHandle" ∧ (parseMethodDescriptor yL_group.desc).map (fun d => d.parameters.length) = some 4 := by decide +kernel
def fL_group (f_p3 : Nat → Int64) (w_p0_now : Int32 × Int32 × Int32 × Int32 × Int64 × Int64 × Int32 × Int32) (w_p0_now_grid : Int32 × Int32 × Int64 × Int64 × Int64) (p1 : Int32) (p2 : Int32) : Option (Int32 × (Nat → Int64)) := (fX7_group w_p0_now w_p0_now_grid p1 p2).bind fun r1 => rsum r1 (fun E4 => if E4 = "java/lang/IndexOutOfBoundsException" then (some (((1 : Int32), f_p3))) else (if E4 = "java/lang/IllegalArgumentException" then (some (((2 : Int32), f_p3))) else (none))) (fun w6 => if inB 0 1 = true then (some (((0 : Int32), (vp_updL f_p3 (0 : Int32).toNatClampNeg w6)))) else none)
set_option maxHeartbeats 4000000 in
set_option maxRecDepth 100000 in
theorem c_L_group {l : Launch} {z : Nat} {D : va_G} {K : Nat → ClassId} {σ : mwm} {a_p0 a_p3 a_p0_text a_p0_now a_p0_copy a_p0_memory a_p0_slot0 a_p0_slot1 a_p0_now_before0 a_p0_now_before1 a_p0_now_grid : Nat} {f_p3 : Nat → Int64} {w_p0_now : Int32 × Int32 × Int32 × Int32 × Int64 × Int64 × Int32 × Int32} {w_p0_now_grid : Int32 × Int32 × Int64 × Int64 × Int64} {p1 : Int32} {p2 : Int32} (hc_p0 : σ a_p0 = some (cl5 a_p0_text a_p0_now a_p0_copy a_p0_memory a_p0_slot0 a_p0_slot1)) (hc_p3 : σ a_p3 = some (eJ K 1 f_p3)) (hc_p0_now : σ a_p0_now = some (cl0 a_p0_now_before0 a_p0_now_before1 a_p0_now_grid w_p0_now)) (hc_p0_now_grid : σ a_p0_now_grid = some (cl2  w_p0_now_grid)) (hlt : l.stackTraces = false) {v : Int32 × (Nat → Int64)} (h : fL_group f_p3 w_p0_now w_p0_now_grid p1 p2 = some v) : Met l yL_group wsL_group ({ frames := 7, cells := 1, slots := 6, locals := 121 } : Room) (PCx z D K [.ref a_p0, .int p1, .int p2, .ref a_p3] σ) (qwI z D (fun r σ2 => r = v.1 ∧ σ2 a_p3 = some (eJ K 1 v.2) ∧ ∀ (q : Nat) (f : va_E), σ q = some f → q ≠ a_p3 → σ2 q = some f)) 1 6 (zA z) := by
  refine mh_enter (cc := cL_group) (maxL := 5) (ret := (some .int)) (own := RL) (lv := [(0, .ref a_p0), (1, .int p1), (2, .int p2), (3, .ref a_p3)]) (by decide) rfl rfl (Nat.le_of_ble_eq_true rfl) rfl ?_
  intro p e s m below meth c ls hC hx hb hown hts hK hr hlocks hnm hz hM hS hl hX hex
  unfold fL_group at h
  refine lv_aload_n hx hb dL_group_0 rfl (lv_at hl 3 rfl) ?_
  refine lv_iconst (v := 0) hx hb dL_group_1 (by decide) ?_
  refine lv_aload_n hx hb dL_group_2 rfl (lv_at hl 0 rfl) ?_
  refine lv_iload_n hx hb dL_group_3 rfl (lv_at hl 1 rfl) ?_
  refine lv_iload_n hx hb dL_group_4 rfl (lv_at hl 2 rfl) ?_
  obtain ⟨r1, hr1, h⟩ := ob_some h
  refine mx_cl (mx_runV (As := [.int p1, .int p2]) (rest := [.int 0, .ref a_p3]) (ci := 5) (C := RX7) (T := TX7) (N := 6) hC hX hM hS hc_p0 rfl (c_X7_group (a_t := a_p0) (a_t_text := a_p0_text) (a_t_now := a_p0_now) (a_t_copy := a_p0_copy) (a_t_memory := a_p0_memory) (a_t_slot0 := a_p0_slot0) (a_t_slot1 := a_p0_slot1) (a_t_now_before0 := a_p0_now_before0) (a_t_now_before1 := a_p0_now_before1) (a_t_now_grid := a_p0_now_grid) (w_t_now := w_p0_now) (w_t_now_grid := w_p0_now_grid) (p0 := p1) (p1 := p2) (hc_t := hc_p0) (hc_t_now := hc_p0_now) (hc_t_now_grid := hc_p0_now_grid) (hlt := hlt) (v := r1) hr1) gL_group_X7_group rfl rfl rfl rfl q_X7_group ⟨Nat.le_of_ble_eq_true rfl, Nat.le_of_ble_eq_true rfl⟩ rfl rfl (Nat.le_of_ble_eq_true rfl) hl.1 dL_group_5 ⟨Nat.le_of_ble_eq_true rfl, Nat.le_of_ble_eq_true rfl⟩) hS (fun E4 ce a_e5 H locs hvE hM hS hce hcv hcl => ?_) (fun r9 H locs σ1 hp3 hM hS => ?_)
  · subst hvE
    replace h := rsum_inl h
    by_cases c7 : E4 = "java/lang/IndexOutOfBoundsException"
    · replace h := it_pos c7 h
      subst c7
      refine vx_catch (name := "java/lang/IndexOutOfBoundsException") hown [] ⟨0, 9, 12, 28⟩ [⟨0, 9, 16, 13⟩] hex (fun _ h9 => by cases h9) (by decide) (by decide) (hts _ l_L_group_0) (va_Nw.use rfl (xc_O hX)) hce hcv hcl ?_
      refine W.eq (g2 := F0 m 12 ls [.ref a_e5]) rfl ?_
      refine lv_astore (lv' := [(4, .ref a_e5), (0, .ref a_p0), (1, .int p1), (2, .int p2), (3, .ref a_p3)]) hx hb dL_group_12 hl (by decide) rfl (fun ls hl => ?_)
      refine lv_iconst (v := 1) hx hb dL_group_14 (by decide) ?_
      cases h
      exact W.iret hx hb hr (fun t ht hW => ⟨⟨_, _, rfl, ⟨rfl, hc_p3, (fun _ _ h9 _ => h9)⟩, by show MW z D _ t.heap; rw [ht]; exact hM⟩, hS.F ht⟩) hS.2.2 dL_group_15 hlocks
    replace h := it_neg c7 h
    by_cases c8 : E4 = "java/lang/IllegalArgumentException"
    · replace h := it_pos c8 h
      subst c8
      refine vx_catch (name := "java/lang/IllegalArgumentException") hown [⟨0, 9, 12, 28⟩] ⟨0, 9, 16, 13⟩ [] hex (fun x9 h9 => by rw [List.mem_singleton.mp h9]; exact Or.inr ⟨(by decide), _, hts _ l_L_group_0, hX.2.2.2.2.2.1⟩) (by decide) (by decide) (hts _ l_L_group_1) (va_Nw.use rfl (xc_A hX)) hce hcv hcl ?_
      refine W.eq (g2 := F0 m 16 ls [.ref a_e5]) rfl ?_
      refine lv_astore (lv' := [(4, .ref a_e5), (0, .ref a_p0), (1, .int p1), (2, .int p2), (3, .ref a_p3)]) hx hb dL_group_16 hl (by decide) rfl (fun ls hl => ?_)
      refine lv_iconst (v := 2) hx hb dL_group_18 (by decide) ?_
      cases h
      exact W.iret hx hb hr (fun t ht hW => ⟨⟨_, _, rfl, ⟨rfl, hc_p3, (fun _ _ h9 _ => h9)⟩, by show MW z D _ t.heap; rw [ht]; exact hM⟩, hS.F ht⟩) hS.2.2 dL_group_19 hlocks
    replace h := it_neg c8 h
    cases h
  · obtain ⟨w6, hw9, hr9, ho2⟩ := hp3
    replace hr9 := hr9.symm
    subst hr9
    subst hw9
    replace h := rsum_inr h
    replace hc_p3 := ho2 a_p3 _ hc_p3 
    have hf9 := fun (q : Nat) (f : va_E) (hf : σ q = some f) (n0 : q ≠ a_p3) => ho2 q f hf 
    refine W.widen (k := 1) (n := 6) (Nat.le_of_ble_eq_true rfl) (Nat.le_of_ble_eq_true rfl) ?_
    obtain ⟨c10, h⟩ := gd_some h
    refine mw_stJ hC hM hS hc_p3 (inB_ok c10) dL_group_8 (fun H locs σ1 hM hS hc_p3 ho11 => ?_)
    replace hc_p3 : σ1 a_p3 = some (eJ K 1 (vp_updL f_p3 (0 : Int32).toNatClampNeg w6)) := hc_p3
    have hf12 := fun (q : Nat) (f : va_E) (hf : σ q = some f) (n0 : q ≠ a_p3) => ho11 q f (hf9 q f hf n0) n0
    refine lv_goto (tgt := 20) hx hb dL_group_9 (by decide) ?_
    refine lv_iconst (v := 0) hx hb dL_group_20 (by decide) ?_
    cases h
    exact W.iret hx hb hr (fun t ht hW => ⟨⟨_, _, rfl, ⟨rfl, hc_p3, hf12⟩, by show MW z D _ t.heap; rw [ht]; exact hM⟩, hS.F ht⟩) hS.2.2 dL_group_21 hlocks
theorem l_L_why_0 : Cond.classLink RL 28 "java/lang/IndexOutOfBoundsException" ∈ wsL_why := (List.mem_cons_of_mem _ (List.mem_append_left _ (List.mem_append_left _ (List.mem_append_left _ (List.mem_append_left _ (List.mem_append_left _ (List.mem_of_getElem? (i := 0) rfl)))))))
theorem q_L_why : yL_why.cls ≠ "java/lang/invoke/MethodHandle" ∧ yL_why.cls ≠ "java/lang/invoke/VarHandle" ∧ (parseMethodDescriptor yL_why.desc).map (fun d => d.parameters.length) = some 3 := by decide +kernel
def fL_why (f_p2 : Nat → Int64) (w_p0_now : Int32 × Int32 × Int32 × Int32 × Int64 × Int64 × Int32 × Int32) (f_p0_now_before0 : Nat → Int64) (f_p0_now_before1 : Nat → Int64) (w_p0_now_grid : Int32 × Int32 × Int64 × Int64 × Int64) (p1 : Int32) : Option (Int32 × (Nat → Int64)) := (fX7_why w_p0_now f_p0_now_before0 f_p0_now_before1 w_p0_now_grid p1).bind fun r1 => rsum r1 (fun E4 => if E4 = "java/lang/IndexOutOfBoundsException" then (some (((1 : Int32), f_p2))) else (none)) (fun w6 => if inB 0 1 = true then (some (((0 : Int32), (vp_updL f_p2 (0 : Int32).toNatClampNeg w6.toInt64)))) else none)
set_option maxHeartbeats 4000000 in
set_option maxRecDepth 100000 in
theorem c_L_why {l : Launch} {z : Nat} {D : va_G} {K : Nat → ClassId} {σ : mwm} {a_p0 a_p2 a_p0_text a_p0_now a_p0_copy a_p0_memory a_p0_slot0 a_p0_slot1 a_p0_now_before0 a_p0_now_before1 a_p0_now_grid : Nat} {f_p2 : Nat → Int64} {w_p0_now : Int32 × Int32 × Int32 × Int32 × Int64 × Int64 × Int32 × Int32} {f_p0_now_before0 : Nat → Int64} {f_p0_now_before1 : Nat → Int64} {w_p0_now_grid : Int32 × Int32 × Int64 × Int64 × Int64} {p1 : Int32} (hc_p0 : σ a_p0 = some (cl5 a_p0_text a_p0_now a_p0_copy a_p0_memory a_p0_slot0 a_p0_slot1)) (hc_p2 : σ a_p2 = some (eJ K 1 f_p2)) (hc_p0_now : σ a_p0_now = some (cl0 a_p0_now_before0 a_p0_now_before1 a_p0_now_grid w_p0_now)) (hc_p0_now_before0 : σ a_p0_now_before0 = some (eJ K 121 f_p0_now_before0)) (hc_p0_now_before1 : σ a_p0_now_before1 = some (eJ K 121 f_p0_now_before1)) (hc_p0_now_grid : σ a_p0_now_grid = some (cl2  w_p0_now_grid)) (hlt : l.stackTraces = false) {v : Int32 × (Nat → Int64)} (h : fL_why f_p2 w_p0_now f_p0_now_before0 f_p0_now_before1 w_p0_now_grid p1 = some v) : Met l yL_why wsL_why ({ frames := 7, cells := 1, slots := 6, locals := 127 } : Room) (PCx z D K [.ref a_p0, .int p1, .ref a_p2] σ) (qwI z D (fun r σ2 => r = v.1 ∧ σ2 a_p2 = some (eJ K 1 v.2) ∧ ∀ (q : Nat) (f : va_E), σ q = some f → q ≠ a_p2 → σ2 q = some f)) 1 6 (zA z) := by
  refine mh_enter (cc := cL_why) (maxL := 4) (ret := (some .int)) (own := RL) (lv := [(0, .ref a_p0), (1, .int p1), (2, .ref a_p2)]) (by decide) rfl rfl (Nat.le_of_ble_eq_true rfl) rfl ?_
  intro p e s m below meth c ls hC hx hb hown hts hK hr hlocks hnm hz hM hS hl hX hex
  unfold fL_why at h
  refine lv_aload_n hx hb dL_why_0 rfl (lv_at hl 2 rfl) ?_
  refine lv_iconst (v := 0) hx hb dL_why_1 (by decide) ?_
  refine lv_aload_n hx hb dL_why_2 rfl (lv_at hl 0 rfl) ?_
  refine lv_iload_n hx hb dL_why_3 rfl (lv_at hl 1 rfl) ?_
  obtain ⟨r1, hr1, h⟩ := ob_some h
  refine mx_ci (mx_runV (As := [.int p1]) (rest := [.int 0, .ref a_p2]) (ci := 5) (C := RX7) (T := TX7) (N := 6) hC hX hM hS hc_p0 rfl (c_X7_why (a_t := a_p0) (a_t_text := a_p0_text) (a_t_now := a_p0_now) (a_t_copy := a_p0_copy) (a_t_memory := a_p0_memory) (a_t_slot0 := a_p0_slot0) (a_t_slot1 := a_p0_slot1) (a_t_now_before0 := a_p0_now_before0) (a_t_now_before1 := a_p0_now_before1) (a_t_now_grid := a_p0_now_grid) (w_t_now := w_p0_now) (f_t_now_before0 := f_p0_now_before0) (f_t_now_before1 := f_p0_now_before1) (w_t_now_grid := w_p0_now_grid) (p0 := p1) (hc_t := hc_p0) (hc_t_now := hc_p0_now) (hc_t_now_before0 := hc_p0_now_before0) (hc_t_now_before1 := hc_p0_now_before1) (hc_t_now_grid := hc_p0_now_grid) (hlt := hlt) (v := r1) hr1) gL_why_X7_why rfl rfl rfl rfl q_X7_why ⟨Nat.le_of_ble_eq_true rfl, Nat.le_of_ble_eq_true rfl⟩ rfl rfl (Nat.le_of_ble_eq_true rfl) hl.1 dL_why_4 ⟨Nat.le_of_ble_eq_true rfl, Nat.le_of_ble_eq_true rfl⟩) hS (fun E4 ce a_e5 H locs hvE hM hS hce hcv hcl => ?_) (fun r9 H locs σ1 hp3 hM hS => ?_)
  · subst hvE
    replace h := rsum_inl h
    by_cases c7 : E4 = "java/lang/IndexOutOfBoundsException"
    · replace h := it_pos c7 h
      subst c7
      refine vx_catch (name := "java/lang/IndexOutOfBoundsException") hown [] ⟨0, 9, 12, 28⟩ [] hex (fun _ h9 => by cases h9) (by decide) (by decide) (hts _ l_L_why_0) (va_Nw.use rfl (xc_O hX)) hce hcv hcl ?_
      refine W.eq (g2 := F0 m 12 ls [.ref a_e5]) rfl ?_
      refine lv_astore_n (lv' := [(3, .ref a_e5), (0, .ref a_p0), (1, .int p1), (2, .ref a_p2)]) hx hb dL_why_12 rfl hl (by decide) rfl (fun ls hl => ?_)
      refine lv_iconst (v := 1) hx hb dL_why_13 (by decide) ?_
      cases h
      exact W.iret hx hb hr (fun t ht hW => ⟨⟨_, _, rfl, ⟨rfl, hc_p2, (fun _ _ h9 _ => h9)⟩, by show MW z D _ t.heap; rw [ht]; exact hM⟩, hS.F ht⟩) hS.2.2 dL_why_14 hlocks
    replace h := it_neg c7 h
    cases h
  · obtain ⟨w6, hw9, hr9, ho2⟩ := hp3
    replace hr9 := hr9.symm
    subst hr9
    subst hw9
    replace h := rsum_inr h
    replace hc_p2 := ho2 a_p2 _ hc_p2 
    have hf8 := fun (q : Nat) (f : va_E) (hf : σ q = some f) (n0 : q ≠ a_p2) => ho2 q f hf 
    refine W.widen (k := 1) (n := 6) (Nat.le_of_ble_eq_true rfl) (Nat.le_of_ble_eq_true rfl) ?_
    refine lv_i2l hx hb dL_why_7 rfl ?_
    obtain ⟨c9, h⟩ := gd_some h
    refine mw_stJ hC hM hS hc_p2 (inB_ok c9) dL_why_8 (fun H locs σ1 hM hS hc_p2 ho10 => ?_)
    replace hc_p2 : σ1 a_p2 = some (eJ K 1 (vp_updL f_p2 (0 : Int32).toNatClampNeg w6.toInt64)) := hc_p2
    have hf11 := fun (q : Nat) (f : va_E) (hf : σ q = some f) (n0 : q ≠ a_p2) => ho10 q f (hf8 q f hf n0) n0
    refine lv_goto (tgt := 15) hx hb dL_why_9 (by decide) ?_
    refine lv_iconst (v := 0) hx hb dL_why_15 (by decide) ?_
    cases h
    exact W.iret hx hb hr (fun t ht hW => ⟨⟨_, _, rfl, ⟨rfl, hc_p2, hf11⟩, by show MW z D _ t.heap; rw [ht]; exact hM⟩, hS.F ht⟩) hS.2.2 dL_why_16 hlocks
theorem l_L_board_0 : Cond.classLink RL 13 "java/lang/IllegalArgumentException" ∈ wsL_board := (List.mem_cons_of_mem _ (List.mem_append_left _ (List.mem_append_left _ (List.mem_append_left _ (List.mem_append_left _ (List.mem_append_left _ (List.mem_append_left _ (List.mem_of_getElem? (i := 0) rfl))))))))
theorem q_L_board : yL_board.cls ≠ "java/lang/invoke/MethodHandle" ∧ yL_board.cls ≠ "java/lang/invoke/VarHandle" ∧ (parseMethodDescriptor yL_board.desc).map (fun d => d.parameters.length) = some 3 := by decide +kernel
def fL_board (a_x : Nat) (f_p2 : Nat → Int64) (w_x : Int32 × Int32 × Int32 × Int32 × Int64 × Int64 × Int32 × Int32) (w_p0_now : Int32 × Int32 × Int32 × Int32 × Int64 × Int64 × Int32 × Int32) (w_p0_memory : Int32 × Int32) (f_x_before0 : Nat → Int64) (f_x_before1 : Nat → Int64) (f_p0_memory_ring : Nat → Option Nat) (f_p0_now_before0 : Nat → Int64) (f_p0_now_before1 : Nat → Int64) (w_p0_now_grid : Int32 × Int32 × Int64 × Int64 × Int64) (p1 : Int32) : Option (Int32 × (Nat → Int64) × (Int32 × Int32 × Int32 × Int32 × Int64 × Int64 × Int32 × Int32) × (Int32 × Int32 × Int32 × Int32 × Int64 × Int64 × Int32 × Int32) × (Int32 × Int32) × (Nat → Int64) × (Nat → Int64) × (Nat → Int64) × (Nat → Int64) × (Int32 × Int32 × Int64 × Int64 × Int64)) := (fX7_board a_x w_x w_p0_now w_p0_memory f_x_before0 f_x_before1 f_p0_memory_ring f_p0_now_before0 f_p0_now_before1 p1).bind fun r1 => rsum r1 (fun E4 => if E4 = "java/lang/IllegalArgumentException" then (some (((1 : Int32), f_p2, w_x, w_p0_now, w_p0_memory, f_x_before0, f_x_before1, f_p0_now_before0, f_p0_now_before1, w_p0_now_grid))) else (none)) (fun w6 => if inB 0 1 = true then (some (((0 : Int32), (vp_updL f_p2 (0 : Int32).toNatClampNeg w6.1.toInt64), w6.2.1, w6.2.2.1, w6.2.2.2.1, w6.2.2.2.2.1, w6.2.2.2.2.2.1, w6.2.2.2.2.2.2.1, w6.2.2.2.2.2.2.2.1, w6.2.2.2.2.2.2.2.2))) else none)
set_option maxHeartbeats 4000000 in
set_option maxRecDepth 100000 in
theorem c_L_board {l : Launch} {z : Nat} {D : va_G} {K : Nat → ClassId} {σ : mwm} {a_p0 a_p2 a_p0_text a_p0_now a_p0_copy a_p0_memory a_p0_slot0 a_p0_slot1 a_x_before0 a_x_before1 a_x_grid a_p0_memory_ring a_p0_now_before0 a_p0_now_before1 a_p0_now_grid : Nat} {a_x : Nat} {f_p2 : Nat → Int64} {w_x : Int32 × Int32 × Int32 × Int32 × Int64 × Int64 × Int32 × Int32} {w_p0_now : Int32 × Int32 × Int32 × Int32 × Int64 × Int64 × Int32 × Int32} {w_p0_memory : Int32 × Int32} {f_x_before0 : Nat → Int64} {f_x_before1 : Nat → Int64} {f_p0_memory_ring : Nat → Option Nat} {f_p0_now_before0 : Nat → Int64} {f_p0_now_before1 : Nat → Int64} {w_p0_now_grid : Int32 × Int32 × Int64 × Int64 × Int64} {p1 : Int32} (hc_p0 : σ a_p0 = some (cl5 a_p0_text a_p0_now a_p0_copy a_p0_memory a_p0_slot0 a_p0_slot1)) (hc_p2 : σ a_p2 = some (eJ K 1 f_p2)) (hc_x : σ a_x = some (cl0 a_x_before0 a_x_before1 a_x_grid w_x)) (hc_p0_now : σ a_p0_now = some (cl0 a_p0_now_before0 a_p0_now_before1 a_p0_now_grid w_p0_now)) (hc_p0_memory : σ a_p0_memory = some (cl3 a_p0_memory_ring w_p0_memory)) (hc_x_before0 : σ a_x_before0 = some (eJ K 121 f_x_before0)) (hc_x_before1 : σ a_x_before1 = some (eJ K 121 f_x_before1)) (hc_p0_memory_ring : σ a_p0_memory_ring = some (eQ K 14 f_p0_memory_ring)) (hc_p0_now_before0 : σ a_p0_now_before0 = some (eJ K 121 f_p0_now_before0)) (hc_p0_now_before1 : σ a_p0_now_before1 = some (eJ K 121 f_p0_now_before1)) (hc_p0_now_grid : σ a_p0_now_grid = some (cl2  w_p0_now_grid)) (n_p0_p0_memory : a_p0 ≠ a_p0_memory) (n_p0_p0_now : a_p0 ≠ a_p0_now) (n_p0_p0_now_before0 : a_p0 ≠ a_p0_now_before0) (n_p0_p0_now_before1 : a_p0 ≠ a_p0_now_before1) (n_p0_x : a_p0 ≠ a_x) (n_p0_x_before0 : a_p0 ≠ a_x_before0) (n_p0_x_before1 : a_p0 ≠ a_x_before1) (n_p0_memory_p0_memory_ring : a_p0_memory ≠ a_p0_memory_ring) (n_p0_memory_p0_now : a_p0_memory ≠ a_p0_now) (n_p0_memory_p0_now_before0 : a_p0_memory ≠ a_p0_now_before0) (n_p0_memory_p0_now_before1 : a_p0_memory ≠ a_p0_now_before1) (n_p0_memory_p2 : a_p0_memory ≠ a_p2) (n_p0_memory_x : a_p0_memory ≠ a_x) (n_p0_memory_x_before0 : a_p0_memory ≠ a_x_before0) (n_p0_memory_x_before1 : a_p0_memory ≠ a_x_before1) (n_p0_memory_ring_p0_now : a_p0_memory_ring ≠ a_p0_now) (n_p0_memory_ring_p0_now_before0 : a_p0_memory_ring ≠ a_p0_now_before0) (n_p0_memory_ring_p0_now_before1 : a_p0_memory_ring ≠ a_p0_now_before1) (n_p0_memory_ring_x : a_p0_memory_ring ≠ a_x) (n_p0_memory_ring_x_before0 : a_p0_memory_ring ≠ a_x_before0) (n_p0_memory_ring_x_before1 : a_p0_memory_ring ≠ a_x_before1) (n_p0_now_p0_now_before0 : a_p0_now ≠ a_p0_now_before0) (n_p0_now_p0_now_before1 : a_p0_now ≠ a_p0_now_before1) (n_p0_now_p2 : a_p0_now ≠ a_p2) (n_p0_now_x : a_p0_now ≠ a_x) (n_p0_now_x_before0 : a_p0_now ≠ a_x_before0) (n_p0_now_x_before1 : a_p0_now ≠ a_x_before1) (n_p0_now_before0_p0_now_before1 : a_p0_now_before0 ≠ a_p0_now_before1) (n_p0_now_before0_p2 : a_p0_now_before0 ≠ a_p2) (n_p0_now_before0_x : a_p0_now_before0 ≠ a_x) (n_p0_now_before0_x_before0 : a_p0_now_before0 ≠ a_x_before0) (n_p0_now_before0_x_before1 : a_p0_now_before0 ≠ a_x_before1) (n_p0_now_before1_p2 : a_p0_now_before1 ≠ a_p2) (n_p0_now_before1_x : a_p0_now_before1 ≠ a_x) (n_p0_now_before1_x_before0 : a_p0_now_before1 ≠ a_x_before0) (n_p0_now_before1_x_before1 : a_p0_now_before1 ≠ a_x_before1) (n_p2_x : a_p2 ≠ a_x) (n_p2_x_before0 : a_p2 ≠ a_x_before0) (n_p2_x_before1 : a_p2 ≠ a_x_before1) (n_x_x_before0 : a_x ≠ a_x_before0) (n_x_x_before1 : a_x ≠ a_x_before1) (n_x_before0_x_before1 : a_x_before0 ≠ a_x_before1) (hlt : l.stackTraces = false) {v : Int32 × (Nat → Int64) × (Int32 × Int32 × Int32 × Int32 × Int64 × Int64 × Int32 × Int32) × (Int32 × Int32 × Int32 × Int32 × Int64 × Int64 × Int32 × Int32) × (Int32 × Int32) × (Nat → Int64) × (Nat → Int64) × (Nat → Int64) × (Nat → Int64) × (Int32 × Int32 × Int64 × Int64 × Int64)} (h : fL_board a_x f_p2 w_x w_p0_now w_p0_memory f_x_before0 f_x_before1 f_p0_memory_ring f_p0_now_before0 f_p0_now_before1 w_p0_now_grid p1 = some v) : Met l yL_board wsL_board ({ frames := 7, cells := 1, slots := 6, locals := 120 } : Room) (PCx z D K [.ref a_p0, .int p1, .ref a_p2] σ) (qwI z D (fun r σ2 => r = v.1 ∧ ∃ a_q1 : Nat, σ2 a_p2 = some (eJ K 1 v.2.1) ∧ σ2 a_x = some (cl0 a_x_before0 a_x_before1 (if v.1 = 0 then a_p0_now_grid else a_x_grid) v.2.2.1) ∧ σ2 a_p0_now = some (cl0 a_p0_now_before0 a_p0_now_before1 a_q1 v.2.2.2.1) ∧ σ2 a_p0_memory = some (cl3 a_p0_memory_ring v.2.2.2.2.1) ∧ σ2 a_x_before0 = some (eJ K 121 v.2.2.2.2.2.1) ∧ σ2 a_x_before1 = some (eJ K 121 v.2.2.2.2.2.2.1) ∧ σ2 a_p0_now_before0 = some (eJ K 121 v.2.2.2.2.2.2.2.1) ∧ σ2 a_p0_now_before1 = some (eJ K 121 v.2.2.2.2.2.2.2.2.1) ∧ σ2 a_q1 = some (cl2  v.2.2.2.2.2.2.2.2.2) ∧ ∀ (q : Nat) (f : va_E), σ q = some f → q ≠ a_p2 → q ≠ a_x → q ≠ a_p0_now → q ≠ a_p0_memory → q ≠ a_x_before0 → q ≠ a_x_before1 → q ≠ a_p0_now_before0 → q ≠ a_p0_now_before1 → σ2 q = some f)) 1 6 (zA z) := by
  refine mh_enter (cc := cL_board) (maxL := 4) (ret := (some .int)) (own := RL) (lv := [(0, .ref a_p0), (1, .int p1), (2, .ref a_p2)]) (by decide) rfl rfl (Nat.le_of_ble_eq_true rfl) rfl ?_
  intro p e s m below meth c ls hC hx hb hown hts hK hr hlocks hnm hz hM hS hl hX hex
  unfold fL_board at h
  refine lv_aload_n hx hb dL_board_0 rfl (lv_at hl 2 rfl) ?_
  refine lv_iconst (v := 0) hx hb dL_board_1 (by decide) ?_
  refine lv_aload_n hx hb dL_board_2 rfl (lv_at hl 0 rfl) ?_
  refine lv_iload_n hx hb dL_board_3 rfl (lv_at hl 1 rfl) ?_
  obtain ⟨r1, hr1, h⟩ := ob_some h
  refine mx_ci (mx_runV (As := [.int p1]) (rest := [.int 0, .ref a_p2]) (ci := 5) (C := RX7) (T := TX7) (N := 6) hC hX hM hS hc_p0 rfl (c_X7_board (a_t := a_p0) (a_x := a_x) (a_t_text := a_p0_text) (a_t_now := a_p0_now) (a_t_copy := a_p0_copy) (a_t_memory := a_p0_memory) (a_t_slot0 := a_p0_slot0) (a_t_slot1 := a_p0_slot1) (a_x_before0 := a_x_before0) (a_x_before1 := a_x_before1) (a_x_grid := a_x_grid) (a_t_memory_ring := a_p0_memory_ring) (a_t_now_before0 := a_p0_now_before0) (a_t_now_before1 := a_p0_now_before1) (a_t_now_grid := a_p0_now_grid) (w_x := w_x) (w_t_now := w_p0_now) (w_t_memory := w_p0_memory) (f_x_before0 := f_x_before0) (f_x_before1 := f_x_before1) (f_t_memory_ring := f_p0_memory_ring) (f_t_now_before0 := f_p0_now_before0) (f_t_now_before1 := f_p0_now_before1) (p0 := p1) (hc_t := hc_p0) (hc_x := hc_x) (hc_t_now := hc_p0_now) (hc_t_memory := hc_p0_memory) (hc_x_before0 := hc_x_before0) (hc_x_before1 := hc_x_before1) (hc_t_memory_ring := hc_p0_memory_ring) (hc_t_now_before0 := hc_p0_now_before0) (hc_t_now_before1 := hc_p0_now_before1) (n_t_t_memory := n_p0_p0_memory) (n_t_t_now := n_p0_p0_now) (n_t_t_now_before0 := n_p0_p0_now_before0) (n_t_t_now_before1 := n_p0_p0_now_before1) (n_t_x := n_p0_x) (n_t_x_before0 := n_p0_x_before0) (n_t_x_before1 := n_p0_x_before1) (n_t_memory_t_memory_ring := n_p0_memory_p0_memory_ring) (n_t_memory_t_now := n_p0_memory_p0_now) (n_t_memory_t_now_before0 := n_p0_memory_p0_now_before0) (n_t_memory_t_now_before1 := n_p0_memory_p0_now_before1) (n_t_memory_x := n_p0_memory_x) (n_t_memory_x_before0 := n_p0_memory_x_before0) (n_t_memory_x_before1 := n_p0_memory_x_before1) (n_t_memory_ring_t_now := n_p0_memory_ring_p0_now) (n_t_memory_ring_t_now_before0 := n_p0_memory_ring_p0_now_before0) (n_t_memory_ring_t_now_before1 := n_p0_memory_ring_p0_now_before1) (n_t_memory_ring_x := n_p0_memory_ring_x) (n_t_memory_ring_x_before0 := n_p0_memory_ring_x_before0) (n_t_memory_ring_x_before1 := n_p0_memory_ring_x_before1) (n_t_now_t_now_before0 := n_p0_now_p0_now_before0) (n_t_now_t_now_before1 := n_p0_now_p0_now_before1) (n_t_now_x := n_p0_now_x) (n_t_now_x_before0 := n_p0_now_x_before0) (n_t_now_x_before1 := n_p0_now_x_before1) (n_t_now_before0_t_now_before1 := n_p0_now_before0_p0_now_before1) (n_t_now_before0_x := n_p0_now_before0_x) (n_t_now_before0_x_before0 := n_p0_now_before0_x_before0) (n_t_now_before0_x_before1 := n_p0_now_before0_x_before1) (n_t_now_before1_x := n_p0_now_before1_x) (n_t_now_before1_x_before0 := n_p0_now_before1_x_before0) (n_t_now_before1_x_before1 := n_p0_now_before1_x_before1) (n_x_x_before0 := n_x_x_before0) (n_x_x_before1 := n_x_x_before1) (n_x_before0_x_before1 := n_x_before0_x_before1) (hlt := hlt) (v := r1) hr1) gL_board_X7_board rfl rfl rfl rfl q_X7_board ⟨Nat.le_of_ble_eq_true rfl, Nat.le_of_ble_eq_true rfl⟩ rfl rfl (Nat.le_of_ble_eq_true rfl) hl.1 dL_board_4 ⟨Nat.le_of_ble_eq_true rfl, Nat.le_of_ble_eq_true rfl⟩) hS (fun E4 ce a_e5 H locs hvE hM hS hce hcv hcl => ?_) (fun r9 H locs σ1 hp3 hM hS => ?_)
  · subst hvE
    replace h := rsum_inl h
    by_cases c7 : E4 = "java/lang/IllegalArgumentException"
    · replace h := it_pos c7 h
      subst c7
      refine vx_catch (name := "java/lang/IllegalArgumentException") hown [] ⟨0, 9, 12, 13⟩ [] hex (fun _ h9 => by cases h9) (by decide) (by decide) (hts _ l_L_board_0) (va_Nw.use rfl (xc_A hX)) hce hcv hcl ?_
      refine W.eq (g2 := F0 m 12 ls [.ref a_e5]) rfl ?_
      refine lv_astore_n (lv' := [(3, .ref a_e5), (0, .ref a_p0), (1, .int p1), (2, .ref a_p2)]) hx hb dL_board_12 rfl hl (by decide) rfl (fun ls hl => ?_)
      refine lv_iconst (v := 1) hx hb dL_board_13 (by decide) ?_
      cases h
      replace hc_x : σ a_x = some (cl0 a_x_before0 a_x_before1 (if (1 : Int32) = 0 then a_p0_now_grid else a_x_grid) w_x) := by
        first | (rw [if_pos (by assumption)]; exact hc_x) | (rw [if_neg (by assumption)]; exact hc_x) | (rw [if_neg (by decide)]; exact hc_x) | (rw [if_pos (by decide)]; exact hc_x)
      exact W.iret hx hb hr (fun t ht hW => ⟨⟨_, _, rfl, ⟨rfl, a_p0_now_grid, hc_p2, hc_x, hc_p0_now, hc_p0_memory, hc_x_before0, hc_x_before1, hc_p0_now_before0, hc_p0_now_before1, hc_p0_now_grid, (fun _ _ h9 _ _ _ _ _ _ _ _ => h9)⟩, by show MW z D _ t.heap; rw [ht]; exact hM⟩, hS.F ht⟩) hS.2.2 dL_board_14 hlocks
    replace h := it_neg c7 h
    cases h
  · have ho_p0 := hc_p0
    have ho_x := hc_x
    have ho_p0_memory := hc_p0_memory
    have ho_p0_now := hc_p0_now
    have ho_x_before0 := hc_x_before0
    have ho_x_before1 := hc_x_before1
    have ho_p0_memory_ring := hc_p0_memory_ring
    have ho_p0_now_before0 := hc_p0_now_before0
    have ho_p0_now_before1 := hc_p0_now_before1
    have ho_p0_now_grid := hc_p0_now_grid
    have ho_p2 := hc_p2
    obtain ⟨w6, hw9, hr9, a_q1, hq8, hc_x, hc_p0_now, hc_p0_memory, hc_x_before0, hc_x_before1, hc_p0_now_before0, hc_p0_now_before1, hc_q1, ho2⟩ := hp3
    replace hr9 := hr9.symm
    subst hr9
    subst hw9
    replace h := rsum_inr h
    have n_p0_q1 : a_p0 ≠ a_q1 := hq8 a_p0 _ ho_p0
    have n_x_q1 : a_x ≠ a_q1 := hq8 a_x _ ho_x
    have n_p0_memory_q1 : a_p0_memory ≠ a_q1 := hq8 a_p0_memory _ ho_p0_memory
    have n_p0_now_q1 : a_p0_now ≠ a_q1 := hq8 a_p0_now _ ho_p0_now
    have n_x_before0_q1 : a_x_before0 ≠ a_q1 := hq8 a_x_before0 _ ho_x_before0
    have n_x_before1_q1 : a_x_before1 ≠ a_q1 := hq8 a_x_before1 _ ho_x_before1
    have n_p0_memory_ring_q1 : a_p0_memory_ring ≠ a_q1 := hq8 a_p0_memory_ring _ ho_p0_memory_ring
    have n_p0_now_before0_q1 : a_p0_now_before0 ≠ a_q1 := hq8 a_p0_now_before0 _ ho_p0_now_before0
    have n_p0_now_before1_q1 : a_p0_now_before1 ≠ a_q1 := hq8 a_p0_now_before1 _ ho_p0_now_before1
    have n_p0_now_grid_q1 : a_p0_now_grid ≠ a_q1 := hq8 a_p0_now_grid _ ho_p0_now_grid
    have n_p2_q1 : a_p2 ≠ a_q1 := hq8 a_p2 _ ho_p2
    have hqf_q1 : ∀ (b : Nat) (f : va_E), σ b = some f → b ≠ a_q1 := by
      intro b f hb
      by_cases e0 : b = a_p2
      · rw [e0]; exact n_p2_q1
      by_cases e1 : b = a_x
      · rw [e1]; exact n_x_q1
      by_cases e2 : b = a_p0_now
      · rw [e2]; exact n_p0_now_q1
      by_cases e3 : b = a_p0_memory
      · rw [e3]; exact n_p0_memory_q1
      by_cases e4 : b = a_x_before0
      · rw [e4]; exact n_x_before0_q1
      by_cases e5 : b = a_x_before1
      · rw [e5]; exact n_x_before1_q1
      by_cases e6 : b = a_p0_now_before0
      · rw [e6]; exact n_p0_now_before0_q1
      by_cases e7 : b = a_p0_now_before1
      · rw [e7]; exact n_p0_now_before1_q1
      exact hq8 b f hb
    replace hc_p2 := ho2 a_p2 _ hc_p2 n_p2_x (Ne.symm n_p0_now_p2) (Ne.symm n_p0_memory_p2) n_p2_x_before0 n_p2_x_before1 (Ne.symm n_p0_now_before0_p2) (Ne.symm n_p0_now_before1_p2)
    have hf9 := fun (q : Nat) (f : va_E) (hf : σ q = some f) (n0 : q ≠ a_p2) (n1 : q ≠ a_x) (n2 : q ≠ a_p0_now) (n3 : q ≠ a_p0_memory) (n4 : q ≠ a_x_before0) (n5 : q ≠ a_x_before1) (n6 : q ≠ a_p0_now_before0) (n7 : q ≠ a_p0_now_before1) => ho2 q f hf n1 n2 n3 n4 n5 n6 n7
    refine W.widen (k := 1) (n := 6) (Nat.le_of_ble_eq_true rfl) (Nat.le_of_ble_eq_true rfl) ?_
    refine lv_i2l hx hb dL_board_7 rfl ?_
    obtain ⟨c10, h⟩ := gd_some h
    refine mw_stJ hC hM hS hc_p2 (inB_ok c10) dL_board_8 (fun H locs σ1 hM hS hc_p2 ho11 => ?_)
    replace hc_p2 : σ1 a_p2 = some (eJ K 1 (vp_updL f_p2 (0 : Int32).toNatClampNeg w6.1.toInt64)) := hc_p2
    replace hc_x := ho11 a_x _ hc_x (Ne.symm n_p2_x)
    replace hc_p0_now := ho11 a_p0_now _ hc_p0_now n_p0_now_p2
    replace hc_p0_memory := ho11 a_p0_memory _ hc_p0_memory n_p0_memory_p2
    replace hc_x_before0 := ho11 a_x_before0 _ hc_x_before0 (Ne.symm n_p2_x_before0)
    replace hc_x_before1 := ho11 a_x_before1 _ hc_x_before1 (Ne.symm n_p2_x_before1)
    replace hc_p0_now_before0 := ho11 a_p0_now_before0 _ hc_p0_now_before0 n_p0_now_before0_p2
    replace hc_p0_now_before1 := ho11 a_p0_now_before1 _ hc_p0_now_before1 n_p0_now_before1_p2
    replace hc_q1 := ho11 a_q1 _ hc_q1 (Ne.symm n_p2_q1)
    have hf12 := fun (q : Nat) (f : va_E) (hf : σ q = some f) (n0 : q ≠ a_p2) (n1 : q ≠ a_x) (n2 : q ≠ a_p0_now) (n3 : q ≠ a_p0_memory) (n4 : q ≠ a_x_before0) (n5 : q ≠ a_x_before1) (n6 : q ≠ a_p0_now_before0) (n7 : q ≠ a_p0_now_before1) => ho11 q f (hf9 q f hf n0 n1 n2 n3 n4 n5 n6 n7) n0
    refine lv_goto (tgt := 15) hx hb dL_board_9 (by decide) ?_
    refine lv_iconst (v := 0) hx hb dL_board_15 (by decide) ?_
    cases h
    replace hc_x : σ1 a_x = some (cl0 a_x_before0 a_x_before1 (if (0 : Int32) = 0 then a_p0_now_grid else a_x_grid) w6.2.1) := by
      first | (rw [if_pos (by assumption)]; exact hc_x) | (rw [if_neg (by assumption)]; exact hc_x) | (rw [if_neg (by decide)]; exact hc_x) | (rw [if_pos (by decide)]; exact hc_x)
    exact W.iret hx hb hr (fun t ht hW => ⟨⟨_, _, rfl, ⟨rfl, a_q1, hc_p2, hc_x, hc_p0_now, hc_p0_memory, hc_x_before0, hc_x_before1, hc_p0_now_before0, hc_p0_now_before1, hc_q1, hf12⟩, by show MW z D _ t.heap; rw [ht]; exact hM⟩, hS.F ht⟩) hS.2.2 dL_board_16 hlocks
theorem l_L_play_0 : Cond.classLink RL 28 "java/lang/IndexOutOfBoundsException" ∈ wsL_play := (List.mem_cons_of_mem _ (List.mem_append_left _ (List.mem_append_left _ (List.mem_append_left _ (List.mem_append_left _ (List.mem_append_left _ (List.mem_append_left _ (List.mem_append_left _ (List.mem_of_getElem? (i := 0) rfl)))))))))
theorem l_L_play_1 : Cond.classLink RL 15 "java/lang/IllegalStateException" ∈ wsL_play := (List.mem_cons_of_mem _ (List.mem_append_left _ (List.mem_append_left _ (List.mem_append_left _ (List.mem_append_left _ (List.mem_append_left _ (List.mem_append_left _ (List.mem_append_left _ (List.mem_of_getElem? (i := 1) rfl)))))))))
theorem q_L_play : yL_play.cls ≠ "java/lang/invoke/MethodHandle" ∧ yL_play.cls ≠ "java/lang/invoke/VarHandle" ∧ (parseMethodDescriptor yL_play.desc).map (fun d => d.parameters.length) = some 3 := by decide +kernel
def fL_play (a_x : Nat) (f_p2 : Nat → Int64) (w_x : Int32 × Int32 × Int32 × Int32 × Int64 × Int64 × Int32 × Int32) (w_p0_now : Int32 × Int32 × Int32 × Int32 × Int64 × Int64 × Int32 × Int32) (w_p0_memory : Int32 × Int32) (f_x_before0 : Nat → Int64) (f_x_before1 : Nat → Int64) (f_p0_now_before0 : Nat → Int64) (f_p0_now_before1 : Nat → Int64) (w_p0_now_grid : Int32 × Int32 × Int64 × Int64 × Int64) (f_p0_memory_ring : Nat → Option Nat) (p1 : Int32) : Option (Int32 × (Nat → Int64) × (Int32 × Int32 × Int32 × Int32 × Int64 × Int64 × Int32 × Int32) × (Int32 × Int32 × Int32 × Int32 × Int64 × Int64 × Int32 × Int32) × (Int32 × Int32) × (Nat → Int64) × (Nat → Int64) × (Nat → Int64) × (Nat → Int64)) := (fX7_play a_x w_x w_p0_now w_p0_memory f_x_before0 f_x_before1 f_p0_now_before0 f_p0_now_before1 w_p0_now_grid f_p0_memory_ring p1).bind fun r1 => rsum r1 (fun E4 => if E4 = "java/lang/IndexOutOfBoundsException" then (some (((1 : Int32), f_p2, w_x, w_p0_now, w_p0_memory, f_x_before0, f_x_before1, f_p0_now_before0, f_p0_now_before1))) else (if E4 = "java/lang/IllegalStateException" then (some (((2 : Int32), f_p2, w_x, w_p0_now, w_p0_memory, f_x_before0, f_x_before1, f_p0_now_before0, f_p0_now_before1))) else (none))) (fun w6 => if inB 0 1 = true then (some (((0 : Int32), (vp_updL f_p2 (0 : Int32).toNatClampNeg w6.1.toInt64), w6.2.1, w6.2.2.1, w6.2.2.2.1, w6.2.2.2.2.1, w6.2.2.2.2.2.1, w6.2.2.2.2.2.2.1, w6.2.2.2.2.2.2.2))) else none)
set_option maxHeartbeats 4000000 in
set_option maxRecDepth 100000 in
theorem c_L_play {l : Launch} {z : Nat} {D : va_G} {K : Nat → ClassId} {σ : mwm} {a_p0 a_p2 a_p0_text a_p0_now a_p0_copy a_p0_memory a_p0_slot0 a_p0_slot1 a_x_before0 a_x_before1 a_x_grid a_p0_now_before0 a_p0_now_before1 a_p0_now_grid a_p0_memory_ring : Nat} {a_x : Nat} {f_p2 : Nat → Int64} {w_x : Int32 × Int32 × Int32 × Int32 × Int64 × Int64 × Int32 × Int32} {w_p0_now : Int32 × Int32 × Int32 × Int32 × Int64 × Int64 × Int32 × Int32} {w_p0_memory : Int32 × Int32} {f_x_before0 : Nat → Int64} {f_x_before1 : Nat → Int64} {f_p0_now_before0 : Nat → Int64} {f_p0_now_before1 : Nat → Int64} {w_p0_now_grid : Int32 × Int32 × Int64 × Int64 × Int64} {f_p0_memory_ring : Nat → Option Nat} {p1 : Int32} (hc_p0 : σ a_p0 = some (cl5 a_p0_text a_p0_now a_p0_copy a_p0_memory a_p0_slot0 a_p0_slot1)) (hc_p2 : σ a_p2 = some (eJ K 1 f_p2)) (hc_x : σ a_x = some (cl0 a_x_before0 a_x_before1 a_x_grid w_x)) (hc_p0_now : σ a_p0_now = some (cl0 a_p0_now_before0 a_p0_now_before1 a_p0_now_grid w_p0_now)) (hc_p0_memory : σ a_p0_memory = some (cl3 a_p0_memory_ring w_p0_memory)) (hc_x_before0 : σ a_x_before0 = some (eJ K 121 f_x_before0)) (hc_x_before1 : σ a_x_before1 = some (eJ K 121 f_x_before1)) (hc_p0_now_before0 : σ a_p0_now_before0 = some (eJ K 121 f_p0_now_before0)) (hc_p0_now_before1 : σ a_p0_now_before1 = some (eJ K 121 f_p0_now_before1)) (hc_p0_now_grid : σ a_p0_now_grid = some (cl2  w_p0_now_grid)) (hc_p0_memory_ring : σ a_p0_memory_ring = some (eQ K 14 f_p0_memory_ring)) (n_p0_p0_memory : a_p0 ≠ a_p0_memory) (n_p0_p0_now : a_p0 ≠ a_p0_now) (n_p0_p0_now_before0 : a_p0 ≠ a_p0_now_before0) (n_p0_p0_now_before1 : a_p0 ≠ a_p0_now_before1) (n_p0_x : a_p0 ≠ a_x) (n_p0_x_before0 : a_p0 ≠ a_x_before0) (n_p0_x_before1 : a_p0 ≠ a_x_before1) (n_p0_memory_p0_memory_ring : a_p0_memory ≠ a_p0_memory_ring) (n_p0_memory_p0_now : a_p0_memory ≠ a_p0_now) (n_p0_memory_p0_now_before0 : a_p0_memory ≠ a_p0_now_before0) (n_p0_memory_p0_now_before1 : a_p0_memory ≠ a_p0_now_before1) (n_p0_memory_p0_now_grid : a_p0_memory ≠ a_p0_now_grid) (n_p0_memory_p2 : a_p0_memory ≠ a_p2) (n_p0_memory_x : a_p0_memory ≠ a_x) (n_p0_memory_x_before0 : a_p0_memory ≠ a_x_before0) (n_p0_memory_x_before1 : a_p0_memory ≠ a_x_before1) (n_p0_memory_ring_x : a_p0_memory_ring ≠ a_x) (n_p0_memory_ring_x_before0 : a_p0_memory_ring ≠ a_x_before0) (n_p0_memory_ring_x_before1 : a_p0_memory_ring ≠ a_x_before1) (n_p0_now_p0_now_before0 : a_p0_now ≠ a_p0_now_before0) (n_p0_now_p0_now_before1 : a_p0_now ≠ a_p0_now_before1) (n_p0_now_p0_now_grid : a_p0_now ≠ a_p0_now_grid) (n_p0_now_p2 : a_p0_now ≠ a_p2) (n_p0_now_x : a_p0_now ≠ a_x) (n_p0_now_x_before0 : a_p0_now ≠ a_x_before0) (n_p0_now_x_before1 : a_p0_now ≠ a_x_before1) (n_p0_now_before0_p0_now_before1 : a_p0_now_before0 ≠ a_p0_now_before1) (n_p0_now_before0_p0_now_grid : a_p0_now_before0 ≠ a_p0_now_grid) (n_p0_now_before0_p2 : a_p0_now_before0 ≠ a_p2) (n_p0_now_before0_x : a_p0_now_before0 ≠ a_x) (n_p0_now_before0_x_before0 : a_p0_now_before0 ≠ a_x_before0) (n_p0_now_before0_x_before1 : a_p0_now_before0 ≠ a_x_before1) (n_p0_now_before1_p0_now_grid : a_p0_now_before1 ≠ a_p0_now_grid) (n_p0_now_before1_p2 : a_p0_now_before1 ≠ a_p2) (n_p0_now_before1_x : a_p0_now_before1 ≠ a_x) (n_p0_now_before1_x_before0 : a_p0_now_before1 ≠ a_x_before0) (n_p0_now_before1_x_before1 : a_p0_now_before1 ≠ a_x_before1) (n_p0_now_grid_x : a_p0_now_grid ≠ a_x) (n_p0_now_grid_x_before0 : a_p0_now_grid ≠ a_x_before0) (n_p0_now_grid_x_before1 : a_p0_now_grid ≠ a_x_before1) (n_p2_x : a_p2 ≠ a_x) (n_p2_x_before0 : a_p2 ≠ a_x_before0) (n_p2_x_before1 : a_p2 ≠ a_x_before1) (n_x_x_before0 : a_x ≠ a_x_before0) (n_x_x_before1 : a_x ≠ a_x_before1) (n_x_before0_x_before1 : a_x_before0 ≠ a_x_before1) (hlt : l.stackTraces = false) {v : Int32 × (Nat → Int64) × (Int32 × Int32 × Int32 × Int32 × Int64 × Int64 × Int32 × Int32) × (Int32 × Int32 × Int32 × Int32 × Int64 × Int64 × Int32 × Int32) × (Int32 × Int32) × (Nat → Int64) × (Nat → Int64) × (Nat → Int64) × (Nat → Int64)} (h : fL_play a_x f_p2 w_x w_p0_now w_p0_memory f_x_before0 f_x_before1 f_p0_now_before0 f_p0_now_before1 w_p0_now_grid f_p0_memory_ring p1 = some v) : Met l yL_play wsL_play ({ frames := 7, cells := 1, slots := 6, locals := 127 } : Room) (PCx z D K [.ref a_p0, .int p1, .ref a_p2] σ) (qwI z D (fun r σ2 => r = v.1 ∧ σ2 a_p2 = some (eJ K 1 v.2.1) ∧ σ2 a_x = some (cl0 a_x_before0 a_x_before1 (if v.1 = 0 then a_p0_now_grid else a_x_grid) v.2.2.1) ∧ σ2 a_p0_now = some (cl0 a_p0_now_before0 a_p0_now_before1 a_p0_now_grid v.2.2.2.1) ∧ σ2 a_p0_memory = some (cl3 a_p0_memory_ring v.2.2.2.2.1) ∧ σ2 a_x_before0 = some (eJ K 121 v.2.2.2.2.2.1) ∧ σ2 a_x_before1 = some (eJ K 121 v.2.2.2.2.2.2.1) ∧ σ2 a_p0_now_before0 = some (eJ K 121 v.2.2.2.2.2.2.2.1) ∧ σ2 a_p0_now_before1 = some (eJ K 121 v.2.2.2.2.2.2.2.2) ∧ ∀ (q : Nat) (f : va_E), σ q = some f → q ≠ a_p2 → q ≠ a_x → q ≠ a_p0_now → q ≠ a_p0_memory → q ≠ a_x_before0 → q ≠ a_x_before1 → q ≠ a_p0_now_before0 → q ≠ a_p0_now_before1 → σ2 q = some f)) 1 6 (zA z) := by
  refine mh_enter (cc := cL_play) (maxL := 4) (ret := (some .int)) (own := RL) (lv := [(0, .ref a_p0), (1, .int p1), (2, .ref a_p2)]) (by decide) rfl rfl (Nat.le_of_ble_eq_true rfl) rfl ?_
  intro p e s m below meth c ls hC hx hb hown hts hK hr hlocks hnm hz hM hS hl hX hex
  unfold fL_play at h
  refine lv_aload_n hx hb dL_play_0 rfl (lv_at hl 2 rfl) ?_
  refine lv_iconst (v := 0) hx hb dL_play_1 (by decide) ?_
  refine lv_aload_n hx hb dL_play_2 rfl (lv_at hl 0 rfl) ?_
  refine lv_iload_n hx hb dL_play_3 rfl (lv_at hl 1 rfl) ?_
  obtain ⟨r1, hr1, h⟩ := ob_some h
  refine mx_ci (mx_runV (As := [.int p1]) (rest := [.int 0, .ref a_p2]) (ci := 5) (C := RX7) (T := TX7) (N := 6) hC hX hM hS hc_p0 rfl (c_X7_play (a_t := a_p0) (a_x := a_x) (a_t_text := a_p0_text) (a_t_now := a_p0_now) (a_t_copy := a_p0_copy) (a_t_memory := a_p0_memory) (a_t_slot0 := a_p0_slot0) (a_t_slot1 := a_p0_slot1) (a_x_before0 := a_x_before0) (a_x_before1 := a_x_before1) (a_x_grid := a_x_grid) (a_t_now_before0 := a_p0_now_before0) (a_t_now_before1 := a_p0_now_before1) (a_t_now_grid := a_p0_now_grid) (a_t_memory_ring := a_p0_memory_ring) (w_x := w_x) (w_t_now := w_p0_now) (w_t_memory := w_p0_memory) (f_x_before0 := f_x_before0) (f_x_before1 := f_x_before1) (f_t_now_before0 := f_p0_now_before0) (f_t_now_before1 := f_p0_now_before1) (w_t_now_grid := w_p0_now_grid) (f_t_memory_ring := f_p0_memory_ring) (p0 := p1) (hc_t := hc_p0) (hc_x := hc_x) (hc_t_now := hc_p0_now) (hc_t_memory := hc_p0_memory) (hc_x_before0 := hc_x_before0) (hc_x_before1 := hc_x_before1) (hc_t_now_before0 := hc_p0_now_before0) (hc_t_now_before1 := hc_p0_now_before1) (hc_t_now_grid := hc_p0_now_grid) (hc_t_memory_ring := hc_p0_memory_ring) (n_t_t_memory := n_p0_p0_memory) (n_t_t_now := n_p0_p0_now) (n_t_t_now_before0 := n_p0_p0_now_before0) (n_t_t_now_before1 := n_p0_p0_now_before1) (n_t_x := n_p0_x) (n_t_x_before0 := n_p0_x_before0) (n_t_x_before1 := n_p0_x_before1) (n_t_memory_t_memory_ring := n_p0_memory_p0_memory_ring) (n_t_memory_t_now := n_p0_memory_p0_now) (n_t_memory_t_now_before0 := n_p0_memory_p0_now_before0) (n_t_memory_t_now_before1 := n_p0_memory_p0_now_before1) (n_t_memory_t_now_grid := n_p0_memory_p0_now_grid) (n_t_memory_x := n_p0_memory_x) (n_t_memory_x_before0 := n_p0_memory_x_before0) (n_t_memory_x_before1 := n_p0_memory_x_before1) (n_t_memory_ring_x := n_p0_memory_ring_x) (n_t_memory_ring_x_before0 := n_p0_memory_ring_x_before0) (n_t_memory_ring_x_before1 := n_p0_memory_ring_x_before1) (n_t_now_t_now_before0 := n_p0_now_p0_now_before0) (n_t_now_t_now_before1 := n_p0_now_p0_now_before1) (n_t_now_t_now_grid := n_p0_now_p0_now_grid) (n_t_now_x := n_p0_now_x) (n_t_now_x_before0 := n_p0_now_x_before0) (n_t_now_x_before1 := n_p0_now_x_before1) (n_t_now_before0_t_now_before1 := n_p0_now_before0_p0_now_before1) (n_t_now_before0_t_now_grid := n_p0_now_before0_p0_now_grid) (n_t_now_before0_x := n_p0_now_before0_x) (n_t_now_before0_x_before0 := n_p0_now_before0_x_before0) (n_t_now_before0_x_before1 := n_p0_now_before0_x_before1) (n_t_now_before1_t_now_grid := n_p0_now_before1_p0_now_grid) (n_t_now_before1_x := n_p0_now_before1_x) (n_t_now_before1_x_before0 := n_p0_now_before1_x_before0) (n_t_now_before1_x_before1 := n_p0_now_before1_x_before1) (n_t_now_grid_x := n_p0_now_grid_x) (n_t_now_grid_x_before0 := n_p0_now_grid_x_before0) (n_t_now_grid_x_before1 := n_p0_now_grid_x_before1) (n_x_x_before0 := n_x_x_before0) (n_x_x_before1 := n_x_x_before1) (n_x_before0_x_before1 := n_x_before0_x_before1) (hlt := hlt) (v := r1) hr1) gL_play_X7_play rfl rfl rfl rfl q_X7_play ⟨Nat.le_of_ble_eq_true rfl, Nat.le_of_ble_eq_true rfl⟩ rfl rfl (Nat.le_of_ble_eq_true rfl) hl.1 dL_play_4 ⟨Nat.le_of_ble_eq_true rfl, Nat.le_of_ble_eq_true rfl⟩) hS (fun E4 ce a_e5 H locs hvE hM hS hce hcv hcl => ?_) (fun r9 H locs σ1 hp3 hM hS => ?_)
  · subst hvE
    replace h := rsum_inl h
    by_cases c7 : E4 = "java/lang/IndexOutOfBoundsException"
    · replace h := it_pos c7 h
      subst c7
      refine vx_catch (name := "java/lang/IndexOutOfBoundsException") hown [] ⟨0, 9, 12, 28⟩ [⟨0, 9, 15, 15⟩] hex (fun _ h9 => by cases h9) (by decide) (by decide) (hts _ l_L_play_0) (va_Nw.use rfl (xc_O hX)) hce hcv hcl ?_
      refine W.eq (g2 := F0 m 12 ls [.ref a_e5]) rfl ?_
      refine lv_astore_n (lv' := [(3, .ref a_e5), (0, .ref a_p0), (1, .int p1), (2, .ref a_p2)]) hx hb dL_play_12 rfl hl (by decide) rfl (fun ls hl => ?_)
      refine lv_iconst (v := 1) hx hb dL_play_13 (by decide) ?_
      cases h
      replace hc_x : σ a_x = some (cl0 a_x_before0 a_x_before1 (if (1 : Int32) = 0 then a_p0_now_grid else a_x_grid) w_x) := by
        first | (rw [if_pos (by assumption)]; exact hc_x) | (rw [if_neg (by assumption)]; exact hc_x) | (rw [if_neg (by decide)]; exact hc_x) | (rw [if_pos (by decide)]; exact hc_x)
      exact W.iret hx hb hr (fun t ht hW => ⟨⟨_, _, rfl, ⟨rfl, hc_p2, hc_x, hc_p0_now, hc_p0_memory, hc_x_before0, hc_x_before1, hc_p0_now_before0, hc_p0_now_before1, (fun _ _ h9 _ _ _ _ _ _ _ _ => h9)⟩, by show MW z D _ t.heap; rw [ht]; exact hM⟩, hS.F ht⟩) hS.2.2 dL_play_14 hlocks
    replace h := it_neg c7 h
    by_cases c8 : E4 = "java/lang/IllegalStateException"
    · replace h := it_pos c8 h
      subst c8
      refine vx_catch (name := "java/lang/IllegalStateException") hown [⟨0, 9, 12, 28⟩] ⟨0, 9, 15, 15⟩ [] hex (fun x9 h9 => by rw [List.mem_singleton.mp h9]; exact Or.inr ⟨(by decide), _, hts _ l_L_play_0, hX.2.2.2.2.2.2.2.1⟩) (by decide) (by decide) (hts _ l_L_play_1) (va_Nw.use rfl (xc_S hX)) hce hcv hcl ?_
      refine W.eq (g2 := F0 m 15 ls [.ref a_e5]) rfl ?_
      refine lv_astore_n (lv' := [(3, .ref a_e5), (0, .ref a_p0), (1, .int p1), (2, .ref a_p2)]) hx hb dL_play_15 rfl hl (by decide) rfl (fun ls hl => ?_)
      refine lv_iconst (v := 2) hx hb dL_play_16 (by decide) ?_
      cases h
      replace hc_x : σ a_x = some (cl0 a_x_before0 a_x_before1 (if (2 : Int32) = 0 then a_p0_now_grid else a_x_grid) w_x) := by
        first | (rw [if_pos (by assumption)]; exact hc_x) | (rw [if_neg (by assumption)]; exact hc_x) | (rw [if_neg (by decide)]; exact hc_x) | (rw [if_pos (by decide)]; exact hc_x)
      exact W.iret hx hb hr (fun t ht hW => ⟨⟨_, _, rfl, ⟨rfl, hc_p2, hc_x, hc_p0_now, hc_p0_memory, hc_x_before0, hc_x_before1, hc_p0_now_before0, hc_p0_now_before1, (fun _ _ h9 _ _ _ _ _ _ _ _ => h9)⟩, by show MW z D _ t.heap; rw [ht]; exact hM⟩, hS.F ht⟩) hS.2.2 dL_play_17 hlocks
    replace h := it_neg c8 h
    cases h
  · obtain ⟨w6, hw9, hr9, hc_x, hc_p0_now, hc_p0_memory, hc_x_before0, hc_x_before1, hc_p0_now_before0, hc_p0_now_before1, ho2⟩ := hp3
    replace hr9 := hr9.symm
    subst hr9
    subst hw9
    replace h := rsum_inr h
    replace hc_p2 := ho2 a_p2 _ hc_p2 n_p2_x (Ne.symm n_p0_now_p2) (Ne.symm n_p0_memory_p2) n_p2_x_before0 n_p2_x_before1 (Ne.symm n_p0_now_before0_p2) (Ne.symm n_p0_now_before1_p2)
    have hf9 := fun (q : Nat) (f : va_E) (hf : σ q = some f) (n0 : q ≠ a_p2) (n1 : q ≠ a_x) (n2 : q ≠ a_p0_now) (n3 : q ≠ a_p0_memory) (n4 : q ≠ a_x_before0) (n5 : q ≠ a_x_before1) (n6 : q ≠ a_p0_now_before0) (n7 : q ≠ a_p0_now_before1) => ho2 q f hf n1 n2 n3 n4 n5 n6 n7
    refine W.widen (k := 1) (n := 6) (Nat.le_of_ble_eq_true rfl) (Nat.le_of_ble_eq_true rfl) ?_
    refine lv_i2l hx hb dL_play_7 rfl ?_
    obtain ⟨c10, h⟩ := gd_some h
    refine mw_stJ hC hM hS hc_p2 (inB_ok c10) dL_play_8 (fun H locs σ1 hM hS hc_p2 ho11 => ?_)
    replace hc_p2 : σ1 a_p2 = some (eJ K 1 (vp_updL f_p2 (0 : Int32).toNatClampNeg w6.1.toInt64)) := hc_p2
    replace hc_x := ho11 a_x _ hc_x (Ne.symm n_p2_x)
    replace hc_p0_now := ho11 a_p0_now _ hc_p0_now n_p0_now_p2
    replace hc_p0_memory := ho11 a_p0_memory _ hc_p0_memory n_p0_memory_p2
    replace hc_x_before0 := ho11 a_x_before0 _ hc_x_before0 (Ne.symm n_p2_x_before0)
    replace hc_x_before1 := ho11 a_x_before1 _ hc_x_before1 (Ne.symm n_p2_x_before1)
    replace hc_p0_now_before0 := ho11 a_p0_now_before0 _ hc_p0_now_before0 n_p0_now_before0_p2
    replace hc_p0_now_before1 := ho11 a_p0_now_before1 _ hc_p0_now_before1 n_p0_now_before1_p2
    have hf12 := fun (q : Nat) (f : va_E) (hf : σ q = some f) (n0 : q ≠ a_p2) (n1 : q ≠ a_x) (n2 : q ≠ a_p0_now) (n3 : q ≠ a_p0_memory) (n4 : q ≠ a_x_before0) (n5 : q ≠ a_x_before1) (n6 : q ≠ a_p0_now_before0) (n7 : q ≠ a_p0_now_before1) => ho11 q f (hf9 q f hf n0 n1 n2 n3 n4 n5 n6 n7) n0
    refine lv_goto (tgt := 18) hx hb dL_play_9 (by decide) ?_
    refine lv_iconst (v := 0) hx hb dL_play_18 (by decide) ?_
    cases h
    replace hc_x : σ1 a_x = some (cl0 a_x_before0 a_x_before1 (if (0 : Int32) = 0 then a_p0_now_grid else a_x_grid) w6.2.1) := by
      first | (rw [if_pos (by assumption)]; exact hc_x) | (rw [if_neg (by assumption)]; exact hc_x) | (rw [if_neg (by decide)]; exact hc_x) | (rw [if_pos (by decide)]; exact hc_x)
    exact W.iret hx hb hr (fun t ht hW => ⟨⟨_, _, rfl, ⟨rfl, hc_p2, hc_x, hc_p0_now, hc_p0_memory, hc_x_before0, hc_x_before1, hc_p0_now_before0, hc_p0_now_before1, hf12⟩, by show MW z D _ t.heap; rw [ht]; exact hM⟩, hS.F ht⟩) hS.2.2 dL_play_19 hlocks
theorem l_L_pass_0 : Cond.classLink RL 15 "java/lang/IllegalStateException" ∈ wsL_pass := (List.mem_cons_of_mem _ (List.mem_append_left _ (List.mem_append_left _ (List.mem_append_left _ (List.mem_append_left _ (List.mem_append_left _ (List.mem_of_getElem? (i := 0) rfl)))))))
theorem q_L_pass : yL_pass.cls ≠ "java/lang/invoke/MethodHandle" ∧ yL_pass.cls ≠ "java/lang/invoke/VarHandle" ∧ (parseMethodDescriptor yL_pass.desc).map (fun d => d.parameters.length) = some 2 := by decide +kernel
def fL_pass (a_x : Nat) (f_p1 : Nat → Int64) (w_x : Int32 × Int32 × Int32 × Int32 × Int64 × Int64 × Int32 × Int32) (w_p0_now : Int32 × Int32 × Int32 × Int32 × Int64 × Int64 × Int32 × Int32) (w_p0_memory : Int32 × Int32) (f_x_before0 : Nat → Int64) (f_x_before1 : Nat → Int64) (f_p0_now_before0 : Nat → Int64) (f_p0_now_before1 : Nat → Int64) (f_p0_memory_ring : Nat → Option Nat) : Option (Int32 × (Nat → Int64) × (Int32 × Int32 × Int32 × Int32 × Int64 × Int64 × Int32 × Int32) × (Int32 × Int32 × Int32 × Int32 × Int64 × Int64 × Int32 × Int32) × (Int32 × Int32) × (Nat → Int64) × (Nat → Int64) × (Nat → Int64) × (Nat → Int64)) := (fX7_pass a_x w_x w_p0_now w_p0_memory f_x_before0 f_x_before1 f_p0_now_before0 f_p0_now_before1 f_p0_memory_ring).bind fun r1 => rsum r1 (fun E4 => if E4 = "java/lang/IllegalStateException" then (some (((1 : Int32), f_p1, w_x, w_p0_now, w_p0_memory, f_x_before0, f_x_before1, f_p0_now_before0, f_p0_now_before1))) else (none)) (fun w6 => if inB 0 1 = true then (some (((0 : Int32), (vp_updL f_p1 (0 : Int32).toNatClampNeg w6.1.toInt64), w6.2.1, w6.2.2.1, w6.2.2.2.1, w6.2.2.2.2.1, w6.2.2.2.2.2.1, w6.2.2.2.2.2.2.1, w6.2.2.2.2.2.2.2))) else none)
set_option maxHeartbeats 4000000 in
set_option maxRecDepth 100000 in
theorem c_L_pass {l : Launch} {z : Nat} {D : va_G} {K : Nat → ClassId} {σ : mwm} {a_p0 a_p1 a_p0_text a_p0_now a_p0_copy a_p0_memory a_p0_slot0 a_p0_slot1 a_x_before0 a_x_before1 a_x_grid a_p0_now_before0 a_p0_now_before1 a_p0_now_grid a_p0_memory_ring : Nat} {a_x : Nat} {f_p1 : Nat → Int64} {w_x : Int32 × Int32 × Int32 × Int32 × Int64 × Int64 × Int32 × Int32} {w_p0_now : Int32 × Int32 × Int32 × Int32 × Int64 × Int64 × Int32 × Int32} {w_p0_memory : Int32 × Int32} {f_x_before0 : Nat → Int64} {f_x_before1 : Nat → Int64} {f_p0_now_before0 : Nat → Int64} {f_p0_now_before1 : Nat → Int64} {f_p0_memory_ring : Nat → Option Nat} (hc_p0 : σ a_p0 = some (cl5 a_p0_text a_p0_now a_p0_copy a_p0_memory a_p0_slot0 a_p0_slot1)) (hc_p1 : σ a_p1 = some (eJ K 1 f_p1)) (hc_x : σ a_x = some (cl0 a_x_before0 a_x_before1 a_x_grid w_x)) (hc_p0_now : σ a_p0_now = some (cl0 a_p0_now_before0 a_p0_now_before1 a_p0_now_grid w_p0_now)) (hc_p0_memory : σ a_p0_memory = some (cl3 a_p0_memory_ring w_p0_memory)) (hc_x_before0 : σ a_x_before0 = some (eJ K 121 f_x_before0)) (hc_x_before1 : σ a_x_before1 = some (eJ K 121 f_x_before1)) (hc_p0_now_before0 : σ a_p0_now_before0 = some (eJ K 121 f_p0_now_before0)) (hc_p0_now_before1 : σ a_p0_now_before1 = some (eJ K 121 f_p0_now_before1)) (hc_p0_memory_ring : σ a_p0_memory_ring = some (eQ K 14 f_p0_memory_ring)) (n_p0_p0_memory : a_p0 ≠ a_p0_memory) (n_p0_p0_now : a_p0 ≠ a_p0_now) (n_p0_p0_now_before0 : a_p0 ≠ a_p0_now_before0) (n_p0_p0_now_before1 : a_p0 ≠ a_p0_now_before1) (n_p0_x : a_p0 ≠ a_x) (n_p0_x_before0 : a_p0 ≠ a_x_before0) (n_p0_x_before1 : a_p0 ≠ a_x_before1) (n_p0_memory_p0_memory_ring : a_p0_memory ≠ a_p0_memory_ring) (n_p0_memory_p0_now : a_p0_memory ≠ a_p0_now) (n_p0_memory_p0_now_before0 : a_p0_memory ≠ a_p0_now_before0) (n_p0_memory_p0_now_before1 : a_p0_memory ≠ a_p0_now_before1) (n_p0_memory_p1 : a_p0_memory ≠ a_p1) (n_p0_memory_x : a_p0_memory ≠ a_x) (n_p0_memory_x_before0 : a_p0_memory ≠ a_x_before0) (n_p0_memory_x_before1 : a_p0_memory ≠ a_x_before1) (n_p0_memory_ring_x : a_p0_memory_ring ≠ a_x) (n_p0_memory_ring_x_before0 : a_p0_memory_ring ≠ a_x_before0) (n_p0_memory_ring_x_before1 : a_p0_memory_ring ≠ a_x_before1) (n_p0_now_p0_now_before0 : a_p0_now ≠ a_p0_now_before0) (n_p0_now_p0_now_before1 : a_p0_now ≠ a_p0_now_before1) (n_p0_now_p1 : a_p0_now ≠ a_p1) (n_p0_now_x : a_p0_now ≠ a_x) (n_p0_now_x_before0 : a_p0_now ≠ a_x_before0) (n_p0_now_x_before1 : a_p0_now ≠ a_x_before1) (n_p0_now_before0_p0_now_before1 : a_p0_now_before0 ≠ a_p0_now_before1) (n_p0_now_before0_p1 : a_p0_now_before0 ≠ a_p1) (n_p0_now_before0_x : a_p0_now_before0 ≠ a_x) (n_p0_now_before0_x_before0 : a_p0_now_before0 ≠ a_x_before0) (n_p0_now_before0_x_before1 : a_p0_now_before0 ≠ a_x_before1) (n_p0_now_before1_p1 : a_p0_now_before1 ≠ a_p1) (n_p0_now_before1_x : a_p0_now_before1 ≠ a_x) (n_p0_now_before1_x_before0 : a_p0_now_before1 ≠ a_x_before0) (n_p0_now_before1_x_before1 : a_p0_now_before1 ≠ a_x_before1) (n_p1_x : a_p1 ≠ a_x) (n_p1_x_before0 : a_p1 ≠ a_x_before0) (n_p1_x_before1 : a_p1 ≠ a_x_before1) (n_x_x_before0 : a_x ≠ a_x_before0) (n_x_x_before1 : a_x ≠ a_x_before1) (n_x_before0_x_before1 : a_x_before0 ≠ a_x_before1) (hlt : l.stackTraces = false) {v : Int32 × (Nat → Int64) × (Int32 × Int32 × Int32 × Int32 × Int64 × Int64 × Int32 × Int32) × (Int32 × Int32 × Int32 × Int32 × Int64 × Int64 × Int32 × Int32) × (Int32 × Int32) × (Nat → Int64) × (Nat → Int64) × (Nat → Int64) × (Nat → Int64)} (h : fL_pass a_x f_p1 w_x w_p0_now w_p0_memory f_x_before0 f_x_before1 f_p0_now_before0 f_p0_now_before1 f_p0_memory_ring = some v) : Met l yL_pass wsL_pass ({ frames := 7, cells := 1, slots := 6, locals := 119 } : Room) (PCx z D K [.ref a_p0, .ref a_p1] σ) (qwI z D (fun r σ2 => r = v.1 ∧ σ2 a_p1 = some (eJ K 1 v.2.1) ∧ σ2 a_x = some (cl0 a_x_before0 a_x_before1 (if v.1 = 0 then a_p0_now_grid else a_x_grid) v.2.2.1) ∧ σ2 a_p0_now = some (cl0 a_p0_now_before0 a_p0_now_before1 a_p0_now_grid v.2.2.2.1) ∧ σ2 a_p0_memory = some (cl3 a_p0_memory_ring v.2.2.2.2.1) ∧ σ2 a_x_before0 = some (eJ K 121 v.2.2.2.2.2.1) ∧ σ2 a_x_before1 = some (eJ K 121 v.2.2.2.2.2.2.1) ∧ σ2 a_p0_now_before0 = some (eJ K 121 v.2.2.2.2.2.2.2.1) ∧ σ2 a_p0_now_before1 = some (eJ K 121 v.2.2.2.2.2.2.2.2) ∧ ∀ (q : Nat) (f : va_E), σ q = some f → q ≠ a_p1 → q ≠ a_x → q ≠ a_p0_now → q ≠ a_p0_memory → q ≠ a_x_before0 → q ≠ a_x_before1 → q ≠ a_p0_now_before0 → q ≠ a_p0_now_before1 → σ2 q = some f)) 1 6 (zA z) := by
  refine mh_enter (cc := cL_pass) (maxL := 3) (ret := (some .int)) (own := RL) (lv := [(0, .ref a_p0), (1, .ref a_p1)]) (by decide) rfl rfl (Nat.le_of_ble_eq_true rfl) rfl ?_
  intro p e s m below meth c ls hC hx hb hown hts hK hr hlocks hnm hz hM hS hl hX hex
  unfold fL_pass at h
  refine lv_aload_n hx hb dL_pass_0 rfl (lv_at hl 1 rfl) ?_
  refine lv_iconst (v := 0) hx hb dL_pass_1 (by decide) ?_
  refine lv_aload_n hx hb dL_pass_2 rfl (lv_at hl 0 rfl) ?_
  obtain ⟨r1, hr1, h⟩ := ob_some h
  refine mx_ci (mx_runV (As := []) (rest := [.int 0, .ref a_p1]) (ci := 5) (C := RX7) (T := TX7) (N := 6) hC hX hM hS hc_p0 rfl (c_X7_pass (a_t := a_p0) (a_x := a_x) (a_t_text := a_p0_text) (a_t_now := a_p0_now) (a_t_copy := a_p0_copy) (a_t_memory := a_p0_memory) (a_t_slot0 := a_p0_slot0) (a_t_slot1 := a_p0_slot1) (a_x_before0 := a_x_before0) (a_x_before1 := a_x_before1) (a_x_grid := a_x_grid) (a_t_now_before0 := a_p0_now_before0) (a_t_now_before1 := a_p0_now_before1) (a_t_now_grid := a_p0_now_grid) (a_t_memory_ring := a_p0_memory_ring) (w_x := w_x) (w_t_now := w_p0_now) (w_t_memory := w_p0_memory) (f_x_before0 := f_x_before0) (f_x_before1 := f_x_before1) (f_t_now_before0 := f_p0_now_before0) (f_t_now_before1 := f_p0_now_before1) (f_t_memory_ring := f_p0_memory_ring) (hc_t := hc_p0) (hc_x := hc_x) (hc_t_now := hc_p0_now) (hc_t_memory := hc_p0_memory) (hc_x_before0 := hc_x_before0) (hc_x_before1 := hc_x_before1) (hc_t_now_before0 := hc_p0_now_before0) (hc_t_now_before1 := hc_p0_now_before1) (hc_t_memory_ring := hc_p0_memory_ring) (n_t_t_memory := n_p0_p0_memory) (n_t_t_now := n_p0_p0_now) (n_t_t_now_before0 := n_p0_p0_now_before0) (n_t_t_now_before1 := n_p0_p0_now_before1) (n_t_x := n_p0_x) (n_t_x_before0 := n_p0_x_before0) (n_t_x_before1 := n_p0_x_before1) (n_t_memory_t_memory_ring := n_p0_memory_p0_memory_ring) (n_t_memory_t_now := n_p0_memory_p0_now) (n_t_memory_t_now_before0 := n_p0_memory_p0_now_before0) (n_t_memory_t_now_before1 := n_p0_memory_p0_now_before1) (n_t_memory_x := n_p0_memory_x) (n_t_memory_x_before0 := n_p0_memory_x_before0) (n_t_memory_x_before1 := n_p0_memory_x_before1) (n_t_memory_ring_x := n_p0_memory_ring_x) (n_t_memory_ring_x_before0 := n_p0_memory_ring_x_before0) (n_t_memory_ring_x_before1 := n_p0_memory_ring_x_before1) (n_t_now_t_now_before0 := n_p0_now_p0_now_before0) (n_t_now_t_now_before1 := n_p0_now_p0_now_before1) (n_t_now_x := n_p0_now_x) (n_t_now_x_before0 := n_p0_now_x_before0) (n_t_now_x_before1 := n_p0_now_x_before1) (n_t_now_before0_t_now_before1 := n_p0_now_before0_p0_now_before1) (n_t_now_before0_x := n_p0_now_before0_x) (n_t_now_before0_x_before0 := n_p0_now_before0_x_before0) (n_t_now_before0_x_before1 := n_p0_now_before0_x_before1) (n_t_now_before1_x := n_p0_now_before1_x) (n_t_now_before1_x_before0 := n_p0_now_before1_x_before0) (n_t_now_before1_x_before1 := n_p0_now_before1_x_before1) (n_x_x_before0 := n_x_x_before0) (n_x_x_before1 := n_x_x_before1) (n_x_before0_x_before1 := n_x_before0_x_before1) (hlt := hlt) (v := r1) hr1) gL_pass_X7_pass rfl rfl rfl rfl q_X7_pass ⟨Nat.le_of_ble_eq_true rfl, Nat.le_of_ble_eq_true rfl⟩ rfl rfl (Nat.le_of_ble_eq_true rfl) hl.1 dL_pass_3 ⟨Nat.le_of_ble_eq_true rfl, Nat.le_of_ble_eq_true rfl⟩) hS (fun E4 ce a_e5 H locs hvE hM hS hce hcv hcl => ?_) (fun r9 H locs σ1 hp3 hM hS => ?_)
  · subst hvE
    replace h := rsum_inl h
    by_cases c7 : E4 = "java/lang/IllegalStateException"
    · replace h := it_pos c7 h
      subst c7
      refine vx_catch (name := "java/lang/IllegalStateException") hown [] ⟨0, 8, 11, 15⟩ [] hex (fun _ h9 => by cases h9) (by decide) (by decide) (hts _ l_L_pass_0) (va_Nw.use rfl (xc_S hX)) hce hcv hcl ?_
      refine W.eq (g2 := F0 m 11 ls [.ref a_e5]) rfl ?_
      refine lv_astore_n (lv' := [(2, .ref a_e5), (0, .ref a_p0), (1, .ref a_p1)]) hx hb dL_pass_11 rfl hl (by decide) rfl (fun ls hl => ?_)
      refine lv_iconst (v := 1) hx hb dL_pass_12 (by decide) ?_
      cases h
      replace hc_x : σ a_x = some (cl0 a_x_before0 a_x_before1 (if (1 : Int32) = 0 then a_p0_now_grid else a_x_grid) w_x) := by
        first | (rw [if_pos (by assumption)]; exact hc_x) | (rw [if_neg (by assumption)]; exact hc_x) | (rw [if_neg (by decide)]; exact hc_x) | (rw [if_pos (by decide)]; exact hc_x)
      exact W.iret hx hb hr (fun t ht hW => ⟨⟨_, _, rfl, ⟨rfl, hc_p1, hc_x, hc_p0_now, hc_p0_memory, hc_x_before0, hc_x_before1, hc_p0_now_before0, hc_p0_now_before1, (fun _ _ h9 _ _ _ _ _ _ _ _ => h9)⟩, by show MW z D _ t.heap; rw [ht]; exact hM⟩, hS.F ht⟩) hS.2.2 dL_pass_13 hlocks
    replace h := it_neg c7 h
    cases h
  · obtain ⟨w6, hw9, hr9, hc_x, hc_p0_now, hc_p0_memory, hc_x_before0, hc_x_before1, hc_p0_now_before0, hc_p0_now_before1, ho2⟩ := hp3
    replace hr9 := hr9.symm
    subst hr9
    subst hw9
    replace h := rsum_inr h
    replace hc_p1 := ho2 a_p1 _ hc_p1 n_p1_x (Ne.symm n_p0_now_p1) (Ne.symm n_p0_memory_p1) n_p1_x_before0 n_p1_x_before1 (Ne.symm n_p0_now_before0_p1) (Ne.symm n_p0_now_before1_p1)
    have hf8 := fun (q : Nat) (f : va_E) (hf : σ q = some f) (n0 : q ≠ a_p1) (n1 : q ≠ a_x) (n2 : q ≠ a_p0_now) (n3 : q ≠ a_p0_memory) (n4 : q ≠ a_x_before0) (n5 : q ≠ a_x_before1) (n6 : q ≠ a_p0_now_before0) (n7 : q ≠ a_p0_now_before1) => ho2 q f hf n1 n2 n3 n4 n5 n6 n7
    refine W.widen (k := 1) (n := 6) (Nat.le_of_ble_eq_true rfl) (Nat.le_of_ble_eq_true rfl) ?_
    refine lv_i2l hx hb dL_pass_6 rfl ?_
    obtain ⟨c9, h⟩ := gd_some h
    refine mw_stJ hC hM hS hc_p1 (inB_ok c9) dL_pass_7 (fun H locs σ1 hM hS hc_p1 ho10 => ?_)
    replace hc_p1 : σ1 a_p1 = some (eJ K 1 (vp_updL f_p1 (0 : Int32).toNatClampNeg w6.1.toInt64)) := hc_p1
    replace hc_x := ho10 a_x _ hc_x (Ne.symm n_p1_x)
    replace hc_p0_now := ho10 a_p0_now _ hc_p0_now n_p0_now_p1
    replace hc_p0_memory := ho10 a_p0_memory _ hc_p0_memory n_p0_memory_p1
    replace hc_x_before0 := ho10 a_x_before0 _ hc_x_before0 (Ne.symm n_p1_x_before0)
    replace hc_x_before1 := ho10 a_x_before1 _ hc_x_before1 (Ne.symm n_p1_x_before1)
    replace hc_p0_now_before0 := ho10 a_p0_now_before0 _ hc_p0_now_before0 n_p0_now_before0_p1
    replace hc_p0_now_before1 := ho10 a_p0_now_before1 _ hc_p0_now_before1 n_p0_now_before1_p1
    have hf11 := fun (q : Nat) (f : va_E) (hf : σ q = some f) (n0 : q ≠ a_p1) (n1 : q ≠ a_x) (n2 : q ≠ a_p0_now) (n3 : q ≠ a_p0_memory) (n4 : q ≠ a_x_before0) (n5 : q ≠ a_x_before1) (n6 : q ≠ a_p0_now_before0) (n7 : q ≠ a_p0_now_before1) => ho10 q f (hf8 q f hf n0 n1 n2 n3 n4 n5 n6 n7) n0
    refine lv_goto (tgt := 14) hx hb dL_pass_8 (by decide) ?_
    refine lv_iconst (v := 0) hx hb dL_pass_14 (by decide) ?_
    cases h
    replace hc_x : σ1 a_x = some (cl0 a_x_before0 a_x_before1 (if (0 : Int32) = 0 then a_p0_now_grid else a_x_grid) w6.2.1) := by
      first | (rw [if_pos (by assumption)]; exact hc_x) | (rw [if_neg (by assumption)]; exact hc_x) | (rw [if_neg (by decide)]; exact hc_x) | (rw [if_pos (by decide)]; exact hc_x)
    exact W.iret hx hb hr (fun t ht hW => ⟨⟨_, _, rfl, ⟨rfl, hc_p1, hc_x, hc_p0_now, hc_p0_memory, hc_x_before0, hc_x_before1, hc_p0_now_before0, hc_p0_now_before1, hf11⟩, by show MW z D _ t.heap; rw [ht]; exact hM⟩, hS.F ht⟩) hS.2.2 dL_pass_15 hlocks
theorem l_L_set_0 : Cond.classLink RL 13 "java/lang/IllegalArgumentException" ∈ wsL_set := (List.mem_cons_of_mem _ (List.mem_append_left _ (List.mem_append_left _ (List.mem_append_left _ (List.mem_append_left _ (List.mem_append_left _ (List.mem_of_getElem? (i := 0) rfl)))))))
theorem q_L_set : yL_set.cls ≠ "java/lang/invoke/MethodHandle" ∧ yL_set.cls ≠ "java/lang/invoke/VarHandle" ∧ (parseMethodDescriptor yL_set.desc).map (fun d => d.parameters.length) = some 3 := by decide +kernel
def fL_set (a_x : Nat) (f_p2 : Nat → Int64) (w_x : Int32 × Int32 × Int32 × Int32 × Int64 × Int64 × Int32 × Int32) (w_p0_now : Int32 × Int32 × Int32 × Int32 × Int64 × Int64 × Int32 × Int32) (w_p0_memory : Int32 × Int32) (f_x_before0 : Nat → Int64) (f_x_before1 : Nat → Int64) (f_p0_memory_ring : Nat → Option Nat) (f_p0_now_before0 : Nat → Int64) (f_p0_now_before1 : Nat → Int64) (p1 : Int32) : Option (Int32 × (Nat → Int64) × (Int32 × Int32 × Int32 × Int32 × Int64 × Int64 × Int32 × Int32) × (Int32 × Int32 × Int32 × Int32 × Int64 × Int64 × Int32 × Int32) × (Int32 × Int32) × (Nat → Int64) × (Nat → Int64)) := (fX7_set a_x w_x w_p0_now w_p0_memory f_x_before0 f_x_before1 f_p0_memory_ring f_p0_now_before0 f_p0_now_before1 p1).bind fun r1 => rsum r1 (fun E4 => if E4 = "java/lang/IllegalArgumentException" then (some (((1 : Int32), f_p2, w_x, w_p0_now, w_p0_memory, f_x_before0, f_x_before1))) else (none)) (fun w6 => if inB 0 1 = true then (some (((0 : Int32), (vp_updL f_p2 (0 : Int32).toNatClampNeg w6.1.toInt64), w6.2.1, w6.2.2.1, w6.2.2.2.1, w6.2.2.2.2.1, w6.2.2.2.2.2))) else none)
set_option maxHeartbeats 4000000 in
set_option maxRecDepth 100000 in
theorem c_L_set {l : Launch} {z : Nat} {D : va_G} {K : Nat → ClassId} {σ : mwm} {a_p0 a_p2 a_p0_text a_p0_now a_p0_copy a_p0_memory a_p0_slot0 a_p0_slot1 a_x_before0 a_x_before1 a_x_grid a_p0_memory_ring a_p0_now_before0 a_p0_now_before1 a_p0_now_grid : Nat} {a_x : Nat} {f_p2 : Nat → Int64} {w_x : Int32 × Int32 × Int32 × Int32 × Int64 × Int64 × Int32 × Int32} {w_p0_now : Int32 × Int32 × Int32 × Int32 × Int64 × Int64 × Int32 × Int32} {w_p0_memory : Int32 × Int32} {f_x_before0 : Nat → Int64} {f_x_before1 : Nat → Int64} {f_p0_memory_ring : Nat → Option Nat} {f_p0_now_before0 : Nat → Int64} {f_p0_now_before1 : Nat → Int64} {p1 : Int32} (hc_p0 : σ a_p0 = some (cl5 a_p0_text a_p0_now a_p0_copy a_p0_memory a_p0_slot0 a_p0_slot1)) (hc_p2 : σ a_p2 = some (eJ K 1 f_p2)) (hc_x : σ a_x = some (cl0 a_x_before0 a_x_before1 a_x_grid w_x)) (hc_p0_now : σ a_p0_now = some (cl0 a_p0_now_before0 a_p0_now_before1 a_p0_now_grid w_p0_now)) (hc_p0_memory : σ a_p0_memory = some (cl3 a_p0_memory_ring w_p0_memory)) (hc_x_before0 : σ a_x_before0 = some (eJ K 121 f_x_before0)) (hc_x_before1 : σ a_x_before1 = some (eJ K 121 f_x_before1)) (hc_p0_memory_ring : σ a_p0_memory_ring = some (eQ K 14 f_p0_memory_ring)) (hc_p0_now_before0 : σ a_p0_now_before0 = some (eJ K 121 f_p0_now_before0)) (hc_p0_now_before1 : σ a_p0_now_before1 = some (eJ K 121 f_p0_now_before1)) (n_p0_p0_memory : a_p0 ≠ a_p0_memory) (n_p0_p0_now : a_p0 ≠ a_p0_now) (n_p0_x : a_p0 ≠ a_x) (n_p0_x_before0 : a_p0 ≠ a_x_before0) (n_p0_x_before1 : a_p0 ≠ a_x_before1) (n_p0_memory_p0_memory_ring : a_p0_memory ≠ a_p0_memory_ring) (n_p0_memory_p0_now : a_p0_memory ≠ a_p0_now) (n_p0_memory_p0_now_before0 : a_p0_memory ≠ a_p0_now_before0) (n_p0_memory_p0_now_before1 : a_p0_memory ≠ a_p0_now_before1) (n_p0_memory_p2 : a_p0_memory ≠ a_p2) (n_p0_memory_x : a_p0_memory ≠ a_x) (n_p0_memory_x_before0 : a_p0_memory ≠ a_x_before0) (n_p0_memory_x_before1 : a_p0_memory ≠ a_x_before1) (n_p0_memory_ring_x : a_p0_memory_ring ≠ a_x) (n_p0_memory_ring_x_before0 : a_p0_memory_ring ≠ a_x_before0) (n_p0_memory_ring_x_before1 : a_p0_memory_ring ≠ a_x_before1) (n_p0_now_p2 : a_p0_now ≠ a_p2) (n_p0_now_x : a_p0_now ≠ a_x) (n_p0_now_x_before0 : a_p0_now ≠ a_x_before0) (n_p0_now_x_before1 : a_p0_now ≠ a_x_before1) (n_p0_now_before0_x : a_p0_now_before0 ≠ a_x) (n_p0_now_before0_x_before0 : a_p0_now_before0 ≠ a_x_before0) (n_p0_now_before0_x_before1 : a_p0_now_before0 ≠ a_x_before1) (n_p0_now_before1_x : a_p0_now_before1 ≠ a_x) (n_p0_now_before1_x_before0 : a_p0_now_before1 ≠ a_x_before0) (n_p0_now_before1_x_before1 : a_p0_now_before1 ≠ a_x_before1) (n_p2_x : a_p2 ≠ a_x) (n_p2_x_before0 : a_p2 ≠ a_x_before0) (n_p2_x_before1 : a_p2 ≠ a_x_before1) (n_x_x_before0 : a_x ≠ a_x_before0) (n_x_x_before1 : a_x ≠ a_x_before1) (n_x_before0_x_before1 : a_x_before0 ≠ a_x_before1) (hlt : l.stackTraces = false) {v : Int32 × (Nat → Int64) × (Int32 × Int32 × Int32 × Int32 × Int64 × Int64 × Int32 × Int32) × (Int32 × Int32 × Int32 × Int32 × Int64 × Int64 × Int32 × Int32) × (Int32 × Int32) × (Nat → Int64) × (Nat → Int64)} (h : fL_set a_x f_p2 w_x w_p0_now w_p0_memory f_x_before0 f_x_before1 f_p0_memory_ring f_p0_now_before0 f_p0_now_before1 p1 = some v) : Met l yL_set wsL_set ({ frames := 7, cells := 1, slots := 6, locals := 121 } : Room) (PCx z D K [.ref a_p0, .int p1, .ref a_p2] σ) (qwI z D (fun r σ2 => r = v.1 ∧ σ2 a_p2 = some (eJ K 1 v.2.1) ∧ σ2 a_x = some (cl0 a_x_before0 a_x_before1 (if v.1 = 0 then a_p0_now_grid else a_x_grid) v.2.2.1) ∧ σ2 a_p0_now = some (cl0 a_p0_now_before0 a_p0_now_before1 a_p0_now_grid v.2.2.2.1) ∧ σ2 a_p0_memory = some (cl3 a_p0_memory_ring v.2.2.2.2.1) ∧ σ2 a_x_before0 = some (eJ K 121 v.2.2.2.2.2.1) ∧ σ2 a_x_before1 = some (eJ K 121 v.2.2.2.2.2.2) ∧ ∀ (q : Nat) (f : va_E), σ q = some f → q ≠ a_p2 → q ≠ a_x → q ≠ a_p0_now → q ≠ a_p0_memory → q ≠ a_x_before0 → q ≠ a_x_before1 → σ2 q = some f)) 1 6 (zA z) := by
  refine mh_enter (cc := cL_set) (maxL := 4) (ret := (some .int)) (own := RL) (lv := [(0, .ref a_p0), (1, .int p1), (2, .ref a_p2)]) (by decide) rfl rfl (Nat.le_of_ble_eq_true rfl) rfl ?_
  intro p e s m below meth c ls hC hx hb hown hts hK hr hlocks hnm hz hM hS hl hX hex
  unfold fL_set at h
  refine lv_aload_n hx hb dL_set_0 rfl (lv_at hl 2 rfl) ?_
  refine lv_iconst (v := 0) hx hb dL_set_1 (by decide) ?_
  refine lv_aload_n hx hb dL_set_2 rfl (lv_at hl 0 rfl) ?_
  refine lv_iload_n hx hb dL_set_3 rfl (lv_at hl 1 rfl) ?_
  obtain ⟨r1, hr1, h⟩ := ob_some h
  refine mx_ci (mx_runV (As := [.int p1]) (rest := [.int 0, .ref a_p2]) (ci := 5) (C := RX7) (T := TX7) (N := 6) hC hX hM hS hc_p0 rfl (c_X7_set (a_t := a_p0) (a_x := a_x) (a_t_text := a_p0_text) (a_t_now := a_p0_now) (a_t_copy := a_p0_copy) (a_t_memory := a_p0_memory) (a_t_slot0 := a_p0_slot0) (a_t_slot1 := a_p0_slot1) (a_x_before0 := a_x_before0) (a_x_before1 := a_x_before1) (a_x_grid := a_x_grid) (a_t_memory_ring := a_p0_memory_ring) (a_t_now_before0 := a_p0_now_before0) (a_t_now_before1 := a_p0_now_before1) (a_t_now_grid := a_p0_now_grid) (w_x := w_x) (w_t_now := w_p0_now) (w_t_memory := w_p0_memory) (f_x_before0 := f_x_before0) (f_x_before1 := f_x_before1) (f_t_memory_ring := f_p0_memory_ring) (f_t_now_before0 := f_p0_now_before0) (f_t_now_before1 := f_p0_now_before1) (p0 := p1) (hc_t := hc_p0) (hc_x := hc_x) (hc_t_now := hc_p0_now) (hc_t_memory := hc_p0_memory) (hc_x_before0 := hc_x_before0) (hc_x_before1 := hc_x_before1) (hc_t_memory_ring := hc_p0_memory_ring) (hc_t_now_before0 := hc_p0_now_before0) (hc_t_now_before1 := hc_p0_now_before1) (n_t_t_memory := n_p0_p0_memory) (n_t_t_now := n_p0_p0_now) (n_t_x := n_p0_x) (n_t_x_before0 := n_p0_x_before0) (n_t_x_before1 := n_p0_x_before1) (n_t_memory_t_memory_ring := n_p0_memory_p0_memory_ring) (n_t_memory_t_now := n_p0_memory_p0_now) (n_t_memory_t_now_before0 := n_p0_memory_p0_now_before0) (n_t_memory_t_now_before1 := n_p0_memory_p0_now_before1) (n_t_memory_x := n_p0_memory_x) (n_t_memory_x_before0 := n_p0_memory_x_before0) (n_t_memory_x_before1 := n_p0_memory_x_before1) (n_t_memory_ring_x := n_p0_memory_ring_x) (n_t_memory_ring_x_before0 := n_p0_memory_ring_x_before0) (n_t_memory_ring_x_before1 := n_p0_memory_ring_x_before1) (n_t_now_x := n_p0_now_x) (n_t_now_x_before0 := n_p0_now_x_before0) (n_t_now_x_before1 := n_p0_now_x_before1) (n_t_now_before0_x := n_p0_now_before0_x) (n_t_now_before0_x_before0 := n_p0_now_before0_x_before0) (n_t_now_before0_x_before1 := n_p0_now_before0_x_before1) (n_t_now_before1_x := n_p0_now_before1_x) (n_t_now_before1_x_before0 := n_p0_now_before1_x_before0) (n_t_now_before1_x_before1 := n_p0_now_before1_x_before1) (n_x_x_before0 := n_x_x_before0) (n_x_x_before1 := n_x_x_before1) (n_x_before0_x_before1 := n_x_before0_x_before1) (hlt := hlt) (v := r1) hr1) gL_set_X7_set rfl rfl rfl rfl q_X7_set ⟨Nat.le_of_ble_eq_true rfl, Nat.le_of_ble_eq_true rfl⟩ rfl rfl (Nat.le_of_ble_eq_true rfl) hl.1 dL_set_4 ⟨Nat.le_of_ble_eq_true rfl, Nat.le_of_ble_eq_true rfl⟩) hS (fun E4 ce a_e5 H locs hvE hM hS hce hcv hcl => ?_) (fun r9 H locs σ1 hp3 hM hS => ?_)
  · subst hvE
    replace h := rsum_inl h
    by_cases c7 : E4 = "java/lang/IllegalArgumentException"
    · replace h := it_pos c7 h
      subst c7
      refine vx_catch (name := "java/lang/IllegalArgumentException") hown [] ⟨0, 9, 12, 13⟩ [] hex (fun _ h9 => by cases h9) (by decide) (by decide) (hts _ l_L_set_0) (va_Nw.use rfl (xc_A hX)) hce hcv hcl ?_
      refine W.eq (g2 := F0 m 12 ls [.ref a_e5]) rfl ?_
      refine lv_astore_n (lv' := [(3, .ref a_e5), (0, .ref a_p0), (1, .int p1), (2, .ref a_p2)]) hx hb dL_set_12 rfl hl (by decide) rfl (fun ls hl => ?_)
      refine lv_iconst (v := 1) hx hb dL_set_13 (by decide) ?_
      cases h
      replace hc_x : σ a_x = some (cl0 a_x_before0 a_x_before1 (if (1 : Int32) = 0 then a_p0_now_grid else a_x_grid) w_x) := by
        first | (rw [if_pos (by assumption)]; exact hc_x) | (rw [if_neg (by assumption)]; exact hc_x) | (rw [if_neg (by decide)]; exact hc_x) | (rw [if_pos (by decide)]; exact hc_x)
      exact W.iret hx hb hr (fun t ht hW => ⟨⟨_, _, rfl, ⟨rfl, hc_p2, hc_x, hc_p0_now, hc_p0_memory, hc_x_before0, hc_x_before1, (fun _ _ h9 _ _ _ _ _ _ => h9)⟩, by show MW z D _ t.heap; rw [ht]; exact hM⟩, hS.F ht⟩) hS.2.2 dL_set_14 hlocks
    replace h := it_neg c7 h
    cases h
  · obtain ⟨w6, hw9, hr9, hc_x, hc_p0_now, hc_p0_memory, hc_x_before0, hc_x_before1, ho2⟩ := hp3
    replace hr9 := hr9.symm
    subst hr9
    subst hw9
    replace h := rsum_inr h
    replace hc_p2 := ho2 a_p2 _ hc_p2 n_p2_x (Ne.symm n_p0_now_p2) (Ne.symm n_p0_memory_p2) n_p2_x_before0 n_p2_x_before1
    have hf8 := fun (q : Nat) (f : va_E) (hf : σ q = some f) (n0 : q ≠ a_p2) (n1 : q ≠ a_x) (n2 : q ≠ a_p0_now) (n3 : q ≠ a_p0_memory) (n4 : q ≠ a_x_before0) (n5 : q ≠ a_x_before1) => ho2 q f hf n1 n2 n3 n4 n5
    refine W.widen (k := 1) (n := 6) (Nat.le_of_ble_eq_true rfl) (Nat.le_of_ble_eq_true rfl) ?_
    refine lv_i2l hx hb dL_set_7 rfl ?_
    obtain ⟨c9, h⟩ := gd_some h
    refine mw_stJ hC hM hS hc_p2 (inB_ok c9) dL_set_8 (fun H locs σ1 hM hS hc_p2 ho10 => ?_)
    replace hc_p2 : σ1 a_p2 = some (eJ K 1 (vp_updL f_p2 (0 : Int32).toNatClampNeg w6.1.toInt64)) := hc_p2
    replace hc_x := ho10 a_x _ hc_x (Ne.symm n_p2_x)
    replace hc_p0_now := ho10 a_p0_now _ hc_p0_now n_p0_now_p2
    replace hc_p0_memory := ho10 a_p0_memory _ hc_p0_memory n_p0_memory_p2
    replace hc_x_before0 := ho10 a_x_before0 _ hc_x_before0 (Ne.symm n_p2_x_before0)
    replace hc_x_before1 := ho10 a_x_before1 _ hc_x_before1 (Ne.symm n_p2_x_before1)
    have hf11 := fun (q : Nat) (f : va_E) (hf : σ q = some f) (n0 : q ≠ a_p2) (n1 : q ≠ a_x) (n2 : q ≠ a_p0_now) (n3 : q ≠ a_p0_memory) (n4 : q ≠ a_x_before0) (n5 : q ≠ a_x_before1) => ho10 q f (hf8 q f hf n0 n1 n2 n3 n4 n5) n0
    refine lv_goto (tgt := 15) hx hb dL_set_9 (by decide) ?_
    refine lv_iconst (v := 0) hx hb dL_set_15 (by decide) ?_
    cases h
    replace hc_x : σ1 a_x = some (cl0 a_x_before0 a_x_before1 (if (0 : Int32) = 0 then a_p0_now_grid else a_x_grid) w6.2.1) := by
      first | (rw [if_pos (by assumption)]; exact hc_x) | (rw [if_neg (by assumption)]; exact hc_x) | (rw [if_neg (by decide)]; exact hc_x) | (rw [if_pos (by decide)]; exact hc_x)
    exact W.iret hx hb hr (fun t ht hW => ⟨⟨_, _, rfl, ⟨rfl, hc_p2, hc_x, hc_p0_now, hc_p0_memory, hc_x_before0, hc_x_before1, hf11⟩, by show MW z D _ t.heap; rw [ht]; exact hM⟩, hS.F ht⟩) hS.2.2 dL_set_16 hlocks
theorem l_L_undo_0 : Cond.classLink RL 15 "java/lang/IllegalStateException" ∈ wsL_undo := (List.mem_cons_of_mem _ (List.mem_append_left _ (List.mem_append_left _ (List.mem_append_left _ (List.mem_append_left _ (List.mem_append_left _ (List.mem_of_getElem? (i := 0) rfl)))))))
theorem q_L_undo : yL_undo.cls ≠ "java/lang/invoke/MethodHandle" ∧ yL_undo.cls ≠ "java/lang/invoke/VarHandle" ∧ (parseMethodDescriptor yL_undo.desc).map (fun d => d.parameters.length) = some 2 := by decide +kernel
def fL_undo (a_x : Nat) (f_p1 : Nat → Int64) (w_x : Int32 × Int32 × Int32 × Int32 × Int64 × Int64 × Int32 × Int32) (w_p0_now : Int32 × Int32 × Int32 × Int32 × Int64 × Int64 × Int32 × Int32) (w_p0_memory : Int32 × Int32) (f_x_before0 : Nat → Int64) (f_x_before1 : Nat → Int64) (f_p0_memory_ring : Nat → Option Nat) (f_p0_now_before0 : Nat → Int64) (f_p0_now_before1 : Nat → Int64) : Option (Int32 × (Nat → Int64) × (Int32 × Int32 × Int32 × Int32 × Int64 × Int64 × Int32 × Int32) × (Int32 × Int32) × (Nat → Int64) × (Nat → Int64)) := (fX7_undo a_x w_x w_p0_now w_p0_memory f_x_before0 f_x_before1 f_p0_memory_ring f_p0_now_before0 f_p0_now_before1).bind fun r1 => rsum r1 (fun E4 => if E4 = "java/lang/IllegalStateException" then (some (((1 : Int32), f_p1, w_p0_now, w_p0_memory, f_p0_now_before0, f_p0_now_before1))) else (none)) (fun w6 => if inB 0 1 = true then (some (((0 : Int32), (vp_updL f_p1 (0 : Int32).toNatClampNeg w6.1.toInt64), w6.2.1, w6.2.2.1, w6.2.2.2.1, w6.2.2.2.2))) else none)
set_option maxHeartbeats 4000000 in
set_option maxRecDepth 100000 in
theorem c_L_undo {l : Launch} {z : Nat} {D : va_G} {K : Nat → ClassId} {σ : mwm} {a_p0 a_p1 a_p0_text a_p0_now a_p0_copy a_p0_memory a_p0_slot0 a_p0_slot1 a_x_before0 a_x_before1 a_x_grid a_p0_memory_ring a_p0_now_before0 a_p0_now_before1 a_p0_now_grid : Nat} {a_x : Nat} {f_p1 : Nat → Int64} {w_x : Int32 × Int32 × Int32 × Int32 × Int64 × Int64 × Int32 × Int32} {w_p0_now : Int32 × Int32 × Int32 × Int32 × Int64 × Int64 × Int32 × Int32} {w_p0_memory : Int32 × Int32} {f_x_before0 : Nat → Int64} {f_x_before1 : Nat → Int64} {f_p0_memory_ring : Nat → Option Nat} {f_p0_now_before0 : Nat → Int64} {f_p0_now_before1 : Nat → Int64} (hc_p0 : σ a_p0 = some (cl5 a_p0_text a_p0_now a_p0_copy a_p0_memory a_p0_slot0 a_p0_slot1)) (hc_p1 : σ a_p1 = some (eJ K 1 f_p1)) (hc_x : σ a_x = some (cl0 a_x_before0 a_x_before1 a_x_grid w_x)) (hc_p0_now : σ a_p0_now = some (cl0 a_p0_now_before0 a_p0_now_before1 a_p0_now_grid w_p0_now)) (hc_p0_memory : σ a_p0_memory = some (cl3 a_p0_memory_ring w_p0_memory)) (hc_x_before0 : σ a_x_before0 = some (eJ K 121 f_x_before0)) (hc_x_before1 : σ a_x_before1 = some (eJ K 121 f_x_before1)) (hc_p0_memory_ring : σ a_p0_memory_ring = some (eQ K 14 f_p0_memory_ring)) (hc_p0_now_before0 : σ a_p0_now_before0 = some (eJ K 121 f_p0_now_before0)) (hc_p0_now_before1 : σ a_p0_now_before1 = some (eJ K 121 f_p0_now_before1)) (n_p0_memory_p0_now : a_p0_memory ≠ a_p0_now) (n_p0_memory_p0_now_before0 : a_p0_memory ≠ a_p0_now_before0) (n_p0_memory_p0_now_before1 : a_p0_memory ≠ a_p0_now_before1) (n_p0_memory_p1 : a_p0_memory ≠ a_p1) (n_p0_now_p0_now_before0 : a_p0_now ≠ a_p0_now_before0) (n_p0_now_p0_now_before1 : a_p0_now ≠ a_p0_now_before1) (n_p0_now_p1 : a_p0_now ≠ a_p1) (n_p0_now_x : a_p0_now ≠ a_x) (n_p0_now_x_before0 : a_p0_now ≠ a_x_before0) (n_p0_now_x_before1 : a_p0_now ≠ a_x_before1) (n_p0_now_before0_p0_now_before1 : a_p0_now_before0 ≠ a_p0_now_before1) (n_p0_now_before0_p1 : a_p0_now_before0 ≠ a_p1) (n_p0_now_before0_x : a_p0_now_before0 ≠ a_x) (n_p0_now_before0_x_before0 : a_p0_now_before0 ≠ a_x_before0) (n_p0_now_before0_x_before1 : a_p0_now_before0 ≠ a_x_before1) (n_p0_now_before1_p1 : a_p0_now_before1 ≠ a_p1) (n_p0_now_before1_x : a_p0_now_before1 ≠ a_x) (n_p0_now_before1_x_before0 : a_p0_now_before1 ≠ a_x_before0) (n_p0_now_before1_x_before1 : a_p0_now_before1 ≠ a_x_before1) (hlt : l.stackTraces = false) {v : Int32 × (Nat → Int64) × (Int32 × Int32 × Int32 × Int32 × Int64 × Int64 × Int32 × Int32) × (Int32 × Int32) × (Nat → Int64) × (Nat → Int64)} (h : fL_undo a_x f_p1 w_x w_p0_now w_p0_memory f_x_before0 f_x_before1 f_p0_memory_ring f_p0_now_before0 f_p0_now_before1 = some v) : Met l yL_undo wsL_undo ({ frames := 7, cells := 1, slots := 6, locals := 119 } : Room) (PCx z D K [.ref a_p0, .ref a_p1] σ) (qwI z D (fun r σ2 => r = v.1 ∧ σ2 a_p1 = some (eJ K 1 v.2.1) ∧ σ2 a_p0_now = some (cl0 a_p0_now_before0 a_p0_now_before1 (if v.1 = 0 then a_x_grid else a_p0_now_grid) v.2.2.1) ∧ σ2 a_p0_memory = some (cl3 a_p0_memory_ring v.2.2.2.1) ∧ σ2 a_p0_now_before0 = some (eJ K 121 v.2.2.2.2.1) ∧ σ2 a_p0_now_before1 = some (eJ K 121 v.2.2.2.2.2) ∧ ∀ (q : Nat) (f : va_E), σ q = some f → q ≠ a_p1 → q ≠ a_p0_now → q ≠ a_p0_memory → q ≠ a_p0_now_before0 → q ≠ a_p0_now_before1 → σ2 q = some f)) 1 6 (zA z) := by
  refine mh_enter (cc := cL_undo) (maxL := 3) (ret := (some .int)) (own := RL) (lv := [(0, .ref a_p0), (1, .ref a_p1)]) (by decide) rfl rfl (Nat.le_of_ble_eq_true rfl) rfl ?_
  intro p e s m below meth c ls hC hx hb hown hts hK hr hlocks hnm hz hM hS hl hX hex
  unfold fL_undo at h
  refine lv_aload_n hx hb dL_undo_0 rfl (lv_at hl 1 rfl) ?_
  refine lv_iconst (v := 0) hx hb dL_undo_1 (by decide) ?_
  refine lv_aload_n hx hb dL_undo_2 rfl (lv_at hl 0 rfl) ?_
  obtain ⟨r1, hr1, h⟩ := ob_some h
  refine mx_ci (mx_runV (As := []) (rest := [.int 0, .ref a_p1]) (ci := 5) (C := RX7) (T := TX7) (N := 6) hC hX hM hS hc_p0 rfl (c_X7_undo (a_t := a_p0) (a_x := a_x) (a_t_text := a_p0_text) (a_t_now := a_p0_now) (a_t_copy := a_p0_copy) (a_t_memory := a_p0_memory) (a_t_slot0 := a_p0_slot0) (a_t_slot1 := a_p0_slot1) (a_x_before0 := a_x_before0) (a_x_before1 := a_x_before1) (a_x_grid := a_x_grid) (a_t_memory_ring := a_p0_memory_ring) (a_t_now_before0 := a_p0_now_before0) (a_t_now_before1 := a_p0_now_before1) (a_t_now_grid := a_p0_now_grid) (w_x := w_x) (w_t_now := w_p0_now) (w_t_memory := w_p0_memory) (f_x_before0 := f_x_before0) (f_x_before1 := f_x_before1) (f_t_memory_ring := f_p0_memory_ring) (f_t_now_before0 := f_p0_now_before0) (f_t_now_before1 := f_p0_now_before1) (hc_t := hc_p0) (hc_x := hc_x) (hc_t_now := hc_p0_now) (hc_t_memory := hc_p0_memory) (hc_x_before0 := hc_x_before0) (hc_x_before1 := hc_x_before1) (hc_t_memory_ring := hc_p0_memory_ring) (hc_t_now_before0 := hc_p0_now_before0) (hc_t_now_before1 := hc_p0_now_before1) (n_t_memory_t_now := n_p0_memory_p0_now) (n_t_memory_t_now_before0 := n_p0_memory_p0_now_before0) (n_t_memory_t_now_before1 := n_p0_memory_p0_now_before1) (n_t_now_t_now_before0 := n_p0_now_p0_now_before0) (n_t_now_t_now_before1 := n_p0_now_p0_now_before1) (n_t_now_x := n_p0_now_x) (n_t_now_x_before0 := n_p0_now_x_before0) (n_t_now_x_before1 := n_p0_now_x_before1) (n_t_now_before0_t_now_before1 := n_p0_now_before0_p0_now_before1) (n_t_now_before0_x := n_p0_now_before0_x) (n_t_now_before0_x_before0 := n_p0_now_before0_x_before0) (n_t_now_before0_x_before1 := n_p0_now_before0_x_before1) (n_t_now_before1_x := n_p0_now_before1_x) (n_t_now_before1_x_before0 := n_p0_now_before1_x_before0) (n_t_now_before1_x_before1 := n_p0_now_before1_x_before1) (hlt := hlt) (v := r1) hr1) gL_undo_X7_undo rfl rfl rfl rfl q_X7_undo ⟨Nat.le_of_ble_eq_true rfl, Nat.le_of_ble_eq_true rfl⟩ rfl rfl (Nat.le_of_ble_eq_true rfl) hl.1 dL_undo_3 ⟨Nat.le_of_ble_eq_true rfl, Nat.le_of_ble_eq_true rfl⟩) hS (fun E4 ce a_e5 H locs hvE hM hS hce hcv hcl => ?_) (fun r9 H locs σ1 hp3 hM hS => ?_)
  · subst hvE
    replace h := rsum_inl h
    by_cases c7 : E4 = "java/lang/IllegalStateException"
    · replace h := it_pos c7 h
      subst c7
      refine vx_catch (name := "java/lang/IllegalStateException") hown [] ⟨0, 8, 11, 15⟩ [] hex (fun _ h9 => by cases h9) (by decide) (by decide) (hts _ l_L_undo_0) (va_Nw.use rfl (xc_S hX)) hce hcv hcl ?_
      refine W.eq (g2 := F0 m 11 ls [.ref a_e5]) rfl ?_
      refine lv_astore_n (lv' := [(2, .ref a_e5), (0, .ref a_p0), (1, .ref a_p1)]) hx hb dL_undo_11 rfl hl (by decide) rfl (fun ls hl => ?_)
      refine lv_iconst (v := 1) hx hb dL_undo_12 (by decide) ?_
      cases h
      replace hc_p0_now : σ a_p0_now = some (cl0 a_p0_now_before0 a_p0_now_before1 (if (1 : Int32) = 0 then a_x_grid else a_p0_now_grid) w_p0_now) := by
        first | (rw [if_pos (by assumption)]; exact hc_p0_now) | (rw [if_neg (by assumption)]; exact hc_p0_now) | (rw [if_neg (by decide)]; exact hc_p0_now) | (rw [if_pos (by decide)]; exact hc_p0_now)
      exact W.iret hx hb hr (fun t ht hW => ⟨⟨_, _, rfl, ⟨rfl, hc_p1, hc_p0_now, hc_p0_memory, hc_p0_now_before0, hc_p0_now_before1, (fun _ _ h9 _ _ _ _ _ => h9)⟩, by show MW z D _ t.heap; rw [ht]; exact hM⟩, hS.F ht⟩) hS.2.2 dL_undo_13 hlocks
    replace h := it_neg c7 h
    cases h
  · obtain ⟨w6, hw9, hr9, hc_p0_now, hc_p0_memory, hc_p0_now_before0, hc_p0_now_before1, ho2⟩ := hp3
    replace hr9 := hr9.symm
    subst hr9
    subst hw9
    replace h := rsum_inr h
    replace hc_p1 := ho2 a_p1 _ hc_p1 (Ne.symm n_p0_now_p1) (Ne.symm n_p0_memory_p1) (Ne.symm n_p0_now_before0_p1) (Ne.symm n_p0_now_before1_p1)
    have hf8 := fun (q : Nat) (f : va_E) (hf : σ q = some f) (n0 : q ≠ a_p1) (n1 : q ≠ a_p0_now) (n2 : q ≠ a_p0_memory) (n3 : q ≠ a_p0_now_before0) (n4 : q ≠ a_p0_now_before1) => ho2 q f hf n1 n2 n3 n4
    refine W.widen (k := 1) (n := 6) (Nat.le_of_ble_eq_true rfl) (Nat.le_of_ble_eq_true rfl) ?_
    refine lv_i2l hx hb dL_undo_6 rfl ?_
    obtain ⟨c9, h⟩ := gd_some h
    refine mw_stJ hC hM hS hc_p1 (inB_ok c9) dL_undo_7 (fun H locs σ1 hM hS hc_p1 ho10 => ?_)
    replace hc_p1 : σ1 a_p1 = some (eJ K 1 (vp_updL f_p1 (0 : Int32).toNatClampNeg w6.1.toInt64)) := hc_p1
    replace hc_p0_now := ho10 a_p0_now _ hc_p0_now n_p0_now_p1
    replace hc_p0_memory := ho10 a_p0_memory _ hc_p0_memory n_p0_memory_p1
    replace hc_p0_now_before0 := ho10 a_p0_now_before0 _ hc_p0_now_before0 n_p0_now_before0_p1
    replace hc_p0_now_before1 := ho10 a_p0_now_before1 _ hc_p0_now_before1 n_p0_now_before1_p1
    have hf11 := fun (q : Nat) (f : va_E) (hf : σ q = some f) (n0 : q ≠ a_p1) (n1 : q ≠ a_p0_now) (n2 : q ≠ a_p0_memory) (n3 : q ≠ a_p0_now_before0) (n4 : q ≠ a_p0_now_before1) => ho10 q f (hf8 q f hf n0 n1 n2 n3 n4) n0
    refine lv_goto (tgt := 14) hx hb dL_undo_8 (by decide) ?_
    refine lv_iconst (v := 0) hx hb dL_undo_14 (by decide) ?_
    cases h
    replace hc_p0_now : σ1 a_p0_now = some (cl0 a_p0_now_before0 a_p0_now_before1 (if (0 : Int32) = 0 then a_x_grid else a_p0_now_grid) w6.2.1) := by
      first | (rw [if_pos (by assumption)]; exact hc_p0_now) | (rw [if_neg (by assumption)]; exact hc_p0_now) | (rw [if_neg (by decide)]; exact hc_p0_now) | (rw [if_pos (by decide)]; exact hc_p0_now)
    exact W.iret hx hb hr (fun t ht hW => ⟨⟨_, _, rfl, ⟨rfl, hc_p1, hc_p0_now, hc_p0_memory, hc_p0_now_before0, hc_p0_now_before1, hf11⟩, by show MW z D _ t.heap; rw [ht]; exact hM⟩, hS.F ht⟩) hS.2.2 dL_undo_15 hlocks
theorem l_L_ifPlayed_0 : Cond.classLink RL 28 "java/lang/IndexOutOfBoundsException" ∈ wsL_ifPlayed := (List.mem_cons_of_mem _ (List.mem_append_left _ (List.mem_append_left _ (List.mem_append_left _ (List.mem_append_left _ (List.mem_append_left _ (List.mem_append_left _ (List.mem_of_getElem? (i := 0) rfl))))))))
theorem l_L_ifPlayed_1 : Cond.classLink RL 13 "java/lang/IllegalArgumentException" ∈ wsL_ifPlayed := (List.mem_cons_of_mem _ (List.mem_append_left _ (List.mem_append_left _ (List.mem_append_left _ (List.mem_append_left _ (List.mem_append_left _ (List.mem_append_left _ (List.mem_of_getElem? (i := 1) rfl))))))))
theorem q_L_ifPlayed : yL_ifPlayed.cls ≠ "java/lang/invoke/MethodHandle" ∧ yL_ifPlayed.cls ≠ "java/lang/invoke/VarHandle" ∧ (parseMethodDescriptor yL_ifPlayed.desc).map (fun d => d.parameters.length) = some 4 := by decide +kernel
def fL_ifPlayed (f_p3 : Nat → Int64) (w_p0_now : Int32 × Int32 × Int32 × Int32 × Int64 × Int64 × Int32 × Int32) (f_p0_now_before0 : Nat → Int64) (f_p0_now_before1 : Nat → Int64) (w_p0_now_grid : Int32 × Int32 × Int64 × Int64 × Int64) (p1 : Int32) (p2 : Int32) : Option (Int32 × (Nat → Int64)) := (fX7_ifPlayed w_p0_now f_p0_now_before0 f_p0_now_before1 w_p0_now_grid p1 p2).bind fun r1 => rsum r1 (fun E4 => if E4 = "java/lang/IndexOutOfBoundsException" then (some (((1 : Int32), f_p3))) else (if E4 = "java/lang/IllegalArgumentException" then (some (((2 : Int32), f_p3))) else (none))) (fun w6 => if inB 0 1 = true then (some (((0 : Int32), (vp_updL f_p3 (0 : Int32).toNatClampNeg w6.toInt64)))) else none)
set_option maxHeartbeats 4000000 in
set_option maxRecDepth 100000 in
theorem c_L_ifPlayed {l : Launch} {z : Nat} {D : va_G} {K : Nat → ClassId} {σ : mwm} {a_p0 a_p3 a_p0_text a_p0_now a_p0_copy a_p0_memory a_p0_slot0 a_p0_slot1 a_p0_now_before0 a_p0_now_before1 a_p0_now_grid : Nat} {f_p3 : Nat → Int64} {w_p0_now : Int32 × Int32 × Int32 × Int32 × Int64 × Int64 × Int32 × Int32} {f_p0_now_before0 : Nat → Int64} {f_p0_now_before1 : Nat → Int64} {w_p0_now_grid : Int32 × Int32 × Int64 × Int64 × Int64} {p1 : Int32} {p2 : Int32} (hc_p0 : σ a_p0 = some (cl5 a_p0_text a_p0_now a_p0_copy a_p0_memory a_p0_slot0 a_p0_slot1)) (hc_p3 : σ a_p3 = some (eJ K 1 f_p3)) (hc_p0_now : σ a_p0_now = some (cl0 a_p0_now_before0 a_p0_now_before1 a_p0_now_grid w_p0_now)) (hc_p0_now_before0 : σ a_p0_now_before0 = some (eJ K 121 f_p0_now_before0)) (hc_p0_now_before1 : σ a_p0_now_before1 = some (eJ K 121 f_p0_now_before1)) (hc_p0_now_grid : σ a_p0_now_grid = some (cl2  w_p0_now_grid)) (hlt : l.stackTraces = false) {v : Int32 × (Nat → Int64)} (h : fL_ifPlayed f_p3 w_p0_now f_p0_now_before0 f_p0_now_before1 w_p0_now_grid p1 p2 = some v) : Met l yL_ifPlayed wsL_ifPlayed ({ frames := 7, cells := 1, slots := 6, locals := 159 } : Room) (PCx z D K [.ref a_p0, .int p1, .int p2, .ref a_p3] σ) (qwI z D (fun r σ2 => r = v.1 ∧ σ2 a_p3 = some (eJ K 1 v.2) ∧ ∀ (q : Nat) (f : va_E), σ q = some f → q ≠ a_p3 → σ2 q = some f)) 1 6 (zA z) := by
  refine mh_enter (cc := cL_ifPlayed) (maxL := 5) (ret := (some .int)) (own := RL) (lv := [(0, .ref a_p0), (1, .int p1), (2, .int p2), (3, .ref a_p3)]) (by decide) rfl rfl (Nat.le_of_ble_eq_true rfl) rfl ?_
  intro p e s m below meth c ls hC hx hb hown hts hK hr hlocks hnm hz hM hS hl hX hex
  unfold fL_ifPlayed at h
  refine lv_aload_n hx hb dL_ifPlayed_0 rfl (lv_at hl 3 rfl) ?_
  refine lv_iconst (v := 0) hx hb dL_ifPlayed_1 (by decide) ?_
  refine lv_aload_n hx hb dL_ifPlayed_2 rfl (lv_at hl 0 rfl) ?_
  refine lv_iload_n hx hb dL_ifPlayed_3 rfl (lv_at hl 1 rfl) ?_
  refine lv_iload_n hx hb dL_ifPlayed_4 rfl (lv_at hl 2 rfl) ?_
  obtain ⟨r1, hr1, h⟩ := ob_some h
  refine mx_ci (mx_runV (As := [.int p1, .int p2]) (rest := [.int 0, .ref a_p3]) (ci := 5) (C := RX7) (T := TX7) (N := 6) hC hX hM hS hc_p0 rfl (c_X7_ifPlayed (a_t := a_p0) (a_t_text := a_p0_text) (a_t_now := a_p0_now) (a_t_copy := a_p0_copy) (a_t_memory := a_p0_memory) (a_t_slot0 := a_p0_slot0) (a_t_slot1 := a_p0_slot1) (a_t_now_before0 := a_p0_now_before0) (a_t_now_before1 := a_p0_now_before1) (a_t_now_grid := a_p0_now_grid) (w_t_now := w_p0_now) (f_t_now_before0 := f_p0_now_before0) (f_t_now_before1 := f_p0_now_before1) (w_t_now_grid := w_p0_now_grid) (p0 := p1) (p1 := p2) (hc_t := hc_p0) (hc_t_now := hc_p0_now) (hc_t_now_before0 := hc_p0_now_before0) (hc_t_now_before1 := hc_p0_now_before1) (hc_t_now_grid := hc_p0_now_grid) (hlt := hlt) (v := r1) hr1) gL_ifPlayed_X7_ifPlayed rfl rfl rfl rfl q_X7_ifPlayed ⟨Nat.le_of_ble_eq_true rfl, Nat.le_of_ble_eq_true rfl⟩ rfl rfl (Nat.le_of_ble_eq_true rfl) hl.1 dL_ifPlayed_5 ⟨Nat.le_of_ble_eq_true rfl, Nat.le_of_ble_eq_true rfl⟩) hS (fun E4 ce a_e5 H locs hvE hM hS hce hcv hcl => ?_) (fun r9 H locs σ1 hp3 hM hS => ?_)
  · subst hvE
    replace h := rsum_inl h
    by_cases c7 : E4 = "java/lang/IndexOutOfBoundsException"
    · replace h := it_pos c7 h
      subst c7
      refine vx_catch (name := "java/lang/IndexOutOfBoundsException") hown [] ⟨0, 10, 13, 28⟩ [⟨0, 10, 17, 13⟩] hex (fun _ h9 => by cases h9) (by decide) (by decide) (hts _ l_L_ifPlayed_0) (va_Nw.use rfl (xc_O hX)) hce hcv hcl ?_
      refine W.eq (g2 := F0 m 13 ls [.ref a_e5]) rfl ?_
      refine lv_astore (lv' := [(4, .ref a_e5), (0, .ref a_p0), (1, .int p1), (2, .int p2), (3, .ref a_p3)]) hx hb dL_ifPlayed_13 hl (by decide) rfl (fun ls hl => ?_)
      refine lv_iconst (v := 1) hx hb dL_ifPlayed_15 (by decide) ?_
      cases h
      exact W.iret hx hb hr (fun t ht hW => ⟨⟨_, _, rfl, ⟨rfl, hc_p3, (fun _ _ h9 _ => h9)⟩, by show MW z D _ t.heap; rw [ht]; exact hM⟩, hS.F ht⟩) hS.2.2 dL_ifPlayed_16 hlocks
    replace h := it_neg c7 h
    by_cases c8 : E4 = "java/lang/IllegalArgumentException"
    · replace h := it_pos c8 h
      subst c8
      refine vx_catch (name := "java/lang/IllegalArgumentException") hown [⟨0, 10, 13, 28⟩] ⟨0, 10, 17, 13⟩ [] hex (fun x9 h9 => by rw [List.mem_singleton.mp h9]; exact Or.inr ⟨(by decide), _, hts _ l_L_ifPlayed_0, hX.2.2.2.2.2.1⟩) (by decide) (by decide) (hts _ l_L_ifPlayed_1) (va_Nw.use rfl (xc_A hX)) hce hcv hcl ?_
      refine W.eq (g2 := F0 m 17 ls [.ref a_e5]) rfl ?_
      refine lv_astore (lv' := [(4, .ref a_e5), (0, .ref a_p0), (1, .int p1), (2, .int p2), (3, .ref a_p3)]) hx hb dL_ifPlayed_17 hl (by decide) rfl (fun ls hl => ?_)
      refine lv_iconst (v := 2) hx hb dL_ifPlayed_19 (by decide) ?_
      cases h
      exact W.iret hx hb hr (fun t ht hW => ⟨⟨_, _, rfl, ⟨rfl, hc_p3, (fun _ _ h9 _ => h9)⟩, by show MW z D _ t.heap; rw [ht]; exact hM⟩, hS.F ht⟩) hS.2.2 dL_ifPlayed_20 hlocks
    replace h := it_neg c8 h
    cases h
  · obtain ⟨w6, hw9, hr9, ho2⟩ := hp3
    replace hr9 := hr9.symm
    subst hr9
    subst hw9
    replace h := rsum_inr h
    replace hc_p3 := ho2 a_p3 _ hc_p3 
    have hf9 := fun (q : Nat) (f : va_E) (hf : σ q = some f) (n0 : q ≠ a_p3) => ho2 q f hf 
    refine W.widen (k := 1) (n := 6) (Nat.le_of_ble_eq_true rfl) (Nat.le_of_ble_eq_true rfl) ?_
    refine lv_i2l hx hb dL_ifPlayed_8 rfl ?_
    obtain ⟨c10, h⟩ := gd_some h
    refine mw_stJ hC hM hS hc_p3 (inB_ok c10) dL_ifPlayed_9 (fun H locs σ1 hM hS hc_p3 ho11 => ?_)
    replace hc_p3 : σ1 a_p3 = some (eJ K 1 (vp_updL f_p3 (0 : Int32).toNatClampNeg w6.toInt64)) := hc_p3
    have hf12 := fun (q : Nat) (f : va_E) (hf : σ q = some f) (n0 : q ≠ a_p3) => ho11 q f (hf9 q f hf n0) n0
    refine lv_goto (tgt := 21) hx hb dL_ifPlayed_10 (by decide) ?_
    refine lv_iconst (v := 0) hx hb dL_ifPlayed_21 (by decide) ?_
    cases h
    exact W.iret hx hb hr (fun t ht hW => ⟨⟨_, _, rfl, ⟨rfl, hc_p3, hf12⟩, by show MW z D _ t.heap; rw [ht]; exact hM⟩, hS.F ht⟩) hS.2.2 dL_ifPlayed_22 hlocks
theorem l_L_ladder_0 : Cond.classLink RL 28 "java/lang/IndexOutOfBoundsException" ∈ wsL_ladder := (List.mem_cons_of_mem _ (List.mem_append_left _ (List.mem_append_left _ (List.mem_append_left _ (List.mem_append_left _ (List.mem_append_left _ (List.mem_append_left _ (List.mem_of_getElem? (i := 0) rfl))))))))
theorem l_L_ladder_1 : Cond.classLink RL 13 "java/lang/IllegalArgumentException" ∈ wsL_ladder := (List.mem_cons_of_mem _ (List.mem_append_left _ (List.mem_append_left _ (List.mem_append_left _ (List.mem_append_left _ (List.mem_append_left _ (List.mem_append_left _ (List.mem_of_getElem? (i := 1) rfl))))))))
theorem q_L_ladder : yL_ladder.cls ≠ "java/lang/invoke/MethodHandle" ∧ yL_ladder.cls ≠ "java/lang/invoke/VarHandle" ∧ (parseMethodDescriptor yL_ladder.desc).map (fun d => d.parameters.length) = some 4 := by decide +kernel
def fL_ladder (f_p3 : Nat → Int64) (w_p0_now : Int32 × Int32 × Int32 × Int32 × Int64 × Int64 × Int32 × Int32) (w_p0_now_grid : Int32 × Int32 × Int64 × Int64 × Int64) (p1 : Int32) (p2 : Int32) : Option (Int32 × (Nat → Int64)) := (fX7_ladder w_p0_now w_p0_now_grid p1 p2).bind fun r1 => rsum r1 (fun E4 => if E4 = "java/lang/IndexOutOfBoundsException" then (some (((1 : Int32), f_p3))) else (if E4 = "java/lang/IllegalArgumentException" then (some (((2 : Int32), f_p3))) else (none))) (fun w6 => if inB 0 1 = true then (some (((0 : Int32), (vp_updL f_p3 (0 : Int32).toNatClampNeg w6.toInt64)))) else none)
set_option maxHeartbeats 4000000 in
set_option maxRecDepth 100000 in
theorem c_L_ladder {l : Launch} {z : Nat} {D : va_G} {K : Nat → ClassId} {σ : mwm} {a_p0 a_p3 a_p0_text a_p0_now a_p0_copy a_p0_memory a_p0_slot0 a_p0_slot1 a_p0_now_before0 a_p0_now_before1 a_p0_now_grid : Nat} {f_p3 : Nat → Int64} {w_p0_now : Int32 × Int32 × Int32 × Int32 × Int64 × Int64 × Int32 × Int32} {w_p0_now_grid : Int32 × Int32 × Int64 × Int64 × Int64} {p1 : Int32} {p2 : Int32} (hc_p0 : σ a_p0 = some (cl5 a_p0_text a_p0_now a_p0_copy a_p0_memory a_p0_slot0 a_p0_slot1)) (hc_p3 : σ a_p3 = some (eJ K 1 f_p3)) (hc_p0_now : σ a_p0_now = some (cl0 a_p0_now_before0 a_p0_now_before1 a_p0_now_grid w_p0_now)) (hc_p0_now_grid : σ a_p0_now_grid = some (cl2  w_p0_now_grid)) (hlt : l.stackTraces = false) {v : Int32 × (Nat → Int64)} (h : fL_ladder f_p3 w_p0_now w_p0_now_grid p1 p2 = some v) : Met l yL_ladder wsL_ladder ({ frames := 72, cells := 1, slots := 6, locals := 3060 } : Room) (PCx z D K [.ref a_p0, .int p1, .int p2, .ref a_p3] σ) (qwI z D (fun r σ2 => r = v.1 ∧ σ2 a_p3 = some (eJ K 1 v.2) ∧ ∀ (q : Nat) (f : va_E), σ q = some f → q ≠ a_p3 → σ2 q = some f)) 1 6 (zA z) := by
  refine mh_enter (cc := cL_ladder) (maxL := 5) (ret := (some .int)) (own := RL) (lv := [(0, .ref a_p0), (1, .int p1), (2, .int p2), (3, .ref a_p3)]) (by decide) rfl rfl (Nat.le_of_ble_eq_true rfl) rfl ?_
  intro p e s m below meth c ls hC hx hb hown hts hK hr hlocks hnm hz hM hS hl hX hex
  unfold fL_ladder at h
  refine lv_aload_n hx hb dL_ladder_0 rfl (lv_at hl 3 rfl) ?_
  refine lv_iconst (v := 0) hx hb dL_ladder_1 (by decide) ?_
  refine lv_aload_n hx hb dL_ladder_2 rfl (lv_at hl 0 rfl) ?_
  refine lv_iload_n hx hb dL_ladder_3 rfl (lv_at hl 1 rfl) ?_
  refine lv_iload_n hx hb dL_ladder_4 rfl (lv_at hl 2 rfl) ?_
  obtain ⟨r1, hr1, h⟩ := ob_some h
  refine mx_ci (mx_runV (As := [.int p1, .int p2]) (rest := [.int 0, .ref a_p3]) (ci := 5) (C := RX7) (T := TX7) (N := 6) hC hX hM hS hc_p0 rfl (c_X7_ladder (a_t := a_p0) (a_t_text := a_p0_text) (a_t_now := a_p0_now) (a_t_copy := a_p0_copy) (a_t_memory := a_p0_memory) (a_t_slot0 := a_p0_slot0) (a_t_slot1 := a_p0_slot1) (a_t_now_before0 := a_p0_now_before0) (a_t_now_before1 := a_p0_now_before1) (a_t_now_grid := a_p0_now_grid) (w_t_now := w_p0_now) (w_t_now_grid := w_p0_now_grid) (p0 := p1) (p1 := p2) (hc_t := hc_p0) (hc_t_now := hc_p0_now) (hc_t_now_grid := hc_p0_now_grid) (hlt := hlt) (v := r1) hr1) gL_ladder_X7_ladder rfl rfl rfl rfl q_X7_ladder ⟨Nat.le_of_ble_eq_true rfl, Nat.le_of_ble_eq_true rfl⟩ rfl rfl (Nat.le_of_ble_eq_true rfl) hl.1 dL_ladder_5 ⟨Nat.le_of_ble_eq_true rfl, Nat.le_of_ble_eq_true rfl⟩) hS (fun E4 ce a_e5 H locs hvE hM hS hce hcv hcl => ?_) (fun r9 H locs σ1 hp3 hM hS => ?_)
  · subst hvE
    replace h := rsum_inl h
    by_cases c7 : E4 = "java/lang/IndexOutOfBoundsException"
    · replace h := it_pos c7 h
      subst c7
      refine vx_catch (name := "java/lang/IndexOutOfBoundsException") hown [] ⟨0, 10, 13, 28⟩ [⟨0, 10, 17, 13⟩] hex (fun _ h9 => by cases h9) (by decide) (by decide) (hts _ l_L_ladder_0) (va_Nw.use rfl (xc_O hX)) hce hcv hcl ?_
      refine W.eq (g2 := F0 m 13 ls [.ref a_e5]) rfl ?_
      refine lv_astore (lv' := [(4, .ref a_e5), (0, .ref a_p0), (1, .int p1), (2, .int p2), (3, .ref a_p3)]) hx hb dL_ladder_13 hl (by decide) rfl (fun ls hl => ?_)
      refine lv_iconst (v := 1) hx hb dL_ladder_15 (by decide) ?_
      cases h
      exact W.iret hx hb hr (fun t ht hW => ⟨⟨_, _, rfl, ⟨rfl, hc_p3, (fun _ _ h9 _ => h9)⟩, by show MW z D _ t.heap; rw [ht]; exact hM⟩, hS.F ht⟩) hS.2.2 dL_ladder_16 hlocks
    replace h := it_neg c7 h
    by_cases c8 : E4 = "java/lang/IllegalArgumentException"
    · replace h := it_pos c8 h
      subst c8
      refine vx_catch (name := "java/lang/IllegalArgumentException") hown [⟨0, 10, 13, 28⟩] ⟨0, 10, 17, 13⟩ [] hex (fun x9 h9 => by rw [List.mem_singleton.mp h9]; exact Or.inr ⟨(by decide), _, hts _ l_L_ladder_0, hX.2.2.2.2.2.1⟩) (by decide) (by decide) (hts _ l_L_ladder_1) (va_Nw.use rfl (xc_A hX)) hce hcv hcl ?_
      refine W.eq (g2 := F0 m 17 ls [.ref a_e5]) rfl ?_
      refine lv_astore (lv' := [(4, .ref a_e5), (0, .ref a_p0), (1, .int p1), (2, .int p2), (3, .ref a_p3)]) hx hb dL_ladder_17 hl (by decide) rfl (fun ls hl => ?_)
      refine lv_iconst (v := 2) hx hb dL_ladder_19 (by decide) ?_
      cases h
      exact W.iret hx hb hr (fun t ht hW => ⟨⟨_, _, rfl, ⟨rfl, hc_p3, (fun _ _ h9 _ => h9)⟩, by show MW z D _ t.heap; rw [ht]; exact hM⟩, hS.F ht⟩) hS.2.2 dL_ladder_20 hlocks
    replace h := it_neg c8 h
    cases h
  · obtain ⟨w6, hw9, hr9, ho2⟩ := hp3
    replace hr9 := hr9.symm
    subst hr9
    subst hw9
    replace h := rsum_inr h
    replace hc_p3 := ho2 a_p3 _ hc_p3 
    have hf9 := fun (q : Nat) (f : va_E) (hf : σ q = some f) (n0 : q ≠ a_p3) => ho2 q f hf 
    refine W.widen (k := 1) (n := 6) (Nat.le_of_ble_eq_true rfl) (Nat.le_of_ble_eq_true rfl) ?_
    refine lv_i2l hx hb dL_ladder_8 rfl ?_
    obtain ⟨c10, h⟩ := gd_some h
    refine mw_stJ hC hM hS hc_p3 (inB_ok c10) dL_ladder_9 (fun H locs σ1 hM hS hc_p3 ho11 => ?_)
    replace hc_p3 : σ1 a_p3 = some (eJ K 1 (vp_updL f_p3 (0 : Int32).toNatClampNeg w6.toInt64)) := hc_p3
    have hf12 := fun (q : Nat) (f : va_E) (hf : σ q = some f) (n0 : q ≠ a_p3) => ho11 q f (hf9 q f hf n0) n0
    refine lv_goto (tgt := 21) hx hb dL_ladder_10 (by decide) ?_
    refine lv_iconst (v := 0) hx hb dL_ladder_21 (by decide) ?_
    cases h
    exact W.iret hx hb hr (fun t ht hW => ⟨⟨_, _, rfl, ⟨rfl, hc_p3, hf12⟩, by show MW z D _ t.heap; rw [ht]; exact hM⟩, hS.F ht⟩) hS.2.2 dL_ladder_22 hlocks
theorem l_L_chase_0 : Cond.classLink RL 28 "java/lang/IndexOutOfBoundsException" ∈ wsL_chase := (List.mem_cons_of_mem _ (List.mem_append_left _ (List.mem_append_left _ (List.mem_append_left _ (List.mem_append_left _ (List.mem_append_left _ (List.mem_of_getElem? (i := 0) rfl)))))))
theorem q_L_chase : yL_chase.cls ≠ "java/lang/invoke/MethodHandle" ∧ yL_chase.cls ≠ "java/lang/invoke/VarHandle" ∧ (parseMethodDescriptor yL_chase.desc).map (fun d => d.parameters.length) = some 3 := by decide +kernel
def fL_chase (f_p2 : Nat → Int64) (w_p0_now : Int32 × Int32 × Int32 × Int32 × Int64 × Int64 × Int32 × Int32) (w_p0_now_grid : Int32 × Int32 × Int64 × Int64 × Int64) (p1 : Int32) : Option (Int32 × (Nat → Int64)) := (fX7_chase w_p0_now w_p0_now_grid p1).bind fun r1 => rsum r1 (fun E4 => if E4 = "java/lang/IndexOutOfBoundsException" then (some (((1 : Int32), f_p2))) else (none)) (fun w6 => if inB 0 1 = true then (some (((0 : Int32), (vp_updL f_p2 (0 : Int32).toNatClampNeg w6.toInt64)))) else none)
set_option maxHeartbeats 4000000 in
set_option maxRecDepth 100000 in
theorem c_L_chase {l : Launch} {z : Nat} {D : va_G} {K : Nat → ClassId} {σ : mwm} {a_p0 a_p2 a_p0_text a_p0_now a_p0_copy a_p0_memory a_p0_slot0 a_p0_slot1 a_p0_now_before0 a_p0_now_before1 a_p0_now_grid : Nat} {f_p2 : Nat → Int64} {w_p0_now : Int32 × Int32 × Int32 × Int32 × Int64 × Int64 × Int32 × Int32} {w_p0_now_grid : Int32 × Int32 × Int64 × Int64 × Int64} {p1 : Int32} (hc_p0 : σ a_p0 = some (cl5 a_p0_text a_p0_now a_p0_copy a_p0_memory a_p0_slot0 a_p0_slot1)) (hc_p2 : σ a_p2 = some (eJ K 1 f_p2)) (hc_p0_now : σ a_p0_now = some (cl0 a_p0_now_before0 a_p0_now_before1 a_p0_now_grid w_p0_now)) (hc_p0_now_grid : σ a_p0_now_grid = some (cl2  w_p0_now_grid)) (hlt : l.stackTraces = false) {v : Int32 × (Nat → Int64)} (h : fL_chase f_p2 w_p0_now w_p0_now_grid p1 = some v) : Met l yL_chase wsL_chase ({ frames := 72, cells := 1, slots := 6, locals := 3060 } : Room) (PCx z D K [.ref a_p0, .int p1, .ref a_p2] σ) (qwI z D (fun r σ2 => r = v.1 ∧ σ2 a_p2 = some (eJ K 1 v.2) ∧ ∀ (q : Nat) (f : va_E), σ q = some f → q ≠ a_p2 → σ2 q = some f)) 1 6 (zA z) := by
  refine mh_enter (cc := cL_chase) (maxL := 4) (ret := (some .int)) (own := RL) (lv := [(0, .ref a_p0), (1, .int p1), (2, .ref a_p2)]) (by decide) rfl rfl (Nat.le_of_ble_eq_true rfl) rfl ?_
  intro p e s m below meth c ls hC hx hb hown hts hK hr hlocks hnm hz hM hS hl hX hex
  unfold fL_chase at h
  refine lv_aload_n hx hb dL_chase_0 rfl (lv_at hl 2 rfl) ?_
  refine lv_iconst (v := 0) hx hb dL_chase_1 (by decide) ?_
  refine lv_aload_n hx hb dL_chase_2 rfl (lv_at hl 0 rfl) ?_
  refine lv_iload_n hx hb dL_chase_3 rfl (lv_at hl 1 rfl) ?_
  obtain ⟨r1, hr1, h⟩ := ob_some h
  refine mx_ci (mx_runV (As := [.int p1]) (rest := [.int 0, .ref a_p2]) (ci := 5) (C := RX7) (T := TX7) (N := 6) hC hX hM hS hc_p0 rfl (c_X7_chase (a_t := a_p0) (a_t_text := a_p0_text) (a_t_now := a_p0_now) (a_t_copy := a_p0_copy) (a_t_memory := a_p0_memory) (a_t_slot0 := a_p0_slot0) (a_t_slot1 := a_p0_slot1) (a_t_now_before0 := a_p0_now_before0) (a_t_now_before1 := a_p0_now_before1) (a_t_now_grid := a_p0_now_grid) (w_t_now := w_p0_now) (w_t_now_grid := w_p0_now_grid) (p0 := p1) (hc_t := hc_p0) (hc_t_now := hc_p0_now) (hc_t_now_grid := hc_p0_now_grid) (hlt := hlt) (v := r1) hr1) gL_chase_X7_chase rfl rfl rfl rfl q_X7_chase ⟨Nat.le_of_ble_eq_true rfl, Nat.le_of_ble_eq_true rfl⟩ rfl rfl (Nat.le_of_ble_eq_true rfl) hl.1 dL_chase_4 ⟨Nat.le_of_ble_eq_true rfl, Nat.le_of_ble_eq_true rfl⟩) hS (fun E4 ce a_e5 H locs hvE hM hS hce hcv hcl => ?_) (fun r9 H locs σ1 hp3 hM hS => ?_)
  · subst hvE
    replace h := rsum_inl h
    by_cases c7 : E4 = "java/lang/IndexOutOfBoundsException"
    · replace h := it_pos c7 h
      subst c7
      refine vx_catch (name := "java/lang/IndexOutOfBoundsException") hown [] ⟨0, 9, 12, 28⟩ [] hex (fun _ h9 => by cases h9) (by decide) (by decide) (hts _ l_L_chase_0) (va_Nw.use rfl (xc_O hX)) hce hcv hcl ?_
      refine W.eq (g2 := F0 m 12 ls [.ref a_e5]) rfl ?_
      refine lv_astore_n (lv' := [(3, .ref a_e5), (0, .ref a_p0), (1, .int p1), (2, .ref a_p2)]) hx hb dL_chase_12 rfl hl (by decide) rfl (fun ls hl => ?_)
      refine lv_iconst (v := 1) hx hb dL_chase_13 (by decide) ?_
      cases h
      exact W.iret hx hb hr (fun t ht hW => ⟨⟨_, _, rfl, ⟨rfl, hc_p2, (fun _ _ h9 _ => h9)⟩, by show MW z D _ t.heap; rw [ht]; exact hM⟩, hS.F ht⟩) hS.2.2 dL_chase_14 hlocks
    replace h := it_neg c7 h
    cases h
  · obtain ⟨w6, hw9, hr9, ho2⟩ := hp3
    replace hr9 := hr9.symm
    subst hr9
    subst hw9
    replace h := rsum_inr h
    replace hc_p2 := ho2 a_p2 _ hc_p2 
    have hf8 := fun (q : Nat) (f : va_E) (hf : σ q = some f) (n0 : q ≠ a_p2) => ho2 q f hf 
    refine W.widen (k := 1) (n := 6) (Nat.le_of_ble_eq_true rfl) (Nat.le_of_ble_eq_true rfl) ?_
    refine lv_i2l hx hb dL_chase_7 rfl ?_
    obtain ⟨c9, h⟩ := gd_some h
    refine mw_stJ hC hM hS hc_p2 (inB_ok c9) dL_chase_8 (fun H locs σ1 hM hS hc_p2 ho10 => ?_)
    replace hc_p2 : σ1 a_p2 = some (eJ K 1 (vp_updL f_p2 (0 : Int32).toNatClampNeg w6.toInt64)) := hc_p2
    have hf11 := fun (q : Nat) (f : va_E) (hf : σ q = some f) (n0 : q ≠ a_p2) => ho10 q f (hf8 q f hf n0) n0
    refine lv_goto (tgt := 15) hx hb dL_chase_9 (by decide) ?_
    refine lv_iconst (v := 0) hx hb dL_chase_15 (by decide) ?_
    cases h
    exact W.iret hx hb hr (fun t ht hW => ⟨⟨_, _, rfl, ⟨rfl, hc_p2, hf11⟩, by show MW z D _ t.heap; rw [ht]; exact hM⟩, hS.F ht⟩) hS.2.2 dL_chase_16 hlocks
theorem l_L_runScript_0 : Cond.classLink RL 13 "java/lang/IllegalArgumentException" ∈ wsL_runScript := (List.mem_cons_of_mem _ (List.mem_append_left _ (List.mem_append_left _ (List.mem_append_left _ (List.mem_append_left _ (List.mem_append_left _ (List.mem_of_getElem? (i := 0) rfl)))))))
theorem q_L_runScript : yL_runScript.cls ≠ "java/lang/invoke/MethodHandle" ∧ yL_runScript.cls ≠ "java/lang/invoke/VarHandle" ∧ (parseMethodDescriptor yL_runScript.desc).map (fun d => d.parameters.length) = some 4 := by decide +kernel
def fL_runScript (f_p3 : Nat → Int64) (w_p0_now : Int32 × Int32 × Int32 × Int32 × Int64 × Int64 × Int32 × Int32) (w_p0_copy : Int32 × Int32 × Int32 × Int32 × Int64 × Int64 × Int32 × Int32) (f_p0_copy_before0 : Nat → Int64) (f_p0_copy_before1 : Nat → Int64) (f_p0_now_before0 : Nat → Int64) (f_p0_now_before1 : Nat → Int64) (w_p0_now_grid : Int32 × Int32 × Int64 × Int64 × Int64) (p1 : Int32) (p2 : Int64) : Option (Int32 × (Nat → Int64) × (Int32 × Int32 × Int32 × Int32 × Int64 × Int64 × Int32 × Int32) × (Nat → Int64) × (Nat → Int64)) := (fX7_runScript w_p0_now w_p0_copy f_p0_copy_before0 f_p0_copy_before1 f_p0_now_before0 f_p0_now_before1 w_p0_now_grid p1 p2).bind fun r1 => rsum r1 (fun E4 => if E4 = "java/lang/IllegalArgumentException" then (some (((1 : Int32), f_p3, w_p0_copy, f_p0_copy_before0, f_p0_copy_before1))) else (none)) (fun w6 => if inB 0 1 = true then (some (((0 : Int32), (vp_updL f_p3 (0 : Int32).toNatClampNeg w6.1.toInt64), w6.2.1, w6.2.2.1, w6.2.2.2))) else none)
set_option maxHeartbeats 4000000 in
set_option maxRecDepth 100000 in
theorem c_L_runScript {l : Launch} {z : Nat} {D : va_G} {K : Nat → ClassId} {σ : mwm} {a_p0 a_p3 a_p0_text a_p0_now a_p0_copy a_p0_memory a_p0_slot0 a_p0_slot1 a_p0_copy_before0 a_p0_copy_before1 a_p0_copy_grid a_p0_now_before0 a_p0_now_before1 a_p0_now_grid : Nat} {f_p3 : Nat → Int64} {w_p0_now : Int32 × Int32 × Int32 × Int32 × Int64 × Int64 × Int32 × Int32} {w_p0_copy : Int32 × Int32 × Int32 × Int32 × Int64 × Int64 × Int32 × Int32} {f_p0_copy_before0 : Nat → Int64} {f_p0_copy_before1 : Nat → Int64} {f_p0_now_before0 : Nat → Int64} {f_p0_now_before1 : Nat → Int64} {w_p0_now_grid : Int32 × Int32 × Int64 × Int64 × Int64} {p1 : Int32} {p2 : Int64} (hc_p0 : σ a_p0 = some (cl5 a_p0_text a_p0_now a_p0_copy a_p0_memory a_p0_slot0 a_p0_slot1)) (hc_p3 : σ a_p3 = some (eJ K 1 f_p3)) (hc_p0_now : σ a_p0_now = some (cl0 a_p0_now_before0 a_p0_now_before1 a_p0_now_grid w_p0_now)) (hc_p0_copy : σ a_p0_copy = some (cl0 a_p0_copy_before0 a_p0_copy_before1 a_p0_copy_grid w_p0_copy)) (hc_p0_copy_before0 : σ a_p0_copy_before0 = some (eJ K 121 f_p0_copy_before0)) (hc_p0_copy_before1 : σ a_p0_copy_before1 = some (eJ K 121 f_p0_copy_before1)) (hc_p0_now_before0 : σ a_p0_now_before0 = some (eJ K 121 f_p0_now_before0)) (hc_p0_now_before1 : σ a_p0_now_before1 = some (eJ K 121 f_p0_now_before1)) (hc_p0_now_grid : σ a_p0_now_grid = some (cl2  w_p0_now_grid)) (n_p0_p0_copy : a_p0 ≠ a_p0_copy) (n_p0_p0_copy_before0 : a_p0 ≠ a_p0_copy_before0) (n_p0_p0_copy_before1 : a_p0 ≠ a_p0_copy_before1) (n_p0_copy_p0_copy_before0 : a_p0_copy ≠ a_p0_copy_before0) (n_p0_copy_p0_copy_before1 : a_p0_copy ≠ a_p0_copy_before1) (n_p0_copy_p0_now : a_p0_copy ≠ a_p0_now) (n_p0_copy_p0_now_before0 : a_p0_copy ≠ a_p0_now_before0) (n_p0_copy_p0_now_before1 : a_p0_copy ≠ a_p0_now_before1) (n_p0_copy_p0_now_grid : a_p0_copy ≠ a_p0_now_grid) (n_p0_copy_p3 : a_p0_copy ≠ a_p3) (n_p0_copy_before0_p0_copy_before1 : a_p0_copy_before0 ≠ a_p0_copy_before1) (n_p0_copy_before0_p0_now : a_p0_copy_before0 ≠ a_p0_now) (n_p0_copy_before0_p0_now_before0 : a_p0_copy_before0 ≠ a_p0_now_before0) (n_p0_copy_before0_p0_now_before1 : a_p0_copy_before0 ≠ a_p0_now_before1) (n_p0_copy_before0_p0_now_grid : a_p0_copy_before0 ≠ a_p0_now_grid) (n_p0_copy_before0_p3 : a_p0_copy_before0 ≠ a_p3) (n_p0_copy_before1_p0_now : a_p0_copy_before1 ≠ a_p0_now) (n_p0_copy_before1_p0_now_before0 : a_p0_copy_before1 ≠ a_p0_now_before0) (n_p0_copy_before1_p0_now_before1 : a_p0_copy_before1 ≠ a_p0_now_before1) (n_p0_copy_before1_p0_now_grid : a_p0_copy_before1 ≠ a_p0_now_grid) (n_p0_copy_before1_p3 : a_p0_copy_before1 ≠ a_p3) (hlt : l.stackTraces = false) {v : Int32 × (Nat → Int64) × (Int32 × Int32 × Int32 × Int32 × Int64 × Int64 × Int32 × Int32) × (Nat → Int64) × (Nat → Int64)} (h : fL_runScript f_p3 w_p0_now w_p0_copy f_p0_copy_before0 f_p0_copy_before1 f_p0_now_before0 f_p0_now_before1 w_p0_now_grid p1 p2 = some v) : Met l yL_runScript wsL_runScript ({ frames := 74, cells := 1, slots := 6, locals := 3107 } : Room) (PCx z D K [.ref a_p0, .int p1, .long p2, .ref a_p3] σ) (qwI z D (fun r σ2 => r = v.1 ∧ σ2 a_p3 = some (eJ K 1 v.2.1) ∧ σ2 a_p0_copy = some (cl0 a_p0_copy_before0 a_p0_copy_before1 (if v.1 = 0 then a_p0_now_grid else a_p0_copy_grid) v.2.2.1) ∧ σ2 a_p0_copy_before0 = some (eJ K 121 v.2.2.2.1) ∧ σ2 a_p0_copy_before1 = some (eJ K 121 v.2.2.2.2) ∧ ∀ (q : Nat) (f : va_E), σ q = some f → q ≠ a_p3 → q ≠ a_p0_copy → q ≠ a_p0_copy_before0 → q ≠ a_p0_copy_before1 → σ2 q = some f)) 1 6 (zA z) := by
  refine mh_enter (cc := cL_runScript) (maxL := 6) (ret := (some .int)) (own := RL) (lv := [(0, .ref a_p0), (1, .int p1), (2, .long p2), (4, .ref a_p3)]) (by decide) rfl rfl (Nat.le_of_ble_eq_true rfl) rfl ?_
  intro p e s m below meth c ls hC hx hb hown hts hK hr hlocks hnm hz hM hS hl hX hex
  unfold fL_runScript at h
  refine lv_aload hx hb dL_runScript_0 (lv_at hl 3 rfl) ?_
  refine lv_iconst (v := 0) hx hb dL_runScript_2 (by decide) ?_
  refine lv_aload_n hx hb dL_runScript_3 rfl (lv_at hl 0 rfl) ?_
  refine lv_iload_n hx hb dL_runScript_4 rfl (lv_at hl 1 rfl) ?_
  refine lv_lload_n hx hb dL_runScript_5 rfl (lv_at hl 2 rfl) ?_
  obtain ⟨r1, hr1, h⟩ := ob_some h
  refine mx_ci (mx_runV (As := [.int p1, .long p2]) (rest := [.int 0, .ref a_p3]) (ci := 5) (C := RX7) (T := TX7) (N := 6) hC hX hM hS hc_p0 rfl (c_X7_runScript (a_t := a_p0) (a_t_text := a_p0_text) (a_t_now := a_p0_now) (a_t_copy := a_p0_copy) (a_t_memory := a_p0_memory) (a_t_slot0 := a_p0_slot0) (a_t_slot1 := a_p0_slot1) (a_t_copy_before0 := a_p0_copy_before0) (a_t_copy_before1 := a_p0_copy_before1) (a_t_copy_grid := a_p0_copy_grid) (a_t_now_before0 := a_p0_now_before0) (a_t_now_before1 := a_p0_now_before1) (a_t_now_grid := a_p0_now_grid) (w_t_now := w_p0_now) (w_t_copy := w_p0_copy) (f_t_copy_before0 := f_p0_copy_before0) (f_t_copy_before1 := f_p0_copy_before1) (f_t_now_before0 := f_p0_now_before0) (f_t_now_before1 := f_p0_now_before1) (w_t_now_grid := w_p0_now_grid) (p0 := p1) (p1 := p2) (hc_t := hc_p0) (hc_t_now := hc_p0_now) (hc_t_copy := hc_p0_copy) (hc_t_copy_before0 := hc_p0_copy_before0) (hc_t_copy_before1 := hc_p0_copy_before1) (hc_t_now_before0 := hc_p0_now_before0) (hc_t_now_before1 := hc_p0_now_before1) (hc_t_now_grid := hc_p0_now_grid) (n_t_t_copy := n_p0_p0_copy) (n_t_t_copy_before0 := n_p0_p0_copy_before0) (n_t_t_copy_before1 := n_p0_p0_copy_before1) (n_t_copy_t_copy_before0 := n_p0_copy_p0_copy_before0) (n_t_copy_t_copy_before1 := n_p0_copy_p0_copy_before1) (n_t_copy_t_now := n_p0_copy_p0_now) (n_t_copy_t_now_before0 := n_p0_copy_p0_now_before0) (n_t_copy_t_now_before1 := n_p0_copy_p0_now_before1) (n_t_copy_t_now_grid := n_p0_copy_p0_now_grid) (n_t_copy_before0_t_copy_before1 := n_p0_copy_before0_p0_copy_before1) (n_t_copy_before0_t_now := n_p0_copy_before0_p0_now) (n_t_copy_before0_t_now_before0 := n_p0_copy_before0_p0_now_before0) (n_t_copy_before0_t_now_before1 := n_p0_copy_before0_p0_now_before1) (n_t_copy_before0_t_now_grid := n_p0_copy_before0_p0_now_grid) (n_t_copy_before1_t_now := n_p0_copy_before1_p0_now) (n_t_copy_before1_t_now_before0 := n_p0_copy_before1_p0_now_before0) (n_t_copy_before1_t_now_before1 := n_p0_copy_before1_p0_now_before1) (n_t_copy_before1_t_now_grid := n_p0_copy_before1_p0_now_grid) (hlt := hlt) (v := r1) hr1) gL_runScript_X7_runScript rfl rfl rfl rfl q_X7_runScript ⟨Nat.le_of_ble_eq_true rfl, Nat.le_of_ble_eq_true rfl⟩ rfl rfl (Nat.le_of_ble_eq_true rfl) hl.1 dL_runScript_6 ⟨Nat.le_of_ble_eq_true rfl, Nat.le_of_ble_eq_true rfl⟩) hS (fun E4 ce a_e5 H locs hvE hM hS hce hcv hcl => ?_) (fun r9 H locs σ1 hp3 hM hS => ?_)
  · subst hvE
    replace h := rsum_inl h
    by_cases c7 : E4 = "java/lang/IllegalArgumentException"
    · replace h := it_pos c7 h
      subst c7
      refine vx_catch (name := "java/lang/IllegalArgumentException") hown [] ⟨0, 11, 14, 13⟩ [] hex (fun _ h9 => by cases h9) (by decide) (by decide) (hts _ l_L_runScript_0) (va_Nw.use rfl (xc_A hX)) hce hcv hcl ?_
      refine W.eq (g2 := F0 m 14 ls [.ref a_e5]) rfl ?_
      refine lv_astore (lv' := [(5, .ref a_e5), (0, .ref a_p0), (1, .int p1), (2, .long p2), (4, .ref a_p3)]) hx hb dL_runScript_14 hl (by decide) rfl (fun ls hl => ?_)
      refine lv_iconst (v := 1) hx hb dL_runScript_16 (by decide) ?_
      cases h
      replace hc_p0_copy : σ a_p0_copy = some (cl0 a_p0_copy_before0 a_p0_copy_before1 (if (1 : Int32) = 0 then a_p0_now_grid else a_p0_copy_grid) w_p0_copy) := by
        first | (rw [if_pos (by assumption)]; exact hc_p0_copy) | (rw [if_neg (by assumption)]; exact hc_p0_copy) | (rw [if_neg (by decide)]; exact hc_p0_copy) | (rw [if_pos (by decide)]; exact hc_p0_copy)
      exact W.iret hx hb hr (fun t ht hW => ⟨⟨_, _, rfl, ⟨rfl, hc_p3, hc_p0_copy, hc_p0_copy_before0, hc_p0_copy_before1, (fun _ _ h9 _ _ _ _ => h9)⟩, by show MW z D _ t.heap; rw [ht]; exact hM⟩, hS.F ht⟩) hS.2.2 dL_runScript_17 hlocks
    replace h := it_neg c7 h
    cases h
  · obtain ⟨w6, hw9, hr9, hc_p0_copy, hc_p0_copy_before0, hc_p0_copy_before1, ho2⟩ := hp3
    replace hr9 := hr9.symm
    subst hr9
    subst hw9
    replace h := rsum_inr h
    replace hc_p3 := ho2 a_p3 _ hc_p3 (Ne.symm n_p0_copy_p3) (Ne.symm n_p0_copy_before0_p3) (Ne.symm n_p0_copy_before1_p3)
    have hf8 := fun (q : Nat) (f : va_E) (hf : σ q = some f) (n0 : q ≠ a_p3) (n1 : q ≠ a_p0_copy) (n2 : q ≠ a_p0_copy_before0) (n3 : q ≠ a_p0_copy_before1) => ho2 q f hf n1 n2 n3
    refine W.widen (k := 1) (n := 6) (Nat.le_of_ble_eq_true rfl) (Nat.le_of_ble_eq_true rfl) ?_
    refine lv_i2l hx hb dL_runScript_9 rfl ?_
    obtain ⟨c9, h⟩ := gd_some h
    refine mw_stJ hC hM hS hc_p3 (inB_ok c9) dL_runScript_10 (fun H locs σ1 hM hS hc_p3 ho10 => ?_)
    replace hc_p3 : σ1 a_p3 = some (eJ K 1 (vp_updL f_p3 (0 : Int32).toNatClampNeg w6.1.toInt64)) := hc_p3
    replace hc_p0_copy := ho10 a_p0_copy _ hc_p0_copy n_p0_copy_p3
    replace hc_p0_copy_before0 := ho10 a_p0_copy_before0 _ hc_p0_copy_before0 n_p0_copy_before0_p3
    replace hc_p0_copy_before1 := ho10 a_p0_copy_before1 _ hc_p0_copy_before1 n_p0_copy_before1_p3
    have hf11 := fun (q : Nat) (f : va_E) (hf : σ q = some f) (n0 : q ≠ a_p3) (n1 : q ≠ a_p0_copy) (n2 : q ≠ a_p0_copy_before0) (n3 : q ≠ a_p0_copy_before1) => ho10 q f (hf8 q f hf n0 n1 n2 n3) n0
    refine lv_goto (tgt := 18) hx hb dL_runScript_11 (by decide) ?_
    refine lv_iconst (v := 0) hx hb dL_runScript_18 (by decide) ?_
    cases h
    replace hc_p0_copy : σ1 a_p0_copy = some (cl0 a_p0_copy_before0 a_p0_copy_before1 (if (0 : Int32) = 0 then a_p0_now_grid else a_p0_copy_grid) w6.2.1) := by
      first | (rw [if_pos (by assumption)]; exact hc_p0_copy) | (rw [if_neg (by assumption)]; exact hc_p0_copy) | (rw [if_neg (by decide)]; exact hc_p0_copy) | (rw [if_pos (by decide)]; exact hc_p0_copy)
    exact W.iret hx hb hr (fun t ht hW => ⟨⟨_, _, rfl, ⟨rfl, hc_p3, hc_p0_copy, hc_p0_copy_before0, hc_p0_copy_before1, hf11⟩, by show MW z D _ t.heap; rw [ht]; exact hM⟩, hS.F ht⟩) hS.2.2 dL_runScript_19 hlocks
theorem l_L_simulate_0 : Cond.classLink RL 13 "java/lang/IllegalArgumentException" ∈ wsL_simulate := (List.mem_cons_of_mem _ (List.mem_append_left _ (List.mem_append_left _ (List.mem_append_left _ (List.mem_append_left _ (List.mem_append_left _ (List.mem_of_getElem? (i := 0) rfl)))))))
theorem q_L_simulate : yL_simulate.cls ≠ "java/lang/invoke/MethodHandle" ∧ yL_simulate.cls ≠ "java/lang/invoke/VarHandle" ∧ (parseMethodDescriptor yL_simulate.desc).map (fun d => d.parameters.length) = some 4 := by decide +kernel
def fL_simulate (f_p3 : Nat → Int64) (w_p0_now : Int32 × Int32 × Int32 × Int32 × Int64 × Int64 × Int32 × Int32) (w_p0_copy : Int32 × Int32 × Int32 × Int32 × Int64 × Int64 × Int32 × Int32) (f_p0_copy_before0 : Nat → Int64) (f_p0_copy_before1 : Nat → Int64) (f_p0_now_before0 : Nat → Int64) (f_p0_now_before1 : Nat → Int64) (w_p0_now_grid : Int32 × Int32 × Int64 × Int64 × Int64) (p1 : Int64) (p2 : Int32) : Option (Int32 × (Nat → Int64) × (Int32 × Int32 × Int32 × Int32 × Int64 × Int64 × Int32 × Int32) × (Nat → Int64) × (Nat → Int64)) := (fX7_simulate w_p0_now w_p0_copy f_p0_copy_before0 f_p0_copy_before1 f_p0_now_before0 f_p0_now_before1 w_p0_now_grid p1 p2).bind fun r1 => rsum r1 (fun E4 => if E4 = "java/lang/IllegalArgumentException" then (some (((1 : Int32), f_p3, w_p0_copy, f_p0_copy_before0, f_p0_copy_before1))) else (none)) (fun w6 => if inB 0 1 = true then (some (((0 : Int32), (vp_updL f_p3 (0 : Int32).toNatClampNeg w6.1.toInt64), w6.2.1, w6.2.2.1, w6.2.2.2))) else none)
set_option maxHeartbeats 4000000 in
set_option maxRecDepth 100000 in
theorem c_L_simulate {l : Launch} {z : Nat} {D : va_G} {K : Nat → ClassId} {σ : mwm} {a_p0 a_p3 a_p0_text a_p0_now a_p0_copy a_p0_memory a_p0_slot0 a_p0_slot1 a_p0_copy_before0 a_p0_copy_before1 a_p0_copy_grid a_p0_now_before0 a_p0_now_before1 a_p0_now_grid : Nat} {f_p3 : Nat → Int64} {w_p0_now : Int32 × Int32 × Int32 × Int32 × Int64 × Int64 × Int32 × Int32} {w_p0_copy : Int32 × Int32 × Int32 × Int32 × Int64 × Int64 × Int32 × Int32} {f_p0_copy_before0 : Nat → Int64} {f_p0_copy_before1 : Nat → Int64} {f_p0_now_before0 : Nat → Int64} {f_p0_now_before1 : Nat → Int64} {w_p0_now_grid : Int32 × Int32 × Int64 × Int64 × Int64} {p1 : Int64} {p2 : Int32} (hc_p0 : σ a_p0 = some (cl5 a_p0_text a_p0_now a_p0_copy a_p0_memory a_p0_slot0 a_p0_slot1)) (hc_p3 : σ a_p3 = some (eJ K 1 f_p3)) (hc_p0_now : σ a_p0_now = some (cl0 a_p0_now_before0 a_p0_now_before1 a_p0_now_grid w_p0_now)) (hc_p0_copy : σ a_p0_copy = some (cl0 a_p0_copy_before0 a_p0_copy_before1 a_p0_copy_grid w_p0_copy)) (hc_p0_copy_before0 : σ a_p0_copy_before0 = some (eJ K 121 f_p0_copy_before0)) (hc_p0_copy_before1 : σ a_p0_copy_before1 = some (eJ K 121 f_p0_copy_before1)) (hc_p0_now_before0 : σ a_p0_now_before0 = some (eJ K 121 f_p0_now_before0)) (hc_p0_now_before1 : σ a_p0_now_before1 = some (eJ K 121 f_p0_now_before1)) (hc_p0_now_grid : σ a_p0_now_grid = some (cl2  w_p0_now_grid)) (n_p0_p0_copy : a_p0 ≠ a_p0_copy) (n_p0_p0_copy_before0 : a_p0 ≠ a_p0_copy_before0) (n_p0_p0_copy_before1 : a_p0 ≠ a_p0_copy_before1) (n_p0_copy_p0_copy_before0 : a_p0_copy ≠ a_p0_copy_before0) (n_p0_copy_p0_copy_before1 : a_p0_copy ≠ a_p0_copy_before1) (n_p0_copy_p0_now : a_p0_copy ≠ a_p0_now) (n_p0_copy_p0_now_before0 : a_p0_copy ≠ a_p0_now_before0) (n_p0_copy_p0_now_before1 : a_p0_copy ≠ a_p0_now_before1) (n_p0_copy_p0_now_grid : a_p0_copy ≠ a_p0_now_grid) (n_p0_copy_p3 : a_p0_copy ≠ a_p3) (n_p0_copy_before0_p0_copy_before1 : a_p0_copy_before0 ≠ a_p0_copy_before1) (n_p0_copy_before0_p0_now : a_p0_copy_before0 ≠ a_p0_now) (n_p0_copy_before0_p0_now_before0 : a_p0_copy_before0 ≠ a_p0_now_before0) (n_p0_copy_before0_p0_now_before1 : a_p0_copy_before0 ≠ a_p0_now_before1) (n_p0_copy_before0_p0_now_grid : a_p0_copy_before0 ≠ a_p0_now_grid) (n_p0_copy_before0_p3 : a_p0_copy_before0 ≠ a_p3) (n_p0_copy_before1_p0_now : a_p0_copy_before1 ≠ a_p0_now) (n_p0_copy_before1_p0_now_before0 : a_p0_copy_before1 ≠ a_p0_now_before0) (n_p0_copy_before1_p0_now_before1 : a_p0_copy_before1 ≠ a_p0_now_before1) (n_p0_copy_before1_p0_now_grid : a_p0_copy_before1 ≠ a_p0_now_grid) (n_p0_copy_before1_p3 : a_p0_copy_before1 ≠ a_p3) (hlt : l.stackTraces = false) {v : Int32 × (Nat → Int64) × (Int32 × Int32 × Int32 × Int32 × Int64 × Int64 × Int32 × Int32) × (Nat → Int64) × (Nat → Int64)} (h : fL_simulate f_p3 w_p0_now w_p0_copy f_p0_copy_before0 f_p0_copy_before1 f_p0_now_before0 f_p0_now_before1 w_p0_now_grid p1 p2 = some v) : Met l yL_simulate wsL_simulate ({ frames := 7, cells := 1, slots := 6, locals := 155 } : Room) (PCx z D K [.ref a_p0, .long p1, .int p2, .ref a_p3] σ) (qwI z D (fun r σ2 => r = v.1 ∧ σ2 a_p3 = some (eJ K 1 v.2.1) ∧ σ2 a_p0_copy = some (cl0 a_p0_copy_before0 a_p0_copy_before1 (if v.1 = 0 then a_p0_now_grid else a_p0_copy_grid) v.2.2.1) ∧ σ2 a_p0_copy_before0 = some (eJ K 121 v.2.2.2.1) ∧ σ2 a_p0_copy_before1 = some (eJ K 121 v.2.2.2.2) ∧ ∀ (q : Nat) (f : va_E), σ q = some f → q ≠ a_p3 → q ≠ a_p0_copy → q ≠ a_p0_copy_before0 → q ≠ a_p0_copy_before1 → σ2 q = some f)) 1 6 (zA z) := by
  refine mh_enter (cc := cL_simulate) (maxL := 6) (ret := (some .int)) (own := RL) (lv := [(0, .ref a_p0), (1, .long p1), (3, .int p2), (4, .ref a_p3)]) (by decide) rfl rfl (Nat.le_of_ble_eq_true rfl) rfl ?_
  intro p e s m below meth c ls hC hx hb hown hts hK hr hlocks hnm hz hM hS hl hX hex
  unfold fL_simulate at h
  refine lv_aload hx hb dL_simulate_0 (lv_at hl 3 rfl) ?_
  refine lv_iconst (v := 0) hx hb dL_simulate_2 (by decide) ?_
  refine lv_aload_n hx hb dL_simulate_3 rfl (lv_at hl 0 rfl) ?_
  refine lv_lload_n hx hb dL_simulate_4 rfl (lv_at hl 1 rfl) ?_
  refine lv_iload_n hx hb dL_simulate_5 rfl (lv_at hl 2 rfl) ?_
  obtain ⟨r1, hr1, h⟩ := ob_some h
  refine mx_ci (mx_runV (As := [.long p1, .int p2]) (rest := [.int 0, .ref a_p3]) (ci := 5) (C := RX7) (T := TX7) (N := 6) hC hX hM hS hc_p0 rfl (c_X7_simulate (a_t := a_p0) (a_t_text := a_p0_text) (a_t_now := a_p0_now) (a_t_copy := a_p0_copy) (a_t_memory := a_p0_memory) (a_t_slot0 := a_p0_slot0) (a_t_slot1 := a_p0_slot1) (a_t_copy_before0 := a_p0_copy_before0) (a_t_copy_before1 := a_p0_copy_before1) (a_t_copy_grid := a_p0_copy_grid) (a_t_now_before0 := a_p0_now_before0) (a_t_now_before1 := a_p0_now_before1) (a_t_now_grid := a_p0_now_grid) (w_t_now := w_p0_now) (w_t_copy := w_p0_copy) (f_t_copy_before0 := f_p0_copy_before0) (f_t_copy_before1 := f_p0_copy_before1) (f_t_now_before0 := f_p0_now_before0) (f_t_now_before1 := f_p0_now_before1) (w_t_now_grid := w_p0_now_grid) (p0 := p1) (p1 := p2) (hc_t := hc_p0) (hc_t_now := hc_p0_now) (hc_t_copy := hc_p0_copy) (hc_t_copy_before0 := hc_p0_copy_before0) (hc_t_copy_before1 := hc_p0_copy_before1) (hc_t_now_before0 := hc_p0_now_before0) (hc_t_now_before1 := hc_p0_now_before1) (hc_t_now_grid := hc_p0_now_grid) (n_t_t_copy := n_p0_p0_copy) (n_t_t_copy_before0 := n_p0_p0_copy_before0) (n_t_t_copy_before1 := n_p0_p0_copy_before1) (n_t_copy_t_copy_before0 := n_p0_copy_p0_copy_before0) (n_t_copy_t_copy_before1 := n_p0_copy_p0_copy_before1) (n_t_copy_t_now := n_p0_copy_p0_now) (n_t_copy_t_now_before0 := n_p0_copy_p0_now_before0) (n_t_copy_t_now_before1 := n_p0_copy_p0_now_before1) (n_t_copy_t_now_grid := n_p0_copy_p0_now_grid) (n_t_copy_before0_t_copy_before1 := n_p0_copy_before0_p0_copy_before1) (n_t_copy_before0_t_now := n_p0_copy_before0_p0_now) (n_t_copy_before0_t_now_before0 := n_p0_copy_before0_p0_now_before0) (n_t_copy_before0_t_now_before1 := n_p0_copy_before0_p0_now_before1) (n_t_copy_before0_t_now_grid := n_p0_copy_before0_p0_now_grid) (n_t_copy_before1_t_now := n_p0_copy_before1_p0_now) (n_t_copy_before1_t_now_before0 := n_p0_copy_before1_p0_now_before0) (n_t_copy_before1_t_now_before1 := n_p0_copy_before1_p0_now_before1) (n_t_copy_before1_t_now_grid := n_p0_copy_before1_p0_now_grid) (hlt := hlt) (v := r1) hr1) gL_simulate_X7_simulate rfl rfl rfl rfl q_X7_simulate ⟨Nat.le_of_ble_eq_true rfl, Nat.le_of_ble_eq_true rfl⟩ rfl rfl (Nat.le_of_ble_eq_true rfl) hl.1 dL_simulate_6 ⟨Nat.le_of_ble_eq_true rfl, Nat.le_of_ble_eq_true rfl⟩) hS (fun E4 ce a_e5 H locs hvE hM hS hce hcv hcl => ?_) (fun r9 H locs σ1 hp3 hM hS => ?_)
  · subst hvE
    replace h := rsum_inl h
    by_cases c7 : E4 = "java/lang/IllegalArgumentException"
    · replace h := it_pos c7 h
      subst c7
      refine vx_catch (name := "java/lang/IllegalArgumentException") hown [] ⟨0, 11, 14, 13⟩ [] hex (fun _ h9 => by cases h9) (by decide) (by decide) (hts _ l_L_simulate_0) (va_Nw.use rfl (xc_A hX)) hce hcv hcl ?_
      refine W.eq (g2 := F0 m 14 ls [.ref a_e5]) rfl ?_
      refine lv_astore (lv' := [(5, .ref a_e5), (0, .ref a_p0), (1, .long p1), (3, .int p2), (4, .ref a_p3)]) hx hb dL_simulate_14 hl (by decide) rfl (fun ls hl => ?_)
      refine lv_iconst (v := 1) hx hb dL_simulate_16 (by decide) ?_
      cases h
      replace hc_p0_copy : σ a_p0_copy = some (cl0 a_p0_copy_before0 a_p0_copy_before1 (if (1 : Int32) = 0 then a_p0_now_grid else a_p0_copy_grid) w_p0_copy) := by
        first | (rw [if_pos (by assumption)]; exact hc_p0_copy) | (rw [if_neg (by assumption)]; exact hc_p0_copy) | (rw [if_neg (by decide)]; exact hc_p0_copy) | (rw [if_pos (by decide)]; exact hc_p0_copy)
      exact W.iret hx hb hr (fun t ht hW => ⟨⟨_, _, rfl, ⟨rfl, hc_p3, hc_p0_copy, hc_p0_copy_before0, hc_p0_copy_before1, (fun _ _ h9 _ _ _ _ => h9)⟩, by show MW z D _ t.heap; rw [ht]; exact hM⟩, hS.F ht⟩) hS.2.2 dL_simulate_17 hlocks
    replace h := it_neg c7 h
    cases h
  · obtain ⟨w6, hw9, hr9, hc_p0_copy, hc_p0_copy_before0, hc_p0_copy_before1, ho2⟩ := hp3
    replace hr9 := hr9.symm
    subst hr9
    subst hw9
    replace h := rsum_inr h
    replace hc_p3 := ho2 a_p3 _ hc_p3 (Ne.symm n_p0_copy_p3) (Ne.symm n_p0_copy_before0_p3) (Ne.symm n_p0_copy_before1_p3)
    have hf8 := fun (q : Nat) (f : va_E) (hf : σ q = some f) (n0 : q ≠ a_p3) (n1 : q ≠ a_p0_copy) (n2 : q ≠ a_p0_copy_before0) (n3 : q ≠ a_p0_copy_before1) => ho2 q f hf n1 n2 n3
    refine W.widen (k := 1) (n := 6) (Nat.le_of_ble_eq_true rfl) (Nat.le_of_ble_eq_true rfl) ?_
    refine lv_i2l hx hb dL_simulate_9 rfl ?_
    obtain ⟨c9, h⟩ := gd_some h
    refine mw_stJ hC hM hS hc_p3 (inB_ok c9) dL_simulate_10 (fun H locs σ1 hM hS hc_p3 ho10 => ?_)
    replace hc_p3 : σ1 a_p3 = some (eJ K 1 (vp_updL f_p3 (0 : Int32).toNatClampNeg w6.1.toInt64)) := hc_p3
    replace hc_p0_copy := ho10 a_p0_copy _ hc_p0_copy n_p0_copy_p3
    replace hc_p0_copy_before0 := ho10 a_p0_copy_before0 _ hc_p0_copy_before0 n_p0_copy_before0_p3
    replace hc_p0_copy_before1 := ho10 a_p0_copy_before1 _ hc_p0_copy_before1 n_p0_copy_before1_p3
    have hf11 := fun (q : Nat) (f : va_E) (hf : σ q = some f) (n0 : q ≠ a_p3) (n1 : q ≠ a_p0_copy) (n2 : q ≠ a_p0_copy_before0) (n3 : q ≠ a_p0_copy_before1) => ho10 q f (hf8 q f hf n0 n1 n2 n3) n0
    refine lv_goto (tgt := 18) hx hb dL_simulate_11 (by decide) ?_
    refine lv_iconst (v := 0) hx hb dL_simulate_18 (by decide) ?_
    cases h
    replace hc_p0_copy : σ1 a_p0_copy = some (cl0 a_p0_copy_before0 a_p0_copy_before1 (if (0 : Int32) = 0 then a_p0_now_grid else a_p0_copy_grid) w6.2.1) := by
      first | (rw [if_pos (by assumption)]; exact hc_p0_copy) | (rw [if_neg (by assumption)]; exact hc_p0_copy) | (rw [if_neg (by decide)]; exact hc_p0_copy) | (rw [if_pos (by decide)]; exact hc_p0_copy)
    exact W.iret hx hb hr (fun t ht hW => ⟨⟨_, _, rfl, ⟨rfl, hc_p3, hc_p0_copy, hc_p0_copy_before0, hc_p0_copy_before1, hf11⟩, by show MW z D _ t.heap; rw [ht]; exact hM⟩, hS.F ht⟩) hS.2.2 dL_simulate_19 hlocks
theorem l_L_save_0 : Cond.classLink RL 28 "java/lang/IndexOutOfBoundsException" ∈ wsL_save := (List.mem_cons_of_mem _ (List.mem_append_left _ (List.mem_append_left _ (List.mem_append_left _ (List.mem_append_left _ (List.mem_append_left _ (List.mem_of_getElem? (i := 0) rfl)))))))
theorem q_L_save : yL_save.cls ≠ "java/lang/invoke/MethodHandle" ∧ yL_save.cls ≠ "java/lang/invoke/VarHandle" ∧ (parseMethodDescriptor yL_save.desc).map (fun d => d.parameters.length) = some 3 := by decide +kernel
def fL_save (f_p2 : Nat → Int64) (w_p0_now : Int32 × Int32 × Int32 × Int32 × Int64 × Int64 × Int32 × Int32) (w_p0_slot0 : Bool) (w_p0_slot1 : Bool) (w_p0_slot1_kept : Int32 × Int32 × Int32 × Int32 × Int64 × Int64 × Int32 × Int32) (f_p0_slot1_kept_before0 : Nat → Int64) (f_p0_slot1_kept_before1 : Nat → Int64) (f_p0_now_before0 : Nat → Int64) (f_p0_now_before1 : Nat → Int64) (w_p0_slot0_kept : Int32 × Int32 × Int32 × Int32 × Int64 × Int64 × Int32 × Int32) (f_p0_slot0_kept_before0 : Nat → Int64) (f_p0_slot0_kept_before1 : Nat → Int64) (p1 : Int32) : Option (Int32 × (Nat → Int64) × Bool × Bool × (Int32 × Int32 × Int32 × Int32 × Int64 × Int64 × Int32 × Int32) × (Nat → Int64) × (Nat → Int64) × (Int32 × Int32 × Int32 × Int32 × Int64 × Int64 × Int32 × Int32) × (Nat → Int64) × (Nat → Int64)) := (fX7_save w_p0_now w_p0_slot0 w_p0_slot1 w_p0_slot1_kept f_p0_slot1_kept_before0 f_p0_slot1_kept_before1 f_p0_now_before0 f_p0_now_before1 w_p0_slot0_kept f_p0_slot0_kept_before0 f_p0_slot0_kept_before1 p1).bind fun r1 => rsum r1 (fun E4 => if E4 = "java/lang/IndexOutOfBoundsException" then (some (((1 : Int32), f_p2, w_p0_slot0, w_p0_slot1, w_p0_slot1_kept, f_p0_slot1_kept_before0, f_p0_slot1_kept_before1, w_p0_slot0_kept, f_p0_slot0_kept_before0, f_p0_slot0_kept_before1))) else (none)) (fun w6 => if inB 0 1 = true then (some (((0 : Int32), (vp_updL f_p2 (0 : Int32).toNatClampNeg w6.1.toInt64), w6.2.1, w6.2.2.1, w6.2.2.2.1, w6.2.2.2.2.1, w6.2.2.2.2.2.1, w6.2.2.2.2.2.2.1, w6.2.2.2.2.2.2.2.1, w6.2.2.2.2.2.2.2.2))) else none)
set_option maxHeartbeats 4000000 in
set_option maxRecDepth 100000 in
theorem c_L_save {l : Launch} {z : Nat} {D : va_G} {K : Nat → ClassId} {σ : mwm} {a_p0 a_p2 a_p0_text a_p0_now a_p0_copy a_p0_memory a_p0_slot0 a_p0_slot1 a_p0_slot1_kept a_p0_slot1_kept_before0 a_p0_slot1_kept_before1 a_p0_slot1_kept_grid a_p0_now_before0 a_p0_now_before1 a_p0_now_grid a_p0_slot0_kept a_p0_slot0_kept_before0 a_p0_slot0_kept_before1 a_p0_slot0_kept_grid : Nat} {f_p2 : Nat → Int64} {w_p0_now : Int32 × Int32 × Int32 × Int32 × Int64 × Int64 × Int32 × Int32} {w_p0_slot0 : Bool} {w_p0_slot1 : Bool} {w_p0_slot1_kept : Int32 × Int32 × Int32 × Int32 × Int64 × Int64 × Int32 × Int32} {f_p0_slot1_kept_before0 : Nat → Int64} {f_p0_slot1_kept_before1 : Nat → Int64} {f_p0_now_before0 : Nat → Int64} {f_p0_now_before1 : Nat → Int64} {w_p0_slot0_kept : Int32 × Int32 × Int32 × Int32 × Int64 × Int64 × Int32 × Int32} {f_p0_slot0_kept_before0 : Nat → Int64} {f_p0_slot0_kept_before1 : Nat → Int64} {p1 : Int32} (hc_p0 : σ a_p0 = some (cl5 a_p0_text a_p0_now a_p0_copy a_p0_memory a_p0_slot0 a_p0_slot1)) (hc_p2 : σ a_p2 = some (eJ K 1 f_p2)) (hc_p0_now : σ a_p0_now = some (cl0 a_p0_now_before0 a_p0_now_before1 a_p0_now_grid w_p0_now)) (hc_p0_slot0 : σ a_p0_slot0 = some (cl4 a_p0_slot0_kept w_p0_slot0)) (hc_p0_slot1 : σ a_p0_slot1 = some (cl4 a_p0_slot1_kept w_p0_slot1)) (hc_p0_slot1_kept : σ a_p0_slot1_kept = some (cl0 a_p0_slot1_kept_before0 a_p0_slot1_kept_before1 a_p0_slot1_kept_grid w_p0_slot1_kept)) (hc_p0_slot1_kept_before0 : σ a_p0_slot1_kept_before0 = some (eJ K 121 f_p0_slot1_kept_before0)) (hc_p0_slot1_kept_before1 : σ a_p0_slot1_kept_before1 = some (eJ K 121 f_p0_slot1_kept_before1)) (hc_p0_now_before0 : σ a_p0_now_before0 = some (eJ K 121 f_p0_now_before0)) (hc_p0_now_before1 : σ a_p0_now_before1 = some (eJ K 121 f_p0_now_before1)) (hc_p0_slot0_kept : σ a_p0_slot0_kept = some (cl0 a_p0_slot0_kept_before0 a_p0_slot0_kept_before1 a_p0_slot0_kept_grid w_p0_slot0_kept)) (hc_p0_slot0_kept_before0 : σ a_p0_slot0_kept_before0 = some (eJ K 121 f_p0_slot0_kept_before0)) (hc_p0_slot0_kept_before1 : σ a_p0_slot0_kept_before1 = some (eJ K 121 f_p0_slot0_kept_before1)) (n_p0_p0_slot0 : a_p0 ≠ a_p0_slot0) (n_p0_p0_slot0_kept : a_p0 ≠ a_p0_slot0_kept) (n_p0_p0_slot0_kept_before0 : a_p0 ≠ a_p0_slot0_kept_before0) (n_p0_p0_slot0_kept_before1 : a_p0 ≠ a_p0_slot0_kept_before1) (n_p0_p0_slot1 : a_p0 ≠ a_p0_slot1) (n_p0_p0_slot1_kept : a_p0 ≠ a_p0_slot1_kept) (n_p0_p0_slot1_kept_before0 : a_p0 ≠ a_p0_slot1_kept_before0) (n_p0_p0_slot1_kept_before1 : a_p0 ≠ a_p0_slot1_kept_before1) (n_p0_now_p0_slot0 : a_p0_now ≠ a_p0_slot0) (n_p0_now_p0_slot0_kept : a_p0_now ≠ a_p0_slot0_kept) (n_p0_now_p0_slot0_kept_before0 : a_p0_now ≠ a_p0_slot0_kept_before0) (n_p0_now_p0_slot0_kept_before1 : a_p0_now ≠ a_p0_slot0_kept_before1) (n_p0_now_p0_slot1 : a_p0_now ≠ a_p0_slot1) (n_p0_now_p0_slot1_kept : a_p0_now ≠ a_p0_slot1_kept) (n_p0_now_p0_slot1_kept_before0 : a_p0_now ≠ a_p0_slot1_kept_before0) (n_p0_now_p0_slot1_kept_before1 : a_p0_now ≠ a_p0_slot1_kept_before1) (n_p0_now_before0_p0_slot0_kept : a_p0_now_before0 ≠ a_p0_slot0_kept) (n_p0_now_before0_p0_slot0_kept_before0 : a_p0_now_before0 ≠ a_p0_slot0_kept_before0) (n_p0_now_before0_p0_slot0_kept_before1 : a_p0_now_before0 ≠ a_p0_slot0_kept_before1) (n_p0_now_before0_p0_slot1_kept : a_p0_now_before0 ≠ a_p0_slot1_kept) (n_p0_now_before0_p0_slot1_kept_before0 : a_p0_now_before0 ≠ a_p0_slot1_kept_before0) (n_p0_now_before0_p0_slot1_kept_before1 : a_p0_now_before0 ≠ a_p0_slot1_kept_before1) (n_p0_now_before1_p0_slot0_kept : a_p0_now_before1 ≠ a_p0_slot0_kept) (n_p0_now_before1_p0_slot0_kept_before0 : a_p0_now_before1 ≠ a_p0_slot0_kept_before0) (n_p0_now_before1_p0_slot0_kept_before1 : a_p0_now_before1 ≠ a_p0_slot0_kept_before1) (n_p0_now_before1_p0_slot1_kept : a_p0_now_before1 ≠ a_p0_slot1_kept) (n_p0_now_before1_p0_slot1_kept_before0 : a_p0_now_before1 ≠ a_p0_slot1_kept_before0) (n_p0_now_before1_p0_slot1_kept_before1 : a_p0_now_before1 ≠ a_p0_slot1_kept_before1) (n_p0_slot0_p0_slot0_kept : a_p0_slot0 ≠ a_p0_slot0_kept) (n_p0_slot0_p0_slot0_kept_before0 : a_p0_slot0 ≠ a_p0_slot0_kept_before0) (n_p0_slot0_p0_slot0_kept_before1 : a_p0_slot0 ≠ a_p0_slot0_kept_before1) (n_p0_slot0_p0_slot1 : a_p0_slot0 ≠ a_p0_slot1) (n_p0_slot0_p0_slot1_kept : a_p0_slot0 ≠ a_p0_slot1_kept) (n_p0_slot0_p0_slot1_kept_before0 : a_p0_slot0 ≠ a_p0_slot1_kept_before0) (n_p0_slot0_p0_slot1_kept_before1 : a_p0_slot0 ≠ a_p0_slot1_kept_before1) (n_p0_slot0_p2 : a_p0_slot0 ≠ a_p2) (n_p0_slot0_kept_p0_slot0_kept_before0 : a_p0_slot0_kept ≠ a_p0_slot0_kept_before0) (n_p0_slot0_kept_p0_slot0_kept_before1 : a_p0_slot0_kept ≠ a_p0_slot0_kept_before1) (n_p0_slot0_kept_p0_slot1 : a_p0_slot0_kept ≠ a_p0_slot1) (n_p0_slot0_kept_p0_slot1_kept : a_p0_slot0_kept ≠ a_p0_slot1_kept) (n_p0_slot0_kept_p0_slot1_kept_before0 : a_p0_slot0_kept ≠ a_p0_slot1_kept_before0) (n_p0_slot0_kept_p0_slot1_kept_before1 : a_p0_slot0_kept ≠ a_p0_slot1_kept_before1) (n_p0_slot0_kept_p2 : a_p0_slot0_kept ≠ a_p2) (n_p0_slot0_kept_before0_p0_slot0_kept_before1 : a_p0_slot0_kept_before0 ≠ a_p0_slot0_kept_before1) (n_p0_slot0_kept_before0_p0_slot1 : a_p0_slot0_kept_before0 ≠ a_p0_slot1) (n_p0_slot0_kept_before0_p0_slot1_kept : a_p0_slot0_kept_before0 ≠ a_p0_slot1_kept) (n_p0_slot0_kept_before0_p0_slot1_kept_before0 : a_p0_slot0_kept_before0 ≠ a_p0_slot1_kept_before0) (n_p0_slot0_kept_before0_p0_slot1_kept_before1 : a_p0_slot0_kept_before0 ≠ a_p0_slot1_kept_before1) (n_p0_slot0_kept_before0_p2 : a_p0_slot0_kept_before0 ≠ a_p2) (n_p0_slot0_kept_before1_p0_slot1 : a_p0_slot0_kept_before1 ≠ a_p0_slot1) (n_p0_slot0_kept_before1_p0_slot1_kept : a_p0_slot0_kept_before1 ≠ a_p0_slot1_kept) (n_p0_slot0_kept_before1_p0_slot1_kept_before0 : a_p0_slot0_kept_before1 ≠ a_p0_slot1_kept_before0) (n_p0_slot0_kept_before1_p0_slot1_kept_before1 : a_p0_slot0_kept_before1 ≠ a_p0_slot1_kept_before1) (n_p0_slot0_kept_before1_p2 : a_p0_slot0_kept_before1 ≠ a_p2) (n_p0_slot1_p0_slot1_kept : a_p0_slot1 ≠ a_p0_slot1_kept) (n_p0_slot1_p0_slot1_kept_before0 : a_p0_slot1 ≠ a_p0_slot1_kept_before0) (n_p0_slot1_p0_slot1_kept_before1 : a_p0_slot1 ≠ a_p0_slot1_kept_before1) (n_p0_slot1_p2 : a_p0_slot1 ≠ a_p2) (n_p0_slot1_kept_p0_slot1_kept_before0 : a_p0_slot1_kept ≠ a_p0_slot1_kept_before0) (n_p0_slot1_kept_p0_slot1_kept_before1 : a_p0_slot1_kept ≠ a_p0_slot1_kept_before1) (n_p0_slot1_kept_p2 : a_p0_slot1_kept ≠ a_p2) (n_p0_slot1_kept_before0_p0_slot1_kept_before1 : a_p0_slot1_kept_before0 ≠ a_p0_slot1_kept_before1) (n_p0_slot1_kept_before0_p2 : a_p0_slot1_kept_before0 ≠ a_p2) (n_p0_slot1_kept_before1_p2 : a_p0_slot1_kept_before1 ≠ a_p2) (hlt : l.stackTraces = false) {v : Int32 × (Nat → Int64) × Bool × Bool × (Int32 × Int32 × Int32 × Int32 × Int64 × Int64 × Int32 × Int32) × (Nat → Int64) × (Nat → Int64) × (Int32 × Int32 × Int32 × Int32 × Int64 × Int64 × Int32 × Int32) × (Nat → Int64) × (Nat → Int64)} (h : fL_save f_p2 w_p0_now w_p0_slot0 w_p0_slot1 w_p0_slot1_kept f_p0_slot1_kept_before0 f_p0_slot1_kept_before1 f_p0_now_before0 f_p0_now_before1 w_p0_slot0_kept f_p0_slot0_kept_before0 f_p0_slot0_kept_before1 p1 = some v) : Met l yL_save wsL_save ({ frames := 7, cells := 1, slots := 6, locals := 121 } : Room) (PCx z D K [.ref a_p0, .int p1, .ref a_p2] σ) (qwI z D (fun r σ2 => r = v.1 ∧ σ2 a_p2 = some (eJ K 1 v.2.1) ∧ σ2 a_p0_slot0 = some (cl4 a_p0_slot0_kept v.2.2.1) ∧ σ2 a_p0_slot1 = some (cl4 a_p0_slot1_kept v.2.2.2.1) ∧ σ2 a_p0_slot1_kept = some (cl0 a_p0_slot1_kept_before0 a_p0_slot1_kept_before1 (if v.1 = 0 then (if p1 = 0 then a_p0_slot1_kept_grid else a_p0_now_grid) else a_p0_slot1_kept_grid) v.2.2.2.2.1) ∧ σ2 a_p0_slot1_kept_before0 = some (eJ K 121 v.2.2.2.2.2.1) ∧ σ2 a_p0_slot1_kept_before1 = some (eJ K 121 v.2.2.2.2.2.2.1) ∧ σ2 a_p0_slot0_kept = some (cl0 a_p0_slot0_kept_before0 a_p0_slot0_kept_before1 (if v.1 = 0 then (if p1 = 0 then a_p0_now_grid else a_p0_slot0_kept_grid) else a_p0_slot0_kept_grid) v.2.2.2.2.2.2.2.1) ∧ σ2 a_p0_slot0_kept_before0 = some (eJ K 121 v.2.2.2.2.2.2.2.2.1) ∧ σ2 a_p0_slot0_kept_before1 = some (eJ K 121 v.2.2.2.2.2.2.2.2.2) ∧ ∀ (q : Nat) (f : va_E), σ q = some f → q ≠ a_p2 → q ≠ a_p0_slot0 → q ≠ a_p0_slot1 → q ≠ a_p0_slot1_kept → q ≠ a_p0_slot1_kept_before0 → q ≠ a_p0_slot1_kept_before1 → q ≠ a_p0_slot0_kept → q ≠ a_p0_slot0_kept_before0 → q ≠ a_p0_slot0_kept_before1 → σ2 q = some f)) 1 6 (zA z) := by
  refine mh_enter (cc := cL_save) (maxL := 4) (ret := (some .int)) (own := RL) (lv := [(0, .ref a_p0), (1, .int p1), (2, .ref a_p2)]) (by decide) rfl rfl (Nat.le_of_ble_eq_true rfl) rfl ?_
  intro p e s m below meth c ls hC hx hb hown hts hK hr hlocks hnm hz hM hS hl hX hex
  unfold fL_save at h
  refine lv_aload_n hx hb dL_save_0 rfl (lv_at hl 2 rfl) ?_
  refine lv_iconst (v := 0) hx hb dL_save_1 (by decide) ?_
  refine lv_aload_n hx hb dL_save_2 rfl (lv_at hl 0 rfl) ?_
  refine lv_iload_n hx hb dL_save_3 rfl (lv_at hl 1 rfl) ?_
  obtain ⟨r1, hr1, h⟩ := ob_some h
  refine mx_ci (mx_runV (As := [.int p1]) (rest := [.int 0, .ref a_p2]) (ci := 5) (C := RX7) (T := TX7) (N := 6) hC hX hM hS hc_p0 rfl (c_X7_save (a_t := a_p0) (a_t_text := a_p0_text) (a_t_now := a_p0_now) (a_t_copy := a_p0_copy) (a_t_memory := a_p0_memory) (a_t_slot0 := a_p0_slot0) (a_t_slot1 := a_p0_slot1) (a_t_slot1_kept := a_p0_slot1_kept) (a_t_slot1_kept_before0 := a_p0_slot1_kept_before0) (a_t_slot1_kept_before1 := a_p0_slot1_kept_before1) (a_t_slot1_kept_grid := a_p0_slot1_kept_grid) (a_t_now_before0 := a_p0_now_before0) (a_t_now_before1 := a_p0_now_before1) (a_t_now_grid := a_p0_now_grid) (a_t_slot0_kept := a_p0_slot0_kept) (a_t_slot0_kept_before0 := a_p0_slot0_kept_before0) (a_t_slot0_kept_before1 := a_p0_slot0_kept_before1) (a_t_slot0_kept_grid := a_p0_slot0_kept_grid) (w_t_now := w_p0_now) (w_t_slot0 := w_p0_slot0) (w_t_slot1 := w_p0_slot1) (w_t_slot1_kept := w_p0_slot1_kept) (f_t_slot1_kept_before0 := f_p0_slot1_kept_before0) (f_t_slot1_kept_before1 := f_p0_slot1_kept_before1) (f_t_now_before0 := f_p0_now_before0) (f_t_now_before1 := f_p0_now_before1) (w_t_slot0_kept := w_p0_slot0_kept) (f_t_slot0_kept_before0 := f_p0_slot0_kept_before0) (f_t_slot0_kept_before1 := f_p0_slot0_kept_before1) (p0 := p1) (hc_t := hc_p0) (hc_t_now := hc_p0_now) (hc_t_slot0 := hc_p0_slot0) (hc_t_slot1 := hc_p0_slot1) (hc_t_slot1_kept := hc_p0_slot1_kept) (hc_t_slot1_kept_before0 := hc_p0_slot1_kept_before0) (hc_t_slot1_kept_before1 := hc_p0_slot1_kept_before1) (hc_t_now_before0 := hc_p0_now_before0) (hc_t_now_before1 := hc_p0_now_before1) (hc_t_slot0_kept := hc_p0_slot0_kept) (hc_t_slot0_kept_before0 := hc_p0_slot0_kept_before0) (hc_t_slot0_kept_before1 := hc_p0_slot0_kept_before1) (n_t_t_slot0 := n_p0_p0_slot0) (n_t_t_slot0_kept := n_p0_p0_slot0_kept) (n_t_t_slot0_kept_before0 := n_p0_p0_slot0_kept_before0) (n_t_t_slot0_kept_before1 := n_p0_p0_slot0_kept_before1) (n_t_t_slot1 := n_p0_p0_slot1) (n_t_t_slot1_kept := n_p0_p0_slot1_kept) (n_t_t_slot1_kept_before0 := n_p0_p0_slot1_kept_before0) (n_t_t_slot1_kept_before1 := n_p0_p0_slot1_kept_before1) (n_t_now_t_slot0 := n_p0_now_p0_slot0) (n_t_now_t_slot0_kept := n_p0_now_p0_slot0_kept) (n_t_now_t_slot0_kept_before0 := n_p0_now_p0_slot0_kept_before0) (n_t_now_t_slot0_kept_before1 := n_p0_now_p0_slot0_kept_before1) (n_t_now_t_slot1 := n_p0_now_p0_slot1) (n_t_now_t_slot1_kept := n_p0_now_p0_slot1_kept) (n_t_now_t_slot1_kept_before0 := n_p0_now_p0_slot1_kept_before0) (n_t_now_t_slot1_kept_before1 := n_p0_now_p0_slot1_kept_before1) (n_t_now_before0_t_slot0_kept := n_p0_now_before0_p0_slot0_kept) (n_t_now_before0_t_slot0_kept_before0 := n_p0_now_before0_p0_slot0_kept_before0) (n_t_now_before0_t_slot0_kept_before1 := n_p0_now_before0_p0_slot0_kept_before1) (n_t_now_before0_t_slot1_kept := n_p0_now_before0_p0_slot1_kept) (n_t_now_before0_t_slot1_kept_before0 := n_p0_now_before0_p0_slot1_kept_before0) (n_t_now_before0_t_slot1_kept_before1 := n_p0_now_before0_p0_slot1_kept_before1) (n_t_now_before1_t_slot0_kept := n_p0_now_before1_p0_slot0_kept) (n_t_now_before1_t_slot0_kept_before0 := n_p0_now_before1_p0_slot0_kept_before0) (n_t_now_before1_t_slot0_kept_before1 := n_p0_now_before1_p0_slot0_kept_before1) (n_t_now_before1_t_slot1_kept := n_p0_now_before1_p0_slot1_kept) (n_t_now_before1_t_slot1_kept_before0 := n_p0_now_before1_p0_slot1_kept_before0) (n_t_now_before1_t_slot1_kept_before1 := n_p0_now_before1_p0_slot1_kept_before1) (n_t_slot0_t_slot0_kept := n_p0_slot0_p0_slot0_kept) (n_t_slot0_t_slot0_kept_before0 := n_p0_slot0_p0_slot0_kept_before0) (n_t_slot0_t_slot0_kept_before1 := n_p0_slot0_p0_slot0_kept_before1) (n_t_slot0_t_slot1 := n_p0_slot0_p0_slot1) (n_t_slot0_t_slot1_kept := n_p0_slot0_p0_slot1_kept) (n_t_slot0_t_slot1_kept_before0 := n_p0_slot0_p0_slot1_kept_before0) (n_t_slot0_t_slot1_kept_before1 := n_p0_slot0_p0_slot1_kept_before1) (n_t_slot0_kept_t_slot0_kept_before0 := n_p0_slot0_kept_p0_slot0_kept_before0) (n_t_slot0_kept_t_slot0_kept_before1 := n_p0_slot0_kept_p0_slot0_kept_before1) (n_t_slot0_kept_t_slot1 := n_p0_slot0_kept_p0_slot1) (n_t_slot0_kept_t_slot1_kept := n_p0_slot0_kept_p0_slot1_kept) (n_t_slot0_kept_t_slot1_kept_before0 := n_p0_slot0_kept_p0_slot1_kept_before0) (n_t_slot0_kept_t_slot1_kept_before1 := n_p0_slot0_kept_p0_slot1_kept_before1) (n_t_slot0_kept_before0_t_slot0_kept_before1 := n_p0_slot0_kept_before0_p0_slot0_kept_before1) (n_t_slot0_kept_before0_t_slot1 := n_p0_slot0_kept_before0_p0_slot1) (n_t_slot0_kept_before0_t_slot1_kept := n_p0_slot0_kept_before0_p0_slot1_kept) (n_t_slot0_kept_before0_t_slot1_kept_before0 := n_p0_slot0_kept_before0_p0_slot1_kept_before0) (n_t_slot0_kept_before0_t_slot1_kept_before1 := n_p0_slot0_kept_before0_p0_slot1_kept_before1) (n_t_slot0_kept_before1_t_slot1 := n_p0_slot0_kept_before1_p0_slot1) (n_t_slot0_kept_before1_t_slot1_kept := n_p0_slot0_kept_before1_p0_slot1_kept) (n_t_slot0_kept_before1_t_slot1_kept_before0 := n_p0_slot0_kept_before1_p0_slot1_kept_before0) (n_t_slot0_kept_before1_t_slot1_kept_before1 := n_p0_slot0_kept_before1_p0_slot1_kept_before1) (n_t_slot1_t_slot1_kept := n_p0_slot1_p0_slot1_kept) (n_t_slot1_t_slot1_kept_before0 := n_p0_slot1_p0_slot1_kept_before0) (n_t_slot1_t_slot1_kept_before1 := n_p0_slot1_p0_slot1_kept_before1) (n_t_slot1_kept_t_slot1_kept_before0 := n_p0_slot1_kept_p0_slot1_kept_before0) (n_t_slot1_kept_t_slot1_kept_before1 := n_p0_slot1_kept_p0_slot1_kept_before1) (n_t_slot1_kept_before0_t_slot1_kept_before1 := n_p0_slot1_kept_before0_p0_slot1_kept_before1) (hlt := hlt) (v := r1) hr1) gL_save_X7_save rfl rfl rfl rfl q_X7_save ⟨Nat.le_of_ble_eq_true rfl, Nat.le_of_ble_eq_true rfl⟩ rfl rfl (Nat.le_of_ble_eq_true rfl) hl.1 dL_save_4 ⟨Nat.le_of_ble_eq_true rfl, Nat.le_of_ble_eq_true rfl⟩) hS (fun E4 ce a_e5 H locs hvE hM hS hce hcv hcl => ?_) (fun r9 H locs σ1 hp3 hM hS => ?_)
  · subst hvE
    replace h := rsum_inl h
    by_cases c7 : E4 = "java/lang/IndexOutOfBoundsException"
    · replace h := it_pos c7 h
      subst c7
      refine vx_catch (name := "java/lang/IndexOutOfBoundsException") hown [] ⟨0, 9, 12, 28⟩ [] hex (fun _ h9 => by cases h9) (by decide) (by decide) (hts _ l_L_save_0) (va_Nw.use rfl (xc_O hX)) hce hcv hcl ?_
      refine W.eq (g2 := F0 m 12 ls [.ref a_e5]) rfl ?_
      refine lv_astore_n (lv' := [(3, .ref a_e5), (0, .ref a_p0), (1, .int p1), (2, .ref a_p2)]) hx hb dL_save_12 rfl hl (by decide) rfl (fun ls hl => ?_)
      refine lv_iconst (v := 1) hx hb dL_save_13 (by decide) ?_
      cases h
      replace hc_p0_slot0_kept : σ a_p0_slot0_kept = some (cl0 a_p0_slot0_kept_before0 a_p0_slot0_kept_before1 (if (1 : Int32) = 0 then (if p1 = 0 then a_p0_now_grid else a_p0_slot0_kept_grid) else a_p0_slot0_kept_grid) w_p0_slot0_kept) := by
        first | (rw [if_pos (by assumption)]; exact hc_p0_slot0_kept) | (rw [if_neg (by assumption)]; exact hc_p0_slot0_kept) | (rw [if_neg (by decide)]; exact hc_p0_slot0_kept) | (rw [if_pos (by decide)]; exact hc_p0_slot0_kept)
      replace hc_p0_slot1_kept : σ a_p0_slot1_kept = some (cl0 a_p0_slot1_kept_before0 a_p0_slot1_kept_before1 (if (1 : Int32) = 0 then (if p1 = 0 then a_p0_slot1_kept_grid else a_p0_now_grid) else a_p0_slot1_kept_grid) w_p0_slot1_kept) := by
        first | (rw [if_pos (by assumption)]; exact hc_p0_slot1_kept) | (rw [if_neg (by assumption)]; exact hc_p0_slot1_kept) | (rw [if_neg (by decide)]; exact hc_p0_slot1_kept) | (rw [if_pos (by decide)]; exact hc_p0_slot1_kept)
      exact W.iret hx hb hr (fun t ht hW => ⟨⟨_, _, rfl, ⟨rfl, hc_p2, hc_p0_slot0, hc_p0_slot1, hc_p0_slot1_kept, hc_p0_slot1_kept_before0, hc_p0_slot1_kept_before1, hc_p0_slot0_kept, hc_p0_slot0_kept_before0, hc_p0_slot0_kept_before1, (fun _ _ h9 _ _ _ _ _ _ _ _ _ => h9)⟩, by show MW z D _ t.heap; rw [ht]; exact hM⟩, hS.F ht⟩) hS.2.2 dL_save_14 hlocks
    replace h := it_neg c7 h
    cases h
  · obtain ⟨w6, hw9, hr9, hc_p0_slot0, hc_p0_slot1, hc_p0_slot1_kept, hc_p0_slot1_kept_before0, hc_p0_slot1_kept_before1, hc_p0_slot0_kept, hc_p0_slot0_kept_before0, hc_p0_slot0_kept_before1, ho2⟩ := hp3
    replace hr9 := hr9.symm
    subst hr9
    subst hw9
    replace h := rsum_inr h
    replace hc_p2 := ho2 a_p2 _ hc_p2 (Ne.symm n_p0_slot0_p2) (Ne.symm n_p0_slot1_p2) (Ne.symm n_p0_slot1_kept_p2) (Ne.symm n_p0_slot1_kept_before0_p2) (Ne.symm n_p0_slot1_kept_before1_p2) (Ne.symm n_p0_slot0_kept_p2) (Ne.symm n_p0_slot0_kept_before0_p2) (Ne.symm n_p0_slot0_kept_before1_p2)
    have hf8 := fun (q : Nat) (f : va_E) (hf : σ q = some f) (n0 : q ≠ a_p2) (n1 : q ≠ a_p0_slot0) (n2 : q ≠ a_p0_slot1) (n3 : q ≠ a_p0_slot1_kept) (n4 : q ≠ a_p0_slot1_kept_before0) (n5 : q ≠ a_p0_slot1_kept_before1) (n6 : q ≠ a_p0_slot0_kept) (n7 : q ≠ a_p0_slot0_kept_before0) (n8 : q ≠ a_p0_slot0_kept_before1) => ho2 q f hf n1 n2 n3 n4 n5 n6 n7 n8
    refine W.widen (k := 1) (n := 6) (Nat.le_of_ble_eq_true rfl) (Nat.le_of_ble_eq_true rfl) ?_
    refine lv_i2l hx hb dL_save_7 rfl ?_
    obtain ⟨c9, h⟩ := gd_some h
    refine mw_stJ hC hM hS hc_p2 (inB_ok c9) dL_save_8 (fun H locs σ1 hM hS hc_p2 ho10 => ?_)
    replace hc_p2 : σ1 a_p2 = some (eJ K 1 (vp_updL f_p2 (0 : Int32).toNatClampNeg w6.1.toInt64)) := hc_p2
    replace hc_p0_slot0 := ho10 a_p0_slot0 _ hc_p0_slot0 n_p0_slot0_p2
    replace hc_p0_slot1 := ho10 a_p0_slot1 _ hc_p0_slot1 n_p0_slot1_p2
    replace hc_p0_slot1_kept := ho10 a_p0_slot1_kept _ hc_p0_slot1_kept n_p0_slot1_kept_p2
    replace hc_p0_slot1_kept_before0 := ho10 a_p0_slot1_kept_before0 _ hc_p0_slot1_kept_before0 n_p0_slot1_kept_before0_p2
    replace hc_p0_slot1_kept_before1 := ho10 a_p0_slot1_kept_before1 _ hc_p0_slot1_kept_before1 n_p0_slot1_kept_before1_p2
    replace hc_p0_slot0_kept := ho10 a_p0_slot0_kept _ hc_p0_slot0_kept n_p0_slot0_kept_p2
    replace hc_p0_slot0_kept_before0 := ho10 a_p0_slot0_kept_before0 _ hc_p0_slot0_kept_before0 n_p0_slot0_kept_before0_p2
    replace hc_p0_slot0_kept_before1 := ho10 a_p0_slot0_kept_before1 _ hc_p0_slot0_kept_before1 n_p0_slot0_kept_before1_p2
    have hf11 := fun (q : Nat) (f : va_E) (hf : σ q = some f) (n0 : q ≠ a_p2) (n1 : q ≠ a_p0_slot0) (n2 : q ≠ a_p0_slot1) (n3 : q ≠ a_p0_slot1_kept) (n4 : q ≠ a_p0_slot1_kept_before0) (n5 : q ≠ a_p0_slot1_kept_before1) (n6 : q ≠ a_p0_slot0_kept) (n7 : q ≠ a_p0_slot0_kept_before0) (n8 : q ≠ a_p0_slot0_kept_before1) => ho10 q f (hf8 q f hf n0 n1 n2 n3 n4 n5 n6 n7 n8) n0
    refine lv_goto (tgt := 15) hx hb dL_save_9 (by decide) ?_
    refine lv_iconst (v := 0) hx hb dL_save_15 (by decide) ?_
    cases h
    replace hc_p0_slot0_kept : σ1 a_p0_slot0_kept = some (cl0 a_p0_slot0_kept_before0 a_p0_slot0_kept_before1 (if (0 : Int32) = 0 then (if p1 = 0 then a_p0_now_grid else a_p0_slot0_kept_grid) else a_p0_slot0_kept_grid) w6.2.2.2.2.2.2.1) := by
      first | (rw [if_pos (by assumption)]; exact hc_p0_slot0_kept) | (rw [if_neg (by assumption)]; exact hc_p0_slot0_kept) | (rw [if_neg (by decide)]; exact hc_p0_slot0_kept) | (rw [if_pos (by decide)]; exact hc_p0_slot0_kept)
    replace hc_p0_slot1_kept : σ1 a_p0_slot1_kept = some (cl0 a_p0_slot1_kept_before0 a_p0_slot1_kept_before1 (if (0 : Int32) = 0 then (if p1 = 0 then a_p0_slot1_kept_grid else a_p0_now_grid) else a_p0_slot1_kept_grid) w6.2.2.2.1) := by
      first | (rw [if_pos (by assumption)]; exact hc_p0_slot1_kept) | (rw [if_neg (by assumption)]; exact hc_p0_slot1_kept) | (rw [if_neg (by decide)]; exact hc_p0_slot1_kept) | (rw [if_pos (by decide)]; exact hc_p0_slot1_kept)
    exact W.iret hx hb hr (fun t ht hW => ⟨⟨_, _, rfl, ⟨rfl, hc_p2, hc_p0_slot0, hc_p0_slot1, hc_p0_slot1_kept, hc_p0_slot1_kept_before0, hc_p0_slot1_kept_before1, hc_p0_slot0_kept, hc_p0_slot0_kept_before0, hc_p0_slot0_kept_before1, hf11⟩, by show MW z D _ t.heap; rw [ht]; exact hM⟩, hS.F ht⟩) hS.2.2 dL_save_16 hlocks
theorem l_L_restore_0 : Cond.classLink RL 28 "java/lang/IndexOutOfBoundsException" ∈ wsL_restore := (List.mem_cons_of_mem _ (List.mem_append_left _ (List.mem_append_left _ (List.mem_append_left _ (List.mem_append_left _ (List.mem_append_left _ (List.mem_append_left _ (List.mem_append_left _ (List.mem_of_getElem? (i := 0) rfl)))))))))
theorem l_L_restore_1 : Cond.classLink RL 15 "java/lang/IllegalStateException" ∈ wsL_restore := (List.mem_cons_of_mem _ (List.mem_append_left _ (List.mem_append_left _ (List.mem_append_left _ (List.mem_append_left _ (List.mem_append_left _ (List.mem_append_left _ (List.mem_append_left _ (List.mem_of_getElem? (i := 1) rfl)))))))))
theorem q_L_restore : yL_restore.cls ≠ "java/lang/invoke/MethodHandle" ∧ yL_restore.cls ≠ "java/lang/invoke/VarHandle" ∧ (parseMethodDescriptor yL_restore.desc).map (fun d => d.parameters.length) = some 3 := by decide +kernel
def fL_restore (f_p2 : Nat → Int64) (w_p0_now : Int32 × Int32 × Int32 × Int32 × Int64 × Int64 × Int32 × Int32) (w_p0_memory : Int32 × Int32) (w_p0_slot0 : Bool) (w_p0_slot1 : Bool) (w_p0_slot1_kept : Int32 × Int32 × Int32 × Int32 × Int64 × Int64 × Int32 × Int32) (f_p0_now_before0 : Nat → Int64) (f_p0_now_before1 : Nat → Int64) (f_p0_slot1_kept_before0 : Nat → Int64) (f_p0_slot1_kept_before1 : Nat → Int64) (w_p0_slot0_kept : Int32 × Int32 × Int32 × Int32 × Int64 × Int64 × Int32 × Int32) (f_p0_slot0_kept_before0 : Nat → Int64) (f_p0_slot0_kept_before1 : Nat → Int64) (p1 : Int32) : Option (Int32 × (Nat → Int64) × (Int32 × Int32 × Int32 × Int32 × Int64 × Int64 × Int32 × Int32) × (Int32 × Int32) × (Nat → Int64) × (Nat → Int64)) := (fX7_restore w_p0_now w_p0_memory w_p0_slot0 w_p0_slot1 w_p0_slot1_kept f_p0_now_before0 f_p0_now_before1 f_p0_slot1_kept_before0 f_p0_slot1_kept_before1 w_p0_slot0_kept f_p0_slot0_kept_before0 f_p0_slot0_kept_before1 p1).bind fun r1 => rsum r1 (fun E4 => if E4 = "java/lang/IndexOutOfBoundsException" then (some (((1 : Int32), f_p2, w_p0_now, w_p0_memory, f_p0_now_before0, f_p0_now_before1))) else (if E4 = "java/lang/IllegalStateException" then (some (((2 : Int32), f_p2, w_p0_now, w_p0_memory, f_p0_now_before0, f_p0_now_before1))) else (none))) (fun w6 => if inB 0 1 = true then (some (((0 : Int32), (vp_updL f_p2 (0 : Int32).toNatClampNeg w6.1.toInt64), w6.2.1, w6.2.2.1, w6.2.2.2.1, w6.2.2.2.2))) else none)
set_option maxHeartbeats 4000000 in
set_option maxRecDepth 100000 in
theorem c_L_restore {l : Launch} {z : Nat} {D : va_G} {K : Nat → ClassId} {σ : mwm} {a_p0 a_p2 a_p0_text a_p0_now a_p0_copy a_p0_memory a_p0_slot0 a_p0_slot1 a_p0_slot1_kept a_p0_now_before0 a_p0_now_before1 a_p0_now_grid a_p0_slot1_kept_before0 a_p0_slot1_kept_before1 a_p0_slot1_kept_grid a_p0_memory_ring a_p0_slot0_kept a_p0_slot0_kept_before0 a_p0_slot0_kept_before1 a_p0_slot0_kept_grid : Nat} {f_p2 : Nat → Int64} {w_p0_now : Int32 × Int32 × Int32 × Int32 × Int64 × Int64 × Int32 × Int32} {w_p0_memory : Int32 × Int32} {w_p0_slot0 : Bool} {w_p0_slot1 : Bool} {w_p0_slot1_kept : Int32 × Int32 × Int32 × Int32 × Int64 × Int64 × Int32 × Int32} {f_p0_now_before0 : Nat → Int64} {f_p0_now_before1 : Nat → Int64} {f_p0_slot1_kept_before0 : Nat → Int64} {f_p0_slot1_kept_before1 : Nat → Int64} {w_p0_slot0_kept : Int32 × Int32 × Int32 × Int32 × Int64 × Int64 × Int32 × Int32} {f_p0_slot0_kept_before0 : Nat → Int64} {f_p0_slot0_kept_before1 : Nat → Int64} {p1 : Int32} (hc_p0 : σ a_p0 = some (cl5 a_p0_text a_p0_now a_p0_copy a_p0_memory a_p0_slot0 a_p0_slot1)) (hc_p2 : σ a_p2 = some (eJ K 1 f_p2)) (hc_p0_now : σ a_p0_now = some (cl0 a_p0_now_before0 a_p0_now_before1 a_p0_now_grid w_p0_now)) (hc_p0_memory : σ a_p0_memory = some (cl3 a_p0_memory_ring w_p0_memory)) (hc_p0_slot0 : σ a_p0_slot0 = some (cl4 a_p0_slot0_kept w_p0_slot0)) (hc_p0_slot1 : σ a_p0_slot1 = some (cl4 a_p0_slot1_kept w_p0_slot1)) (hc_p0_slot1_kept : σ a_p0_slot1_kept = some (cl0 a_p0_slot1_kept_before0 a_p0_slot1_kept_before1 a_p0_slot1_kept_grid w_p0_slot1_kept)) (hc_p0_now_before0 : σ a_p0_now_before0 = some (eJ K 121 f_p0_now_before0)) (hc_p0_now_before1 : σ a_p0_now_before1 = some (eJ K 121 f_p0_now_before1)) (hc_p0_slot1_kept_before0 : σ a_p0_slot1_kept_before0 = some (eJ K 121 f_p0_slot1_kept_before0)) (hc_p0_slot1_kept_before1 : σ a_p0_slot1_kept_before1 = some (eJ K 121 f_p0_slot1_kept_before1)) (hc_p0_slot0_kept : σ a_p0_slot0_kept = some (cl0 a_p0_slot0_kept_before0 a_p0_slot0_kept_before1 a_p0_slot0_kept_grid w_p0_slot0_kept)) (hc_p0_slot0_kept_before0 : σ a_p0_slot0_kept_before0 = some (eJ K 121 f_p0_slot0_kept_before0)) (hc_p0_slot0_kept_before1 : σ a_p0_slot0_kept_before1 = some (eJ K 121 f_p0_slot0_kept_before1)) (n_p0_p0_memory : a_p0 ≠ a_p0_memory) (n_p0_p0_now : a_p0 ≠ a_p0_now) (n_p0_p0_now_before0 : a_p0 ≠ a_p0_now_before0) (n_p0_p0_now_before1 : a_p0 ≠ a_p0_now_before1) (n_p0_memory_p0_now : a_p0_memory ≠ a_p0_now) (n_p0_memory_p0_now_before0 : a_p0_memory ≠ a_p0_now_before0) (n_p0_memory_p0_now_before1 : a_p0_memory ≠ a_p0_now_before1) (n_p0_memory_p2 : a_p0_memory ≠ a_p2) (n_p0_now_p0_now_before0 : a_p0_now ≠ a_p0_now_before0) (n_p0_now_p0_now_before1 : a_p0_now ≠ a_p0_now_before1) (n_p0_now_p0_slot0_kept : a_p0_now ≠ a_p0_slot0_kept) (n_p0_now_p0_slot0_kept_before0 : a_p0_now ≠ a_p0_slot0_kept_before0) (n_p0_now_p0_slot0_kept_before1 : a_p0_now ≠ a_p0_slot0_kept_before1) (n_p0_now_p0_slot1_kept : a_p0_now ≠ a_p0_slot1_kept) (n_p0_now_p0_slot1_kept_before0 : a_p0_now ≠ a_p0_slot1_kept_before0) (n_p0_now_p0_slot1_kept_before1 : a_p0_now ≠ a_p0_slot1_kept_before1) (n_p0_now_p2 : a_p0_now ≠ a_p2) (n_p0_now_before0_p0_now_before1 : a_p0_now_before0 ≠ a_p0_now_before1) (n_p0_now_before0_p0_slot0_kept : a_p0_now_before0 ≠ a_p0_slot0_kept) (n_p0_now_before0_p0_slot0_kept_before0 : a_p0_now_before0 ≠ a_p0_slot0_kept_before0) (n_p0_now_before0_p0_slot0_kept_before1 : a_p0_now_before0 ≠ a_p0_slot0_kept_before1) (n_p0_now_before0_p0_slot1_kept : a_p0_now_before0 ≠ a_p0_slot1_kept) (n_p0_now_before0_p0_slot1_kept_before0 : a_p0_now_before0 ≠ a_p0_slot1_kept_before0) (n_p0_now_before0_p0_slot1_kept_before1 : a_p0_now_before0 ≠ a_p0_slot1_kept_before1) (n_p0_now_before0_p2 : a_p0_now_before0 ≠ a_p2) (n_p0_now_before1_p0_slot0_kept : a_p0_now_before1 ≠ a_p0_slot0_kept) (n_p0_now_before1_p0_slot0_kept_before0 : a_p0_now_before1 ≠ a_p0_slot0_kept_before0) (n_p0_now_before1_p0_slot0_kept_before1 : a_p0_now_before1 ≠ a_p0_slot0_kept_before1) (n_p0_now_before1_p0_slot1_kept : a_p0_now_before1 ≠ a_p0_slot1_kept) (n_p0_now_before1_p0_slot1_kept_before0 : a_p0_now_before1 ≠ a_p0_slot1_kept_before0) (n_p0_now_before1_p0_slot1_kept_before1 : a_p0_now_before1 ≠ a_p0_slot1_kept_before1) (n_p0_now_before1_p2 : a_p0_now_before1 ≠ a_p2) (hlt : l.stackTraces = false) {v : Int32 × (Nat → Int64) × (Int32 × Int32 × Int32 × Int32 × Int64 × Int64 × Int32 × Int32) × (Int32 × Int32) × (Nat → Int64) × (Nat → Int64)} (h : fL_restore f_p2 w_p0_now w_p0_memory w_p0_slot0 w_p0_slot1 w_p0_slot1_kept f_p0_now_before0 f_p0_now_before1 f_p0_slot1_kept_before0 f_p0_slot1_kept_before1 w_p0_slot0_kept f_p0_slot0_kept_before0 f_p0_slot0_kept_before1 p1 = some v) : Met l yL_restore wsL_restore ({ frames := 7, cells := 1, slots := 6, locals := 121 } : Room) (PCx z D K [.ref a_p0, .int p1, .ref a_p2] σ) (qwI z D (fun r σ2 => r = v.1 ∧ σ2 a_p2 = some (eJ K 1 v.2.1) ∧ σ2 a_p0_now = some (cl0 a_p0_now_before0 a_p0_now_before1 (if v.1 = 0 then (if p1 = 0 then a_p0_slot0_kept_grid else a_p0_slot1_kept_grid) else a_p0_now_grid) v.2.2.1) ∧ σ2 a_p0_memory = some (cl3 a_p0_memory_ring v.2.2.2.1) ∧ σ2 a_p0_now_before0 = some (eJ K 121 v.2.2.2.2.1) ∧ σ2 a_p0_now_before1 = some (eJ K 121 v.2.2.2.2.2) ∧ ∀ (q : Nat) (f : va_E), σ q = some f → q ≠ a_p2 → q ≠ a_p0_now → q ≠ a_p0_memory → q ≠ a_p0_now_before0 → q ≠ a_p0_now_before1 → σ2 q = some f)) 1 6 (zA z) := by
  refine mh_enter (cc := cL_restore) (maxL := 4) (ret := (some .int)) (own := RL) (lv := [(0, .ref a_p0), (1, .int p1), (2, .ref a_p2)]) (by decide) rfl rfl (Nat.le_of_ble_eq_true rfl) rfl ?_
  intro p e s m below meth c ls hC hx hb hown hts hK hr hlocks hnm hz hM hS hl hX hex
  unfold fL_restore at h
  refine lv_aload_n hx hb dL_restore_0 rfl (lv_at hl 2 rfl) ?_
  refine lv_iconst (v := 0) hx hb dL_restore_1 (by decide) ?_
  refine lv_aload_n hx hb dL_restore_2 rfl (lv_at hl 0 rfl) ?_
  refine lv_iload_n hx hb dL_restore_3 rfl (lv_at hl 1 rfl) ?_
  obtain ⟨r1, hr1, h⟩ := ob_some h
  refine mx_ci (mx_runV (As := [.int p1]) (rest := [.int 0, .ref a_p2]) (ci := 5) (C := RX7) (T := TX7) (N := 6) hC hX hM hS hc_p0 rfl (c_X7_restore (a_t := a_p0) (a_t_text := a_p0_text) (a_t_now := a_p0_now) (a_t_copy := a_p0_copy) (a_t_memory := a_p0_memory) (a_t_slot0 := a_p0_slot0) (a_t_slot1 := a_p0_slot1) (a_t_slot1_kept := a_p0_slot1_kept) (a_t_now_before0 := a_p0_now_before0) (a_t_now_before1 := a_p0_now_before1) (a_t_now_grid := a_p0_now_grid) (a_t_slot1_kept_before0 := a_p0_slot1_kept_before0) (a_t_slot1_kept_before1 := a_p0_slot1_kept_before1) (a_t_slot1_kept_grid := a_p0_slot1_kept_grid) (a_t_memory_ring := a_p0_memory_ring) (a_t_slot0_kept := a_p0_slot0_kept) (a_t_slot0_kept_before0 := a_p0_slot0_kept_before0) (a_t_slot0_kept_before1 := a_p0_slot0_kept_before1) (a_t_slot0_kept_grid := a_p0_slot0_kept_grid) (w_t_now := w_p0_now) (w_t_memory := w_p0_memory) (w_t_slot0 := w_p0_slot0) (w_t_slot1 := w_p0_slot1) (w_t_slot1_kept := w_p0_slot1_kept) (f_t_now_before0 := f_p0_now_before0) (f_t_now_before1 := f_p0_now_before1) (f_t_slot1_kept_before0 := f_p0_slot1_kept_before0) (f_t_slot1_kept_before1 := f_p0_slot1_kept_before1) (w_t_slot0_kept := w_p0_slot0_kept) (f_t_slot0_kept_before0 := f_p0_slot0_kept_before0) (f_t_slot0_kept_before1 := f_p0_slot0_kept_before1) (p0 := p1) (hc_t := hc_p0) (hc_t_now := hc_p0_now) (hc_t_memory := hc_p0_memory) (hc_t_slot0 := hc_p0_slot0) (hc_t_slot1 := hc_p0_slot1) (hc_t_slot1_kept := hc_p0_slot1_kept) (hc_t_now_before0 := hc_p0_now_before0) (hc_t_now_before1 := hc_p0_now_before1) (hc_t_slot1_kept_before0 := hc_p0_slot1_kept_before0) (hc_t_slot1_kept_before1 := hc_p0_slot1_kept_before1) (hc_t_slot0_kept := hc_p0_slot0_kept) (hc_t_slot0_kept_before0 := hc_p0_slot0_kept_before0) (hc_t_slot0_kept_before1 := hc_p0_slot0_kept_before1) (n_t_t_memory := n_p0_p0_memory) (n_t_t_now := n_p0_p0_now) (n_t_t_now_before0 := n_p0_p0_now_before0) (n_t_t_now_before1 := n_p0_p0_now_before1) (n_t_memory_t_now := n_p0_memory_p0_now) (n_t_memory_t_now_before0 := n_p0_memory_p0_now_before0) (n_t_memory_t_now_before1 := n_p0_memory_p0_now_before1) (n_t_now_t_now_before0 := n_p0_now_p0_now_before0) (n_t_now_t_now_before1 := n_p0_now_p0_now_before1) (n_t_now_t_slot0_kept := n_p0_now_p0_slot0_kept) (n_t_now_t_slot0_kept_before0 := n_p0_now_p0_slot0_kept_before0) (n_t_now_t_slot0_kept_before1 := n_p0_now_p0_slot0_kept_before1) (n_t_now_t_slot1_kept := n_p0_now_p0_slot1_kept) (n_t_now_t_slot1_kept_before0 := n_p0_now_p0_slot1_kept_before0) (n_t_now_t_slot1_kept_before1 := n_p0_now_p0_slot1_kept_before1) (n_t_now_before0_t_now_before1 := n_p0_now_before0_p0_now_before1) (n_t_now_before0_t_slot0_kept := n_p0_now_before0_p0_slot0_kept) (n_t_now_before0_t_slot0_kept_before0 := n_p0_now_before0_p0_slot0_kept_before0) (n_t_now_before0_t_slot0_kept_before1 := n_p0_now_before0_p0_slot0_kept_before1) (n_t_now_before0_t_slot1_kept := n_p0_now_before0_p0_slot1_kept) (n_t_now_before0_t_slot1_kept_before0 := n_p0_now_before0_p0_slot1_kept_before0) (n_t_now_before0_t_slot1_kept_before1 := n_p0_now_before0_p0_slot1_kept_before1) (n_t_now_before1_t_slot0_kept := n_p0_now_before1_p0_slot0_kept) (n_t_now_before1_t_slot0_kept_before0 := n_p0_now_before1_p0_slot0_kept_before0) (n_t_now_before1_t_slot0_kept_before1 := n_p0_now_before1_p0_slot0_kept_before1) (n_t_now_before1_t_slot1_kept := n_p0_now_before1_p0_slot1_kept) (n_t_now_before1_t_slot1_kept_before0 := n_p0_now_before1_p0_slot1_kept_before0) (n_t_now_before1_t_slot1_kept_before1 := n_p0_now_before1_p0_slot1_kept_before1) (hlt := hlt) (v := r1) hr1) gL_restore_X7_restore rfl rfl rfl rfl q_X7_restore ⟨Nat.le_of_ble_eq_true rfl, Nat.le_of_ble_eq_true rfl⟩ rfl rfl (Nat.le_of_ble_eq_true rfl) hl.1 dL_restore_4 ⟨Nat.le_of_ble_eq_true rfl, Nat.le_of_ble_eq_true rfl⟩) hS (fun E4 ce a_e5 H locs hvE hM hS hce hcv hcl => ?_) (fun r9 H locs σ1 hp3 hM hS => ?_)
  · subst hvE
    replace h := rsum_inl h
    by_cases c7 : E4 = "java/lang/IndexOutOfBoundsException"
    · replace h := it_pos c7 h
      subst c7
      refine vx_catch (name := "java/lang/IndexOutOfBoundsException") hown [] ⟨0, 9, 12, 28⟩ [⟨0, 9, 15, 15⟩] hex (fun _ h9 => by cases h9) (by decide) (by decide) (hts _ l_L_restore_0) (va_Nw.use rfl (xc_O hX)) hce hcv hcl ?_
      refine W.eq (g2 := F0 m 12 ls [.ref a_e5]) rfl ?_
      refine lv_astore_n (lv' := [(3, .ref a_e5), (0, .ref a_p0), (1, .int p1), (2, .ref a_p2)]) hx hb dL_restore_12 rfl hl (by decide) rfl (fun ls hl => ?_)
      refine lv_iconst (v := 1) hx hb dL_restore_13 (by decide) ?_
      cases h
      replace hc_p0_now : σ a_p0_now = some (cl0 a_p0_now_before0 a_p0_now_before1 (if (1 : Int32) = 0 then (if p1 = 0 then a_p0_slot0_kept_grid else a_p0_slot1_kept_grid) else a_p0_now_grid) w_p0_now) := by
        first | (rw [if_pos (by assumption)]; exact hc_p0_now) | (rw [if_neg (by assumption)]; exact hc_p0_now) | (rw [if_neg (by decide)]; exact hc_p0_now) | (rw [if_pos (by decide)]; exact hc_p0_now)
      exact W.iret hx hb hr (fun t ht hW => ⟨⟨_, _, rfl, ⟨rfl, hc_p2, hc_p0_now, hc_p0_memory, hc_p0_now_before0, hc_p0_now_before1, (fun _ _ h9 _ _ _ _ _ => h9)⟩, by show MW z D _ t.heap; rw [ht]; exact hM⟩, hS.F ht⟩) hS.2.2 dL_restore_14 hlocks
    replace h := it_neg c7 h
    by_cases c8 : E4 = "java/lang/IllegalStateException"
    · replace h := it_pos c8 h
      subst c8
      refine vx_catch (name := "java/lang/IllegalStateException") hown [⟨0, 9, 12, 28⟩] ⟨0, 9, 15, 15⟩ [] hex (fun x9 h9 => by rw [List.mem_singleton.mp h9]; exact Or.inr ⟨(by decide), _, hts _ l_L_restore_0, hX.2.2.2.2.2.2.2.1⟩) (by decide) (by decide) (hts _ l_L_restore_1) (va_Nw.use rfl (xc_S hX)) hce hcv hcl ?_
      refine W.eq (g2 := F0 m 15 ls [.ref a_e5]) rfl ?_
      refine lv_astore_n (lv' := [(3, .ref a_e5), (0, .ref a_p0), (1, .int p1), (2, .ref a_p2)]) hx hb dL_restore_15 rfl hl (by decide) rfl (fun ls hl => ?_)
      refine lv_iconst (v := 2) hx hb dL_restore_16 (by decide) ?_
      cases h
      replace hc_p0_now : σ a_p0_now = some (cl0 a_p0_now_before0 a_p0_now_before1 (if (2 : Int32) = 0 then (if p1 = 0 then a_p0_slot0_kept_grid else a_p0_slot1_kept_grid) else a_p0_now_grid) w_p0_now) := by
        first | (rw [if_pos (by assumption)]; exact hc_p0_now) | (rw [if_neg (by assumption)]; exact hc_p0_now) | (rw [if_neg (by decide)]; exact hc_p0_now) | (rw [if_pos (by decide)]; exact hc_p0_now)
      exact W.iret hx hb hr (fun t ht hW => ⟨⟨_, _, rfl, ⟨rfl, hc_p2, hc_p0_now, hc_p0_memory, hc_p0_now_before0, hc_p0_now_before1, (fun _ _ h9 _ _ _ _ _ => h9)⟩, by show MW z D _ t.heap; rw [ht]; exact hM⟩, hS.F ht⟩) hS.2.2 dL_restore_17 hlocks
    replace h := it_neg c8 h
    cases h
  · obtain ⟨w6, hw9, hr9, hc_p0_now, hc_p0_memory, hc_p0_now_before0, hc_p0_now_before1, ho2⟩ := hp3
    replace hr9 := hr9.symm
    subst hr9
    subst hw9
    replace h := rsum_inr h
    replace hc_p2 := ho2 a_p2 _ hc_p2 (Ne.symm n_p0_now_p2) (Ne.symm n_p0_memory_p2) (Ne.symm n_p0_now_before0_p2) (Ne.symm n_p0_now_before1_p2)
    have hf9 := fun (q : Nat) (f : va_E) (hf : σ q = some f) (n0 : q ≠ a_p2) (n1 : q ≠ a_p0_now) (n2 : q ≠ a_p0_memory) (n3 : q ≠ a_p0_now_before0) (n4 : q ≠ a_p0_now_before1) => ho2 q f hf n1 n2 n3 n4
    refine W.widen (k := 1) (n := 6) (Nat.le_of_ble_eq_true rfl) (Nat.le_of_ble_eq_true rfl) ?_
    refine lv_i2l hx hb dL_restore_7 rfl ?_
    obtain ⟨c10, h⟩ := gd_some h
    refine mw_stJ hC hM hS hc_p2 (inB_ok c10) dL_restore_8 (fun H locs σ1 hM hS hc_p2 ho11 => ?_)
    replace hc_p2 : σ1 a_p2 = some (eJ K 1 (vp_updL f_p2 (0 : Int32).toNatClampNeg w6.1.toInt64)) := hc_p2
    replace hc_p0_now := ho11 a_p0_now _ hc_p0_now n_p0_now_p2
    replace hc_p0_memory := ho11 a_p0_memory _ hc_p0_memory n_p0_memory_p2
    replace hc_p0_now_before0 := ho11 a_p0_now_before0 _ hc_p0_now_before0 n_p0_now_before0_p2
    replace hc_p0_now_before1 := ho11 a_p0_now_before1 _ hc_p0_now_before1 n_p0_now_before1_p2
    have hf12 := fun (q : Nat) (f : va_E) (hf : σ q = some f) (n0 : q ≠ a_p2) (n1 : q ≠ a_p0_now) (n2 : q ≠ a_p0_memory) (n3 : q ≠ a_p0_now_before0) (n4 : q ≠ a_p0_now_before1) => ho11 q f (hf9 q f hf n0 n1 n2 n3 n4) n0
    refine lv_goto (tgt := 18) hx hb dL_restore_9 (by decide) ?_
    refine lv_iconst (v := 0) hx hb dL_restore_18 (by decide) ?_
    cases h
    replace hc_p0_now : σ1 a_p0_now = some (cl0 a_p0_now_before0 a_p0_now_before1 (if (0 : Int32) = 0 then (if p1 = 0 then a_p0_slot0_kept_grid else a_p0_slot1_kept_grid) else a_p0_now_grid) w6.2.1) := by
      first | (rw [if_pos (by assumption)]; exact hc_p0_now) | (rw [if_neg (by assumption)]; exact hc_p0_now) | (rw [if_neg (by decide)]; exact hc_p0_now) | (rw [if_pos (by decide)]; exact hc_p0_now)
    exact W.iret hx hb hr (fun t ht hW => ⟨⟨_, _, rfl, ⟨rfl, hc_p2, hc_p0_now, hc_p0_memory, hc_p0_now_before0, hc_p0_now_before1, hf12⟩, by show MW z D _ t.heap; rw [ht]; exact hM⟩, hS.F ht⟩) hS.2.2 dL_restore_19 hlocks
