theorem q_X8_clear : yX8_clear.cls ≠ "java/lang/invoke/MethodHandle" ∧ yX8_clear.cls ≠ "java/lang/invoke/VarHandle" ∧ (parseMethodDescriptor yX8_clear.desc).map (fun d => d.parameters.length) = some 2 := by decide +kernel
def fX8_clear_2 (f_p0 : Nat → Int64) (p1 : Int32) : Nat → Int32 → (Nat → Int64) → Option ((Nat → Int64))
  | 0, _, _ => none
  | fu + 1, x2, g_p0 => if 250 ≤ x2 then (if inB 0 250 = true then (some ((vp_updL g_p0 (0 : Int32).toNatClampNeg p1.toInt64))) else none) else (if x2 = 1 then (if inB x2 250 = true then (if inB x2 250 = true then (fX8_clear_2 f_p0 p1 fu (x2 + 1) (vp_updL g_p0 x2.toNatClampNeg (g_p0 x2.toNatClampNeg))) else none) else none) else (if inB x2 250 = true then (fX8_clear_2 f_p0 p1 fu (x2 + 1) (vp_updL g_p0 x2.toNatClampNeg 0)) else none))
def fX8_clear (f_p0 : Nat → Int64) (p1 : Int32) : Option ((Nat → Int64)) := fX8_clear_2 f_p0 p1 5000 0 f_p0
set_option maxHeartbeats 4000000 in
set_option maxRecDepth 100000 in
theorem c_X8_clear {l : Launch} {z : Nat} {D : va_G} {K : Nat → ClassId} {σ : mwm} {a_p0 : Nat} {f_p0 : Nat → Int64} {p1 : Int32} (hc_p0 : σ a_p0 = some (eJ K 250 f_p0)) {v : (Nat → Int64)} (h : fX8_clear f_p0 p1 = some v) : Met l yX8_clear wsX8_clear ({ frames := 0, cells := 0, slots := 0, locals := 0 } : Room) (PCm z D K [.ref a_p0, .int p1] σ) (qwV z D (fun σ2 => σ2 a_p0 = some (eJ K 250 v) ∧ ∀ (q : Nat) (f : va_E), σ q = some f → q ≠ a_p0 → σ2 q = some f)) 0 0 (zA z) := by
  refine mt_enter (cc := cX8_clear) (maxL := 3) (ret := none) (own := RX8) (lv := [(0, .ref a_p0), (1, .int p1)]) (by decide) rfl rfl (Nat.le_of_ble_eq_true rfl) rfl ?_
  intro p e s m below meth c ls hC hx hb hown hts hK hr hlocks hnm hz hM hS hl
  unfold fX8_clear at h
  refine lv_iconst (v := 0) hx hb dX8_clear_0 (by decide) ?_
  refine lv_istore_n (lv' := [(2, .int 0), (0, .ref a_p0), (1, .int p1)]) hx hb dX8_clear_1 rfl hl (by decide) rfl (fun ls hl => ?_)
  have L2 : ∀ (fu0 : Nat) (x2 : Int32) (g_p0 : Nat → Int64) (H : Heap) (locs : List Loc) (σ1 : mwm), MW z D σ1 H → va_S (zA z) s.heap H locs → σ1 a_p0 = some (eJ K 250 g_p0) → (∀ (q : Nat) (f : va_E), σ q = some f → q ≠ a_p0 → σ1 q = some f) → fX8_clear_2 f_p0 p1 fu0 x2 g_p0 = some v → ∀ ls : Array Slot, lv_has ls 3 [(2, .int x2), (0, .ref a_p0), (1, .int p1)] → W p l e ({ frames := 0, cells := 0, slots := 0, locals := 0 } : Room) s m ([.ref a_p0, .int p1] : List Value).toArray below meth c H locs 0 0 (MQ below (qwV z D (fun σ2 => σ2 a_p0 = some (eJ K 250 v) ∧ ∀ (q : Nat) (f : va_E), σ q = some f → q ≠ a_p0 → σ2 q = some f)) ([.ref a_p0, .int p1] : List Value).toArray s 0 0 (zA z)) (F0 m 2 ls []) := by
    intro fu0
    induction fu0 with
    | zero =>
      intro x2 g_p0 H locs σ1 hM hS hc_p0 hfL h
      unfold fX8_clear_2 at h
      cases h
    | succ fu0 ih0 =>
      intro x2 g_p0 H locs σ1 hM hS hc_p0 hfL h ls hl
      unfold fX8_clear_2 at h
      refine lv_iload_n hx hb dX8_clear_2 rfl (lv_at hl 0 rfl) ?_
      refine lv_sipush (v := 250) hx hb dX8_clear_3 (by decide) ?_
      refine lv_icmp_ge (tgt := 30) hx hb dX8_clear_6 (by decide) (fun c1 => ?_) (fun c1 => ?_)
      · replace h := it_pos c1 h
        refine lv_aload_n hx hb dX8_clear_30 rfl (lv_at hl 1 rfl) ?_
        refine lv_iconst (v := 0) hx hb dX8_clear_31 (by decide) ?_
        refine lv_iload_n hx hb dX8_clear_32 rfl (lv_at hl 2 rfl) ?_
        refine lv_i2l hx hb dX8_clear_33 rfl ?_
        obtain ⟨c2, h⟩ := gd_some h
        refine mw_stJ hC hM hS hc_p0 (inB_ok c2) dX8_clear_34 (fun H locs σ1 hM hS hc_p0 ho3 => ?_)
        replace hc_p0 : σ1 a_p0 = some (eJ K 250 (vp_updL g_p0 (0 : Int32).toNatClampNeg p1.toInt64)) := hc_p0
        have hf4 := fun (q : Nat) (f : va_E) (hf : σ q = some f) (n0 : q ≠ a_p0) => ho3 q f (hfL q f hf n0) n0
        cases h
        exact W.vret hx hb hr (fun t ht hW => ⟨⟨_, rfl, ⟨hc_p0, hf4⟩, by show MW z D _ t.heap; rw [ht]; exact hM⟩, hS.F ht⟩) hS.2.2 dX8_clear_35 hlocks
      · replace h := it_neg c1 h
        refine lv_aload_n hx hb dX8_clear_9 rfl (lv_at hl 1 rfl) ?_
        refine lv_iload_n hx hb dX8_clear_10 rfl (lv_at hl 0 rfl) ?_
        refine lv_iload_n hx hb dX8_clear_11 rfl (lv_at hl 0 rfl) ?_
        refine lv_iconst (v := 1) hx hb dX8_clear_12 (by decide) ?_
        refine lv_icmp_ne (tgt := 22) hx hb dX8_clear_13 (by decide) (fun c5 => ?_) (fun c5 => ?_)
        · replace h := it_neg c5 h
          refine lv_lconst (v := 0) hx hb dX8_clear_22 (by decide) ?_
          obtain ⟨c6, h⟩ := gd_some h
          refine mw_stJ hC hM hS hc_p0 (inB_ok c6) dX8_clear_23 (fun H locs σ1 hM hS hc_p0 ho7 => ?_)
          replace hc_p0 : σ1 a_p0 = some (eJ K 250 (vp_updL g_p0 x2.toNatClampNeg 0)) := hc_p0
          have hf8 := fun (q : Nat) (f : va_E) (hf : σ q = some f) (n0 : q ≠ a_p0) => ho7 q f (hfL q f hf n0) n0
          refine lv_iinc (v := (x2 + 1)) (lv' := [(2, .int (x2 + 1)), (0, .ref a_p0), (1, .int p1)]) hx hb dX8_clear_24 hl (k := 0) rfl rfl (by decide) rfl (fun ls hl => ?_)
          refine lv_goto (tgt := 2) hx hb dX8_clear_27 (by decide) ?_
          exact ih0 (x2 + 1) (vp_updL g_p0 x2.toNatClampNeg 0) _ _ _ hM hS hc_p0 hf8 h ls (lv_sub hl [0, 1, 2] rfl)
        · replace h := it_pos c5 h
          refine lv_aload_n hx hb dX8_clear_16 rfl (lv_at hl 1 rfl) ?_
          refine lv_iload_n hx hb dX8_clear_17 rfl (lv_at hl 0 rfl) ?_
          obtain ⟨c9, h⟩ := gd_some h
          refine mw_ldJ hC hM hc_p0 (inB_ok c9) dX8_clear_18 ?_
          refine lv_goto (tgt := 23) hx hb dX8_clear_19 (by decide) ?_
          obtain ⟨c10, h⟩ := gd_some h
          refine mw_stJ hC hM hS hc_p0 (inB_ok c10) dX8_clear_23 (fun H locs σ1 hM hS hc_p0 ho11 => ?_)
          replace hc_p0 : σ1 a_p0 = some (eJ K 250 (vp_updL g_p0 x2.toNatClampNeg (g_p0 x2.toNatClampNeg))) := hc_p0
          have hf12 := fun (q : Nat) (f : va_E) (hf : σ q = some f) (n0 : q ≠ a_p0) => ho11 q f (hfL q f hf n0) n0
          refine lv_iinc (v := (x2 + 1)) (lv' := [(2, .int (x2 + 1)), (0, .ref a_p0), (1, .int p1)]) hx hb dX8_clear_24 hl (k := 0) rfl rfl (by decide) rfl (fun ls hl => ?_)
          refine lv_goto (tgt := 2) hx hb dX8_clear_27 (by decide) ?_
          exact ih0 (x2 + 1) (vp_updL g_p0 x2.toNatClampNeg (g_p0 x2.toNatClampNeg)) _ _ _ hM hS hc_p0 hf12 h ls (lv_sub hl [0, 1, 2] rfl)
  exact L2 5000 0 f_p0 _ _ _ hM hS hc_p0 (fun _ _ h9 _ => h9) h ls (lv_sub hl [0, 1, 2] rfl)
theorem l_X8_thrown_0 : Cond.fieldLink RX8 43 "CornerStonesModel" "refusal" "I" ∈ wsX8_thrown := (List.mem_cons_of_mem _ (List.mem_append_left _ (List.mem_of_getElem? (i := 0) rfl)))
theorem i_X8_thrown_X8 : ∀ w ∈ wsX80, w ∈ wsX8_thrown := fun _ h => (List.mem_cons_of_mem _ (List.mem_append_right _ h))
theorem q_X8_thrown : yX8_thrown.cls ≠ "java/lang/invoke/MethodHandle" ∧ yX8_thrown.cls ≠ "java/lang/invoke/VarHandle" ∧ (parseMethodDescriptor yX8_thrown.desc).map (fun d => d.parameters.length) = some 0 := by decide +kernel
def fX8_thrown (w_t : Int32 × Int32 × Int32 × Int64 × Int64 × Int32 × Int64 × Int32 × Int32 × Int32) : Int32 := (w_t.1)
set_option maxHeartbeats 4000000 in
set_option maxRecDepth 100000 in
theorem c_X8_thrown {l : Launch} {z : Nat} {D : va_G} {K : Nat → ClassId} {σ : mwm} {a_t a_t_text a_t_now a_t_trial a_t_diary a_t_kept a_t_isKept a_t_owners a_t_chasers a_t_lefts : Nat} {w_t : Int32 × Int32 × Int32 × Int64 × Int64 × Int32 × Int64 × Int32 × Int32 × Int32} (hc_t : σ a_t = some (cl6 a_t_text a_t_now a_t_trial a_t_diary a_t_kept a_t_isKept a_t_owners a_t_chasers a_t_lefts w_t)) {v : Int32} (h : fX8_thrown w_t = v) : Met l yX8_thrown wsX8_thrown ({ frames := 0, cells := 0, slots := 0, locals := 0 } : Room) (PCm z D K [.ref a_t] σ) (qsI v) 0 0 (fun _ => False) := by
  refine mt_enter (cc := cX8_thrown) (maxL := 1) (ret := (some .int)) (own := RX8) (lv := [(0, .ref a_t)]) (by decide) rfl rfl (Nat.le_of_ble_eq_true rfl) rfl ?_
  intro p e s m below meth c ls hC hx hb hown hts hK hr hlocks hnm hz hM hS hl
  unfold fX8_thrown at h
  refine lv_aload_n hx hb dX8_thrown_0 rfl (lv_at hl 0 rfl) ?_
  refine mw_get (ci := 6) (C := RX8) (T := TX8) (N := 19) (v := .int w_t.1) hC i_X8_thrown_X8 hM hc_t rfl 0 (by decide) l_X8_thrown_0 rfl rfl dX8_thrown_1 ?_
  subst h
  exact W.iret hx hb hr (fun t ht hW => ⟨_, rfl, rfl, ht⟩) (fun _ h9 => by cases h9) dX8_thrown_4 hlocks
theorem l_X8_refused_0 : Cond.fieldLink RX8 43 "CornerStonesModel" "refusal" "I" ∈ wsX8_refused := (List.mem_cons_of_mem _ (List.mem_append_left _ (List.mem_of_getElem? (i := 0) rfl)))
theorem i_X8_refused_X8 : ∀ w ∈ wsX80, w ∈ wsX8_refused := fun _ h => (List.mem_cons_of_mem _ (List.mem_append_right _ h))
theorem q_X8_refused : yX8_refused.cls ≠ "java/lang/invoke/MethodHandle" ∧ yX8_refused.cls ≠ "java/lang/invoke/VarHandle" ∧ (parseMethodDescriptor yX8_refused.desc).map (fun d => d.parameters.length) = some 1 := by decide +kernel
def fX8_refused (w_t : Int32 × Int32 × Int32 × Int64 × Int64 × Int32 × Int64 × Int32 × Int32 × Int32) (p0 : Int32) : Bool × (Int32 × Int32 × Int32 × Int64 × Int64 × Int32 × Int64 × Int32 × Int32 × Int32) := if p0 ≤ 0 then (((false, (p0, w_t.2.1, w_t.2.2.1, w_t.2.2.2.1, w_t.2.2.2.2.1, w_t.2.2.2.2.2.1, w_t.2.2.2.2.2.2.1, w_t.2.2.2.2.2.2.2.1, w_t.2.2.2.2.2.2.2.2.1, w_t.2.2.2.2.2.2.2.2.2)))) else (((true, (p0, w_t.2.1, w_t.2.2.1, w_t.2.2.2.1, w_t.2.2.2.2.1, w_t.2.2.2.2.2.1, w_t.2.2.2.2.2.2.1, w_t.2.2.2.2.2.2.2.1, w_t.2.2.2.2.2.2.2.2.1, w_t.2.2.2.2.2.2.2.2.2))))
set_option maxHeartbeats 4000000 in
set_option maxRecDepth 100000 in
theorem c_X8_refused {l : Launch} {z : Nat} {D : va_G} {K : Nat → ClassId} {σ : mwm} {a_t a_t_text a_t_now a_t_trial a_t_diary a_t_kept a_t_isKept a_t_owners a_t_chasers a_t_lefts : Nat} {w_t : Int32 × Int32 × Int32 × Int64 × Int64 × Int32 × Int64 × Int32 × Int32 × Int32} {p0 : Int32} (hc_t : σ a_t = some (cl6 a_t_text a_t_now a_t_trial a_t_diary a_t_kept a_t_isKept a_t_owners a_t_chasers a_t_lefts w_t)) {v : Bool × (Int32 × Int32 × Int32 × Int64 × Int64 × Int32 × Int64 × Int32 × Int32 × Int32)} (h : fX8_refused w_t p0 = v) : Met l yX8_refused wsX8_refused ({ frames := 0, cells := 0, slots := 0, locals := 0 } : Room) (PCm z D K [.ref a_t, .int p0] σ) (qwI z D (fun r σ2 => r = b2i v.1 ∧ σ2 a_t = some (cl6 a_t_text a_t_now a_t_trial a_t_diary a_t_kept a_t_isKept a_t_owners a_t_chasers a_t_lefts v.2) ∧ ∀ (q : Nat) (f : va_E), σ q = some f → q ≠ a_t → σ2 q = some f)) 0 0 (zA z) := by
  refine mt_enter (cc := cX8_refused) (maxL := 2) (ret := (some .boolean)) (own := RX8) (lv := [(0, .ref a_t), (1, .int p0)]) (by decide) rfl rfl (Nat.le_of_ble_eq_true rfl) rfl ?_
  intro p e s m below meth c ls hC hx hb hown hts hK hr hlocks hnm hz hM hS hl
  unfold fX8_refused at h
  refine lv_aload_n hx hb dX8_refused_0 rfl (lv_at hl 0 rfl) ?_
  refine lv_iload_n hx hb dX8_refused_1 rfl (lv_at hl 1 rfl) ?_
  refine mw_put (ci := 6) (C := RX8) (T := TX8) (N := 19) (ty := .int) hC i_X8_refused_X8 tyX8 tyX8_ok nmX8 hM hS hc_t rfl 0 (by decide) l_X8_refused_0 rfl rfl (by decide +kernel) rfl rfl (Nat.le_of_ble_eq_true rfl) dX8_refused_2 (fun H locs σ1 hM hS hc_t ho1 => ?_)
  replace hc_t : σ1 a_t = some (cl6 a_t_text a_t_now a_t_trial a_t_diary a_t_kept a_t_isKept a_t_owners a_t_chasers a_t_lefts (p0, w_t.2.1, w_t.2.2.1, w_t.2.2.2.1, w_t.2.2.2.2.1, w_t.2.2.2.2.2.1, w_t.2.2.2.2.2.2.1, w_t.2.2.2.2.2.2.2.1, w_t.2.2.2.2.2.2.2.2.1, w_t.2.2.2.2.2.2.2.2.2)) := hc_t
  have hf2 := fun (q : Nat) (f : va_E) (hf : σ q = some f) (n0 : q ≠ a_t) => ho1 q f hf n0
  refine lv_iload_n hx hb dX8_refused_5 rfl (lv_at hl 1 rfl) ?_
  refine lv_if_le (tgt := 13) hx hb dX8_refused_6 (by decide) (fun c3 => ?_) (fun c3 => ?_)
  · replace h := it_pos c3 h
    refine lv_iconst (v := 0) hx hb dX8_refused_13 (by decide) ?_
    subst h
    exact W.zret (ty := .boolean) (v := b2i false) hx hb hr (b2i_nar _) (fun t ht hW => ⟨⟨_, _, rfl, ⟨rfl, hc_t, hf2⟩, by show MW z D _ t.heap; rw [ht]; exact hM⟩, hS.F ht⟩) hS.2.2 dX8_refused_14 hlocks
  · replace h := it_neg c3 h
    refine lv_iconst (v := 1) hx hb dX8_refused_9 (by decide) ?_
    refine lv_goto (tgt := 14) hx hb dX8_refused_10 (by decide) ?_
    subst h
    exact W.zret (ty := .boolean) (v := b2i true) hx hb hr (b2i_nar _) (fun t ht hW => ⟨⟨_, _, rfl, ⟨rfl, hc_t, hf2⟩, by show MW z D _ t.heap; rw [ht]; exact hM⟩, hS.F ht⟩) hS.2.2 dX8_refused_14 hlocks
theorem q_X8_in : yX8_in.cls ≠ "java/lang/invoke/MethodHandle" ∧ yX8_in.cls ≠ "java/lang/invoke/VarHandle" ∧ (parseMethodDescriptor yX8_in.desc).map (fun d => d.parameters.length) = some 3 := by decide +kernel
def fX8_in (p0 : Int64) (p1 : Int64) (p2 : Int64) : Bool := if p0 < p1 then ((false)) else (if p2 < p0 then ((false)) else ((true)))
set_option maxHeartbeats 4000000 in
set_option maxRecDepth 100000 in
theorem c_X8_in {l : Launch} {z : Nat} {D : va_G} {K : Nat → ClassId} {σ : mwm} {p0 : Int64} {p1 : Int64} {p2 : Int64} {v : Bool} (h : fX8_in p0 p1 p2 = v) : Met l yX8_in wsX8_in ({ frames := 0, cells := 0, slots := 0, locals := 0 } : Room) (PCm z D K [.long p0, .long p1, .long p2] σ) (qsI (b2i v)) 0 0 (fun _ => False) := by
  refine mt_enter (cc := cX8_in) (maxL := 6) (ret := (some .boolean)) (own := RX8) (lv := [(0, .long p0), (2, .long p1), (4, .long p2)]) (by decide) rfl rfl (Nat.le_of_ble_eq_true rfl) rfl ?_
  intro p e s m below meth c ls hC hx hb hown hts hK hr hlocks hnm hz hM hS hl
  unfold fX8_in at h
  refine lv_lload_n hx hb dX8_in_0 rfl (lv_at hl 0 rfl) ?_
  refine lv_lload_n hx hb dX8_in_1 rfl (lv_at hl 1 rfl) ?_
  refine W.lcmp hx hb dX8_in_2 ?_
  refine lv_if_lt (tgt := 17) hx hb dX8_in_3 (by decide) (fun c1 => ?_) (fun c1 => ?_)
  · replace c1 := (lg_cmp_lt _ _).mp c1
    replace h := it_pos c1 h
    refine lv_iconst (v := 0) hx hb dX8_in_17 (by decide) ?_
    subst h
    exact W.zret (ty := .boolean) (v := b2i false) hx hb hr (b2i_nar _) (fun t ht hW => ⟨_, rfl, rfl, ht⟩) (fun _ h9 => by cases h9) dX8_in_18 hlocks
  · replace c1 := mt (lg_cmp_lt _ _).mpr c1
    replace h := it_neg c1 h
    refine lv_lload_n hx hb dX8_in_6 rfl (lv_at hl 0 rfl) ?_
    refine lv_lload hx hb dX8_in_7 (lv_at hl 2 rfl) ?_
    refine W.lcmp hx hb dX8_in_9 ?_
    refine lv_if_gt (tgt := 17) hx hb dX8_in_10 (by decide) (fun c2 => ?_) (fun c2 => ?_)
    · replace c2 := (lg_cmp_gt _ _).mp c2
      replace h := it_pos c2 h
      refine lv_iconst (v := 0) hx hb dX8_in_17 (by decide) ?_
      subst h
      exact W.zret (ty := .boolean) (v := b2i false) hx hb hr (b2i_nar _) (fun t ht hW => ⟨_, rfl, rfl, ht⟩) (fun _ h9 => by cases h9) dX8_in_18 hlocks
    · replace c2 := mt (lg_cmp_gt _ _).mpr c2
      replace h := it_neg c2 h
      refine lv_iconst (v := 1) hx hb dX8_in_13 (by decide) ?_
      refine lv_goto (tgt := 18) hx hb dX8_in_14 (by decide) ?_
      subst h
      exact W.zret (ty := .boolean) (v := b2i true) hx hb hr (b2i_nar _) (fun t ht hW => ⟨_, rfl, rfl, ht⟩) (fun _ h9 => by cases h9) dX8_in_18 hlocks
theorem q_X8_copyState : yX8_copyState.cls ≠ "java/lang/invoke/MethodHandle" ∧ yX8_copyState.cls ≠ "java/lang/invoke/VarHandle" ∧ (parseMethodDescriptor yX8_copyState.desc).map (fun d => d.parameters.length) = some 4 := by decide +kernel
def fX8_copyState_3 (n_p0 : Nat) (n_p2 : Nat) (f_p0 : Nat → Int64) (f_p2 : Nat → Int64) (p1 : Int32) (p3 : Int32) : Nat → Int32 → (Nat → Int64) → Option ((Nat → Int64))
  | 0, _, _ => none
  | fu + 1, x4, g_p2 => if 250 ≤ x4 then (some (g_p2)) else (if inB (p1 + x4) n_p0 = true then (if inB (p3 + x4) n_p2 = true then (fX8_copyState_3 n_p0 n_p2 f_p0 f_p2 p1 p3 fu (x4 + 1) (vp_updL g_p2 (p3 + x4).toNatClampNeg (f_p0 (p1 + x4).toNatClampNeg))) else none) else none)
def fX8_copyState (n_p0 : Nat) (n_p2 : Nat) (f_p0 : Nat → Int64) (f_p2 : Nat → Int64) (p1 : Int32) (p3 : Int32) : Option ((Nat → Int64)) := fX8_copyState_3 n_p0 n_p2 f_p0 f_p2 p1 p3 5000 0 f_p2
set_option maxHeartbeats 4000000 in
set_option maxRecDepth 100000 in
theorem c_X8_copyState {l : Launch} {z : Nat} {D : va_G} {K : Nat → ClassId} {σ : mwm} {a_p0 a_p2 : Nat} {n_p0 : Nat} {n_p2 : Nat} {f_p0 : Nat → Int64} {f_p2 : Nat → Int64} {p1 : Int32} {p3 : Int32} (hc_p0 : σ a_p0 = some (eJ K n_p0 f_p0)) (hc_p2 : σ a_p2 = some (eJ K n_p2 f_p2)) (n_p0_p2 : a_p0 ≠ a_p2) {v : (Nat → Int64)} (h : fX8_copyState n_p0 n_p2 f_p0 f_p2 p1 p3 = some v) : Met l yX8_copyState wsX8_copyState ({ frames := 0, cells := 0, slots := 0, locals := 0 } : Room) (PCm z D K [.ref a_p0, .int p1, .ref a_p2, .int p3] σ) (qwV z D (fun σ2 => σ2 a_p2 = some (eJ K n_p2 v) ∧ ∀ (q : Nat) (f : va_E), σ q = some f → q ≠ a_p2 → σ2 q = some f)) 0 0 (zA z) := by
  refine mt_enter (cc := cX8_copyState) (maxL := 5) (ret := none) (own := RX8) (lv := [(0, .ref a_p0), (1, .int p1), (2, .ref a_p2), (3, .int p3)]) (by decide) rfl rfl (Nat.le_of_ble_eq_true rfl) rfl ?_
  intro p e s m below meth c ls hC hx hb hown hts hK hr hlocks hnm hz hM hS hl
  unfold fX8_copyState at h
  refine lv_iconst (v := 0) hx hb dX8_copyState_0 (by decide) ?_
  refine lv_istore (lv' := [(4, .int 0), (0, .ref a_p0), (1, .int p1), (2, .ref a_p2), (3, .int p3)]) hx hb dX8_copyState_1 hl (by decide) rfl (fun ls hl => ?_)
  have L3 : ∀ (fu0 : Nat) (x4 : Int32) (g_p2 : Nat → Int64) (H : Heap) (locs : List Loc) (σ1 : mwm), MW z D σ1 H → va_S (zA z) s.heap H locs → σ1 a_p2 = some (eJ K n_p2 g_p2) → (∀ (q : Nat) (f : va_E), σ q = some f → q ≠ a_p2 → σ1 q = some f) → fX8_copyState_3 n_p0 n_p2 f_p0 f_p2 p1 p3 fu0 x4 g_p2 = some v → ∀ ls : Array Slot, lv_has ls 5 [(4, .int x4), (0, .ref a_p0), (1, .int p1), (2, .ref a_p2), (3, .int p3)] → W p l e ({ frames := 0, cells := 0, slots := 0, locals := 0 } : Room) s m ([.ref a_p0, .int p1, .ref a_p2, .int p3] : List Value).toArray below meth c H locs 0 0 (MQ below (qwV z D (fun σ2 => σ2 a_p2 = some (eJ K n_p2 v) ∧ ∀ (q : Nat) (f : va_E), σ q = some f → q ≠ a_p2 → σ2 q = some f)) ([.ref a_p0, .int p1, .ref a_p2, .int p3] : List Value).toArray s 0 0 (zA z)) (F0 m 3 ls []) := by
    intro fu0
    induction fu0 with
    | zero =>
      intro x4 g_p2 H locs σ1 hM hS hc_p2 hfL h
      unfold fX8_copyState_3 at h
      cases h
    | succ fu0 ih0 =>
      intro x4 g_p2 H locs σ1 hM hS hc_p2 hfL h ls hl
      unfold fX8_copyState_3 at h
      refine lv_iload hx hb dX8_copyState_3 (lv_at hl 0 rfl) ?_
      refine lv_sipush (v := 250) hx hb dX8_copyState_5 (by decide) ?_
      refine lv_icmp_ge (tgt := 29) hx hb dX8_copyState_8 (by decide) (fun c1 => ?_) (fun c1 => ?_)
      · replace h := it_pos c1 h
        cases h
        exact W.vret hx hb hr (fun t ht hW => ⟨⟨_, rfl, ⟨hc_p2, hfL⟩, by show MW z D _ t.heap; rw [ht]; exact hM⟩, hS.F ht⟩) hS.2.2 dX8_copyState_29 hlocks
      · replace h := it_neg c1 h
        refine lv_aload_n hx hb dX8_copyState_11 rfl (lv_at hl 3 rfl) ?_
        refine lv_iload_n hx hb dX8_copyState_12 rfl (lv_at hl 4 rfl) ?_
        refine lv_iload hx hb dX8_copyState_13 (lv_at hl 0 rfl) ?_
        refine lv_iadd hx hb dX8_copyState_15 ?_
        refine lv_aload_n hx hb dX8_copyState_16 rfl (lv_at hl 1 rfl) ?_
        refine lv_iload_n hx hb dX8_copyState_17 rfl (lv_at hl 2 rfl) ?_
        refine lv_iload hx hb dX8_copyState_18 (lv_at hl 0 rfl) ?_
        refine lv_iadd hx hb dX8_copyState_20 ?_
        obtain ⟨c2, h⟩ := gd_some h
        refine mw_ldJ hC hM (hfL a_p0 _ hc_p0 n_p0_p2) (inB_ok c2) dX8_copyState_21 ?_
        obtain ⟨c3, h⟩ := gd_some h
        refine mw_stJ hC hM hS hc_p2 (inB_ok c3) dX8_copyState_22 (fun H locs σ1 hM hS hc_p2 ho4 => ?_)
        replace hc_p2 : σ1 a_p2 = some (eJ K n_p2 (vp_updL g_p2 (p3 + x4).toNatClampNeg (f_p0 (p1 + x4).toNatClampNeg))) := hc_p2
        have hf5 := fun (q : Nat) (f : va_E) (hf : σ q = some f) (n0 : q ≠ a_p2) => ho4 q f (hfL q f hf n0) n0
        refine lv_iinc (v := (x4 + 1)) (lv' := [(4, .int (x4 + 1)), (0, .ref a_p0), (1, .int p1), (2, .ref a_p2), (3, .int p3)]) hx hb dX8_copyState_23 hl (k := 0) rfl rfl (by decide) rfl (fun ls hl => ?_)
        refine lv_goto (tgt := 3) hx hb dX8_copyState_26 (by decide) ?_
        exact ih0 (x4 + 1) (vp_updL g_p2 (p3 + x4).toNatClampNeg (f_p0 (p1 + x4).toNatClampNeg)) _ _ _ hM hS hc_p2 hf5 h ls (lv_sub hl [0, 1, 2, 3, 4] rfl)
  exact L3 5000 0 f_p2 _ _ _ hM hS hc_p2 (fun _ _ h9 _ => h9) h ls (lv_sub hl [0, 1, 2, 3, 4] rfl)
theorem q_X8_points : yX8_points.cls ≠ "java/lang/invoke/MethodHandle" ∧ yX8_points.cls ≠ "java/lang/invoke/VarHandle" ∧ (parseMethodDescriptor yX8_points.desc).map (fun d => d.parameters.length) = some 1 := by decide +kernel
def fX8_points (f_p0 : Nat → Int64) : Option (Int32) := if inB 0 250 = true then (if inB 0 250 = true then (some (((f_p0 (0 : Int32).toNatClampNeg) * (f_p0 (0 : Int32).toNatClampNeg)).toInt32)) else none) else none
set_option maxHeartbeats 4000000 in
set_option maxRecDepth 100000 in
theorem c_X8_points {l : Launch} {z : Nat} {D : va_G} {K : Nat → ClassId} {σ : mwm} {a_p0 : Nat} {f_p0 : Nat → Int64} (hc_p0 : σ a_p0 = some (eJ K 250 f_p0)) {v : Int32} (h : fX8_points f_p0 = some v) : Met l yX8_points wsX8_points ({ frames := 0, cells := 0, slots := 0, locals := 0 } : Room) (PCm z D K [.ref a_p0] σ) (qsI v) 0 0 (fun _ => False) := by
  refine mt_enter (cc := cX8_points) (maxL := 1) (ret := (some .int)) (own := RX8) (lv := [(0, .ref a_p0)]) (by decide) rfl rfl (Nat.le_of_ble_eq_true rfl) rfl ?_
  intro p e s m below meth c ls hC hx hb hown hts hK hr hlocks hnm hz hM hS hl
  unfold fX8_points at h
  refine lv_aload_n hx hb dX8_points_0 rfl (lv_at hl 0 rfl) ?_
  refine lv_iconst (v := 0) hx hb dX8_points_1 (by decide) ?_
  obtain ⟨c1, h⟩ := gd_some h
  refine mw_ldJ hC hM hc_p0 (inB_ok c1) dX8_points_2 ?_
  refine lv_aload_n hx hb dX8_points_3 rfl (lv_at hl 0 rfl) ?_
  refine lv_iconst (v := 0) hx hb dX8_points_4 (by decide) ?_
  obtain ⟨c2, h⟩ := gd_some h
  refine mw_ldJ hC hM hc_p0 (inB_ok c2) dX8_points_5 ?_
  refine lv_lmul hx hb dX8_points_6 ?_
  refine lv_l2i hx hb dX8_points_7 rfl ?_
  cases h
  exact W.iret hx hb hr (fun t ht hW => ⟨_, rfl, rfl, ht⟩) (fun _ h9 => by cases h9) dX8_points_8 hlocks
theorem q_X8_isPoint : yX8_isPoint.cls ≠ "java/lang/invoke/MethodHandle" ∧ yX8_isPoint.cls ≠ "java/lang/invoke/VarHandle" ∧ (parseMethodDescriptor yX8_isPoint.desc).map (fun d => d.parameters.length) = some 2 := by decide +kernel
def fX8_isPoint (f_p0 : Nat → Int64) (p1 : Int32) : Option (Bool) := (fX8_points f_p0).bind fun r1 => some ((fX8_in p1.toInt64 0 ((r1 - 1).toInt64)))
set_option maxHeartbeats 4000000 in
set_option maxRecDepth 100000 in
theorem c_X8_isPoint {l : Launch} {z : Nat} {D : va_G} {K : Nat → ClassId} {σ : mwm} {a_p0 : Nat} {f_p0 : Nat → Int64} {p1 : Int32} (hc_p0 : σ a_p0 = some (eJ K 250 f_p0)) {v : Bool} (h : fX8_isPoint f_p0 p1 = some v) : Met l yX8_isPoint wsX8_isPoint ({ frames := 1, cells := 0, slots := 0, locals := 25 } : Room) (PCm z D K [.ref a_p0, .int p1] σ) (qsI (b2i v)) 0 0 (fun _ => False) := by
  refine mt_enter (cc := cX8_isPoint) (maxL := 2) (ret := (some .boolean)) (own := RX8) (lv := [(0, .ref a_p0), (1, .int p1)]) (by decide) rfl rfl (Nat.le_of_ble_eq_true rfl) rfl ?_
  intro p e s m below meth c ls hC hx hb hown hts hK hr hlocks hnm hz hM hS hl
  unfold fX8_isPoint at h
  refine lv_iload_n hx hb dX8_isPoint_0 rfl (lv_at hl 1 rfl) ?_
  refine lv_i2l hx hb dX8_isPoint_1 rfl ?_
  refine lv_lconst (v := 0) hx hb dX8_isPoint_2 (by decide) ?_
  refine lv_aload_n hx hb dX8_isPoint_3 rfl (lv_at hl 0 rfl) ?_
  obtain ⟨r1, hr1, h⟩ := ob_some h
  refine mw_ci (mw_runS (As := [.ref a_p0]) (rest := [.long 0, .long p1.toInt64]) hC hM hS (c_X8_points (a_p0 := a_p0) (f_p0 := f_p0) (hc_p0 := hc_p0) (v := r1) hr1) gX8_isPoint_X8_points rfl rfl rfl q_X8_points ⟨Nat.le_of_ble_eq_true rfl, Nat.le_of_ble_eq_true rfl⟩ rfl rfl (Nat.le_of_ble_eq_true rfl) hl.1 dX8_isPoint_4 ⟨Nat.le_of_ble_eq_true rfl, Nat.le_of_ble_eq_true rfl⟩) ?_
  refine lv_iconst (v := 1) hx hb dX8_isPoint_7 (by decide) ?_
  refine lv_isub hx hb dX8_isPoint_8 ?_
  refine lv_i2l hx hb dX8_isPoint_9 rfl ?_
  refine mw_ci (mw_runS (As := [.long p1.toInt64, .long 0, .long ((r1 - 1).toInt64)]) (rest := []) hC hM hS (c_X8_in (p0 := p1.toInt64) (p1 := 0) (p2 := (r1 - 1).toInt64) (v := (fX8_in p1.toInt64 0 ((r1 - 1).toInt64))) rfl) gX8_isPoint_X8_in rfl rfl rfl q_X8_in ⟨Nat.le_of_ble_eq_true rfl, Nat.le_of_ble_eq_true rfl⟩ rfl rfl (Nat.le_of_ble_eq_true rfl) hl.1 dX8_isPoint_10 ⟨Nat.le_of_ble_eq_true rfl, Nat.le_of_ble_eq_true rfl⟩) ?_
  cases h
  exact W.zret (ty := .boolean) (v := b2i (fX8_in p1.toInt64 0 ((r1 - 1).toInt64))) hx hb hr (b2i_nar _) (fun t ht hW => ⟨_, rfl, rfl, ht⟩) (fun _ h9 => by cases h9) dX8_isPoint_13 hlocks
theorem q_X8_isColour : yX8_isColour.cls ≠ "java/lang/invoke/MethodHandle" ∧ yX8_isColour.cls ≠ "java/lang/invoke/VarHandle" ∧ (parseMethodDescriptor yX8_isColour.desc).map (fun d => d.parameters.length) = some 1 := by decide +kernel
def fX8_isColour (p0 : Int32) : Bool := ((fX8_in p0.toInt64 0 1))
set_option maxHeartbeats 4000000 in
set_option maxRecDepth 100000 in
theorem c_X8_isColour {l : Launch} {z : Nat} {D : va_G} {K : Nat → ClassId} {σ : mwm} {p0 : Int32} {v : Bool} (h : fX8_isColour p0 = v) : Met l yX8_isColour wsX8_isColour ({ frames := 1, cells := 0, slots := 0, locals := 25 } : Room) (PCm z D K [.int p0] σ) (qsI (b2i v)) 0 0 (fun _ => False) := by
  refine mt_enter (cc := cX8_isColour) (maxL := 1) (ret := (some .boolean)) (own := RX8) (lv := [(0, .int p0)]) (by decide) rfl rfl (Nat.le_of_ble_eq_true rfl) rfl ?_
  intro p e s m below meth c ls hC hx hb hown hts hK hr hlocks hnm hz hM hS hl
  unfold fX8_isColour at h
  refine lv_iload_n hx hb dX8_isColour_0 rfl (lv_at hl 0 rfl) ?_
  refine lv_i2l hx hb dX8_isColour_1 rfl ?_
  refine lv_lconst (v := 0) hx hb dX8_isColour_2 (by decide) ?_
  refine lv_lconst (v := 1) hx hb dX8_isColour_3 (by decide) ?_
  refine mw_ci (mw_runS (As := [.long p0.toInt64, .long 0, .long 1]) (rest := []) hC hM hS (c_X8_in (p0 := p0.toInt64) (p1 := 0) (p2 := 1) (v := (fX8_in p0.toInt64 0 1)) rfl) gX8_isColour_X8_in rfl rfl rfl q_X8_in ⟨Nat.le_of_ble_eq_true rfl, Nat.le_of_ble_eq_true rfl⟩ rfl rfl (Nat.le_of_ble_eq_true rfl) hl.1 dX8_isColour_4 ⟨Nat.le_of_ble_eq_true rfl, Nat.le_of_ble_eq_true rfl⟩) ?_
  subst h
  exact W.zret (ty := .boolean) (v := b2i (fX8_in p0.toInt64 0 1)) hx hb hr (b2i_nar _) (fun t ht hW => ⟨_, rfl, rfl, ht⟩) (fun _ h9 => by cases h9) dX8_isColour_7 hlocks
theorem q_X8_moves : yX8_moves.cls ≠ "java/lang/invoke/MethodHandle" ∧ yX8_moves.cls ≠ "java/lang/invoke/VarHandle" ∧ (parseMethodDescriptor yX8_moves.desc).map (fun d => d.parameters.length) = some 1 := by decide +kernel
def fX8_moves (f_p0 : Nat → Int64) : Option (Int32) := if inB 3 250 = true then (some ((f_p0 (3 : Int32).toNatClampNeg).toInt32)) else none
set_option maxHeartbeats 4000000 in
set_option maxRecDepth 100000 in
theorem c_X8_moves {l : Launch} {z : Nat} {D : va_G} {K : Nat → ClassId} {σ : mwm} {a_p0 : Nat} {f_p0 : Nat → Int64} (hc_p0 : σ a_p0 = some (eJ K 250 f_p0)) {v : Int32} (h : fX8_moves f_p0 = some v) : Met l yX8_moves wsX8_moves ({ frames := 0, cells := 0, slots := 0, locals := 0 } : Room) (PCm z D K [.ref a_p0] σ) (qsI v) 0 0 (fun _ => False) := by
  refine mt_enter (cc := cX8_moves) (maxL := 1) (ret := (some .int)) (own := RX8) (lv := [(0, .ref a_p0)]) (by decide) rfl rfl (Nat.le_of_ble_eq_true rfl) rfl ?_
  intro p e s m below meth c ls hC hx hb hown hts hK hr hlocks hnm hz hM hS hl
  unfold fX8_moves at h
  refine lv_aload_n hx hb dX8_moves_0 rfl (lv_at hl 0 rfl) ?_
  refine lv_iconst (v := 3) hx hb dX8_moves_1 (by decide) ?_
  obtain ⟨c1, h⟩ := gd_some h
  refine mw_ldJ hC hM hc_p0 (inB_ok c1) dX8_moves_2 ?_
  refine lv_l2i hx hb dX8_moves_3 rfl ?_
  cases h
  exact W.iret hx hb hr (fun t ht hW => ⟨_, rfl, rfl, ht⟩) (fun _ h9 => by cases h9) dX8_moves_4 hlocks
theorem q_X8_stonesOf : yX8_stonesOf.cls ≠ "java/lang/invoke/MethodHandle" ∧ yX8_stonesOf.cls ≠ "java/lang/invoke/VarHandle" ∧ (parseMethodDescriptor yX8_stonesOf.desc).map (fun d => d.parameters.length) = some 2 := by decide +kernel
def fX8_stonesOf (f_p0 : Nat → Int64) (p1 : Int32) : Option (Int64) := (fX8_moves f_p0).bind fun r1 => if inB ((8 + (2 * r1)) + p1) 250 = true then (some ((f_p0 ((8 + (2 * r1)) + p1).toNatClampNeg))) else none
set_option maxHeartbeats 4000000 in
set_option maxRecDepth 100000 in
theorem c_X8_stonesOf {l : Launch} {z : Nat} {D : va_G} {K : Nat → ClassId} {σ : mwm} {a_p0 : Nat} {f_p0 : Nat → Int64} {p1 : Int32} (hc_p0 : σ a_p0 = some (eJ K 250 f_p0)) {v : Int64} (h : fX8_stonesOf f_p0 p1 = some v) : Met l yX8_stonesOf wsX8_stonesOf ({ frames := 1, cells := 0, slots := 0, locals := 20 } : Room) (PCm z D K [.ref a_p0, .int p1] σ) (qsL v) 0 0 (fun _ => False) := by
  refine mt_enter (cc := cX8_stonesOf) (maxL := 2) (ret := (some .long)) (own := RX8) (lv := [(0, .ref a_p0), (1, .int p1)]) (by decide) rfl rfl (Nat.le_of_ble_eq_true rfl) rfl ?_
  intro p e s m below meth c ls hC hx hb hown hts hK hr hlocks hnm hz hM hS hl
  unfold fX8_stonesOf at h
  refine lv_aload_n hx hb dX8_stonesOf_0 rfl (lv_at hl 0 rfl) ?_
  refine lv_bipush (v := 8) hx hb dX8_stonesOf_1 (by decide) ?_
  refine lv_iconst (v := 2) hx hb dX8_stonesOf_3 (by decide) ?_
  refine lv_aload_n hx hb dX8_stonesOf_4 rfl (lv_at hl 0 rfl) ?_
  obtain ⟨r1, hr1, h⟩ := ob_some h
  refine mw_ci (mw_runS (As := [.ref a_p0]) (rest := [.int 2, .int 8, .ref a_p0]) hC hM hS (c_X8_moves (a_p0 := a_p0) (f_p0 := f_p0) (hc_p0 := hc_p0) (v := r1) hr1) gX8_stonesOf_X8_moves rfl rfl rfl q_X8_moves ⟨Nat.le_of_ble_eq_true rfl, Nat.le_of_ble_eq_true rfl⟩ rfl rfl (Nat.le_of_ble_eq_true rfl) hl.1 dX8_stonesOf_5 ⟨Nat.le_of_ble_eq_true rfl, Nat.le_of_ble_eq_true rfl⟩) ?_
  refine lv_imul hx hb dX8_stonesOf_8 ?_
  refine lv_iadd hx hb dX8_stonesOf_9 ?_
  refine lv_iload_n hx hb dX8_stonesOf_10 rfl (lv_at hl 1 rfl) ?_
  refine lv_iadd hx hb dX8_stonesOf_11 ?_
  obtain ⟨c2, h⟩ := gd_some h
  refine mw_ldJ hC hM hc_p0 (inB_ok c2) dX8_stonesOf_12 ?_
  cases h
  exact W.lret hx hb hr (fun t ht hW => ⟨_, rfl, rfl, ht⟩) (fun _ h9 => by cases h9) dX8_stonesOf_13 hlocks
theorem q_X8_turnOf : yX8_turnOf.cls ≠ "java/lang/invoke/MethodHandle" ∧ yX8_turnOf.cls ≠ "java/lang/invoke/VarHandle" ∧ (parseMethodDescriptor yX8_turnOf.desc).map (fun d => d.parameters.length) = some 1 := by decide +kernel
def fX8_turnOf (f_p0 : Nat → Int64) : Option (Int32) := if inB 2 250 = true then (some ((f_p0 (2 : Int32).toNatClampNeg).toInt32)) else none
set_option maxHeartbeats 4000000 in
set_option maxRecDepth 100000 in
theorem c_X8_turnOf {l : Launch} {z : Nat} {D : va_G} {K : Nat → ClassId} {σ : mwm} {a_p0 : Nat} {f_p0 : Nat → Int64} (hc_p0 : σ a_p0 = some (eJ K 250 f_p0)) {v : Int32} (h : fX8_turnOf f_p0 = some v) : Met l yX8_turnOf wsX8_turnOf ({ frames := 0, cells := 0, slots := 0, locals := 0 } : Room) (PCm z D K [.ref a_p0] σ) (qsI v) 0 0 (fun _ => False) := by
  refine mt_enter (cc := cX8_turnOf) (maxL := 1) (ret := (some .int)) (own := RX8) (lv := [(0, .ref a_p0)]) (by decide) rfl rfl (Nat.le_of_ble_eq_true rfl) rfl ?_
  intro p e s m below meth c ls hC hx hb hown hts hK hr hlocks hnm hz hM hS hl
  unfold fX8_turnOf at h
  refine lv_aload_n hx hb dX8_turnOf_0 rfl (lv_at hl 0 rfl) ?_
  refine lv_iconst (v := 2) hx hb dX8_turnOf_1 (by decide) ?_
  obtain ⟨c1, h⟩ := gd_some h
  refine mw_ldJ hC hM hc_p0 (inB_ok c1) dX8_turnOf_2 ?_
  refine lv_l2i hx hb dX8_turnOf_3 rfl ?_
  cases h
  exact W.iret hx hb hr (fun t ht hW => ⟨_, rfl, rfl, ht⟩) (fun _ h9 => by cases h9) dX8_turnOf_4 hlocks
theorem q_X8_has : yX8_has.cls ≠ "java/lang/invoke/MethodHandle" ∧ yX8_has.cls ≠ "java/lang/invoke/VarHandle" ∧ (parseMethodDescriptor yX8_has.desc).map (fun d => d.parameters.length) = some 2 := by decide +kernel
def fX8_has (p0 : Int64) (p1 : Int32) : Bool := if ((ushrL p0 p1) &&& 1) = 1 then ((true)) else ((false))
set_option maxHeartbeats 4000000 in
set_option maxRecDepth 100000 in
theorem c_X8_has {l : Launch} {z : Nat} {D : va_G} {K : Nat → ClassId} {σ : mwm} {p0 : Int64} {p1 : Int32} {v : Bool} (h : fX8_has p0 p1 = v) : Met l yX8_has wsX8_has ({ frames := 0, cells := 0, slots := 0, locals := 0 } : Room) (PCm z D K [.long p0, .int p1] σ) (qsI (b2i v)) 0 0 (fun _ => False) := by
  refine mt_enter (cc := cX8_has) (maxL := 3) (ret := (some .boolean)) (own := RX8) (lv := [(0, .long p0), (2, .int p1)]) (by decide) rfl rfl (Nat.le_of_ble_eq_true rfl) rfl ?_
  intro p e s m below meth c ls hC hx hb hown hts hK hr hlocks hnm hz hM hS hl
  unfold fX8_has at h
  refine lv_lload_n hx hb dX8_has_0 rfl (lv_at hl 0 rfl) ?_
  refine lv_iload_n hx hb dX8_has_1 rfl (lv_at hl 1 rfl) ?_
  refine lv_lushr (v := (ushrL p0 p1)) hx hb dX8_has_2 rfl ?_
  refine lv_lconst (v := 1) hx hb dX8_has_3 (by decide) ?_
  refine lv_land hx hb dX8_has_4 ?_
  refine lv_lconst (v := 1) hx hb dX8_has_5 (by decide) ?_
  refine W.lcmp hx hb dX8_has_6 ?_
  refine lv_if_ne (tgt := 14) hx hb dX8_has_7 (by decide) (fun c1 => ?_) (fun c1 => ?_)
  · replace c1 := mt (lg_cmp_eq _ _).mpr c1
    replace h := it_neg c1 h
    refine lv_iconst (v := 0) hx hb dX8_has_14 (by decide) ?_
    subst h
    exact W.zret (ty := .boolean) (v := b2i false) hx hb hr (b2i_nar _) (fun t ht hW => ⟨_, rfl, rfl, ht⟩) (fun _ h9 => by cases h9) dX8_has_15 hlocks
  · replace c1 := (lg_cmp_eq _ _).mp c1
    replace h := it_pos c1 h
    refine lv_iconst (v := 1) hx hb dX8_has_10 (by decide) ?_
    refine lv_goto (tgt := 15) hx hb dX8_has_11 (by decide) ?_
    subst h
    exact W.zret (ty := .boolean) (v := b2i true) hx hb hr (b2i_nar _) (fun t ht hW => ⟨_, rfl, rfl, ht⟩) (fun _ h9 => by cases h9) dX8_has_15 hlocks
theorem q_X8_bits : yX8_bits.cls ≠ "java/lang/invoke/MethodHandle" ∧ yX8_bits.cls ≠ "java/lang/invoke/VarHandle" ∧ (parseMethodDescriptor yX8_bits.desc).map (fun d => d.parameters.length) = some 1 := by decide +kernel
def fX8_bits_4 (p0 : Int64) : Nat → Int32 → Int32 → Option (Int32)
  | 0, _, _ => none
  | fu + 1, x2, x3 => if 49 ≤ x3 then (some (x2)) else (if (fX8_has p0 x3) = true then (fX8_bits_4 p0 fu (x2 + 1) (x3 + 1)) else (fX8_bits_4 p0 fu (x2 + 0) (x3 + 1)))
def fX8_bits (p0 : Int64) : Option (Int32) := fX8_bits_4 p0 5000 0 0 
set_option maxHeartbeats 4000000 in
set_option maxRecDepth 100000 in
theorem c_X8_bits {l : Launch} {z : Nat} {D : va_G} {K : Nat → ClassId} {σ : mwm} {p0 : Int64} {v : Int32} (h : fX8_bits p0 = some v) : Met l yX8_bits wsX8_bits ({ frames := 1, cells := 0, slots := 0, locals := 22 } : Room) (PCm z D K [.long p0] σ) (qsI v) 0 0 (fun _ => False) := by
  refine mt_enter (cc := cX8_bits) (maxL := 4) (ret := (some .int)) (own := RX8) (lv := [(0, .long p0)]) (by decide) rfl rfl (Nat.le_of_ble_eq_true rfl) rfl ?_
  intro p e s m below meth c ls hC hx hb hown hts hK hr hlocks hnm hz hM hS hl
  unfold fX8_bits at h
  refine lv_iconst (v := 0) hx hb dX8_bits_0 (by decide) ?_
  refine lv_istore_n (lv' := [(2, .int 0), (0, .long p0)]) hx hb dX8_bits_1 rfl hl (by decide) rfl (fun ls hl => ?_)
  refine lv_iconst (v := 0) hx hb dX8_bits_2 (by decide) ?_
  refine lv_istore_n (lv' := [(3, .int 0), (2, .int 0), (0, .long p0)]) hx hb dX8_bits_3 rfl hl (by decide) rfl (fun ls hl => ?_)
  have L4 : ∀ (fu0 : Nat) (x2 : Int32) (x3 : Int32), fX8_bits_4 p0 fu0 x2 x3 = some v → ∀ ls : Array Slot, lv_has ls 4 [(3, .int x3), (2, .int x2), (0, .long p0)] → W p l e ({ frames := 1, cells := 0, slots := 0, locals := 22 } : Room) s m ([.long p0] : List Value).toArray below meth c s.heap [] 0 0 (MQ below (qsI v) ([.long p0] : List Value).toArray s 0 0 (fun _ => False)) (F0 m 4 ls []) := by
    intro fu0
    induction fu0 with
    | zero =>
      intro x2 x3 h
      unfold fX8_bits_4 at h
      cases h
    | succ fu0 ih0 =>
      intro x2 x3 h ls hl
      unfold fX8_bits_4 at h
      refine lv_iload_n hx hb dX8_bits_4 rfl (lv_at hl 0 rfl) ?_
      refine lv_bipush (v := 49) hx hb dX8_bits_5 (by decide) ?_
      refine lv_icmp_ge (tgt := 32) hx hb dX8_bits_7 (by decide) (fun c1 => ?_) (fun c1 => ?_)
      · replace h := it_pos c1 h
        refine lv_iload_n hx hb dX8_bits_32 rfl (lv_at hl 1 rfl) ?_
        cases h
        exact W.iret hx hb hr (fun t ht hW => ⟨_, rfl, rfl, ht⟩) (fun _ h9 => by cases h9) dX8_bits_33 hlocks
      · replace h := it_neg c1 h
        refine lv_iload_n hx hb dX8_bits_10 rfl (lv_at hl 1 rfl) ?_
        refine lv_lload_n hx hb dX8_bits_11 rfl (lv_at hl 2 rfl) ?_
        refine lv_iload_n hx hb dX8_bits_12 rfl (lv_at hl 0 rfl) ?_
        refine mw_ci (mw_runS (As := [.long p0, .int x3]) (rest := [.int x2]) hC hM hS (c_X8_has (p0 := p0) (p1 := x3) (v := (fX8_has p0 x3)) rfl) gX8_bits_X8_has rfl rfl rfl q_X8_has ⟨Nat.le_of_ble_eq_true rfl, Nat.le_of_ble_eq_true rfl⟩ rfl rfl (Nat.le_of_ble_eq_true rfl) hl.1 dX8_bits_13 ⟨Nat.le_of_ble_eq_true rfl, Nat.le_of_ble_eq_true rfl⟩) ?_
        refine lv_if_eq (tgt := 23) hx hb dX8_bits_16 (by decide) (fun c2 => ?_) (fun c2 => ?_)
        · replace c2 := b2i_eq0.mp c2
          replace h := it_neg c2 h
          refine lv_iconst (v := 0) hx hb dX8_bits_23 (by decide) ?_
          refine lv_iadd hx hb dX8_bits_24 ?_
          refine lv_istore_n (lv' := [(2, .int (x2 + 0)), (3, .int x3), (0, .long p0)]) hx hb dX8_bits_25 rfl hl (by decide) rfl (fun ls hl => ?_)
          refine lv_iinc (v := (x3 + 1)) (lv' := [(3, .int (x3 + 1)), (2, .int (x2 + 0)), (0, .long p0)]) hx hb dX8_bits_26 hl (k := 1) rfl rfl (by decide) rfl (fun ls hl => ?_)
          refine lv_goto (tgt := 4) hx hb dX8_bits_29 (by decide) ?_
          exact ih0 (x2 + 0) (x3 + 1) h ls (lv_sub hl [0, 1, 2] rfl)
        · replace c2 := b2i_ne0.mp c2
          replace h := it_pos c2 h
          refine lv_iconst (v := 1) hx hb dX8_bits_19 (by decide) ?_
          refine lv_goto (tgt := 24) hx hb dX8_bits_20 (by decide) ?_
          refine lv_iadd hx hb dX8_bits_24 ?_
          refine lv_istore_n (lv' := [(2, .int (x2 + 1)), (3, .int x3), (0, .long p0)]) hx hb dX8_bits_25 rfl hl (by decide) rfl (fun ls hl => ?_)
          refine lv_iinc (v := (x3 + 1)) (lv' := [(3, .int (x3 + 1)), (2, .int (x2 + 1)), (0, .long p0)]) hx hb dX8_bits_26 hl (k := 1) rfl rfl (by decide) rfl (fun ls hl => ?_)
          refine lv_goto (tgt := 4) hx hb dX8_bits_29 (by decide) ?_
          exact ih0 (x2 + 1) (x3 + 1) h ls (lv_sub hl [0, 1, 2] rfl)
  exact L4 5000 0 0  h ls (lv_sub hl [0, 1, 2] rfl)
theorem q_X8_lowest : yX8_lowest.cls ≠ "java/lang/invoke/MethodHandle" ∧ yX8_lowest.cls ≠ "java/lang/invoke/VarHandle" ∧ (parseMethodDescriptor yX8_lowest.desc).map (fun d => d.parameters.length) = some 1 := by decide +kernel
def fX8_lowest_2 (p0 : Int64) : Nat → Int32 → Option (Int32)
  | 0, _ => none
  | fu + 1, x2 => if (fX8_has p0 x2) = true then (some (x2)) else (fX8_lowest_2 p0 fu (x2 + 1))
def fX8_lowest (p0 : Int64) : Option (Int32) := fX8_lowest_2 p0 5000 0 
set_option maxHeartbeats 4000000 in
set_option maxRecDepth 100000 in
theorem c_X8_lowest {l : Launch} {z : Nat} {D : va_G} {K : Nat → ClassId} {σ : mwm} {p0 : Int64} {v : Int32} (h : fX8_lowest p0 = some v) : Met l yX8_lowest wsX8_lowest ({ frames := 1, cells := 0, slots := 0, locals := 22 } : Room) (PCm z D K [.long p0] σ) (qsI v) 0 0 (fun _ => False) := by
  refine mt_enter (cc := cX8_lowest) (maxL := 3) (ret := (some .int)) (own := RX8) (lv := [(0, .long p0)]) (by decide) rfl rfl (Nat.le_of_ble_eq_true rfl) rfl ?_
  intro p e s m below meth c ls hC hx hb hown hts hK hr hlocks hnm hz hM hS hl
  unfold fX8_lowest at h
  refine lv_iconst (v := 0) hx hb dX8_lowest_0 (by decide) ?_
  refine lv_istore_n (lv' := [(2, .int 0), (0, .long p0)]) hx hb dX8_lowest_1 rfl hl (by decide) rfl (fun ls hl => ?_)
  have L2 : ∀ (fu0 : Nat) (x2 : Int32), fX8_lowest_2 p0 fu0 x2 = some v → ∀ ls : Array Slot, lv_has ls 3 [(2, .int x2), (0, .long p0)] → W p l e ({ frames := 1, cells := 0, slots := 0, locals := 22 } : Room) s m ([.long p0] : List Value).toArray below meth c s.heap [] 0 0 (MQ below (qsI v) ([.long p0] : List Value).toArray s 0 0 (fun _ => False)) (F0 m 2 ls []) := by
    intro fu0
    induction fu0 with
    | zero =>
      intro x2 h
      unfold fX8_lowest_2 at h
      cases h
    | succ fu0 ih0 =>
      intro x2 h ls hl
      unfold fX8_lowest_2 at h
      refine lv_lload_n hx hb dX8_lowest_2 rfl (lv_at hl 1 rfl) ?_
      refine lv_iload_n hx hb dX8_lowest_3 rfl (lv_at hl 0 rfl) ?_
      refine mw_ci (mw_runS (As := [.long p0, .int x2]) (rest := []) hC hM hS (c_X8_has (p0 := p0) (p1 := x2) (v := (fX8_has p0 x2)) rfl) gX8_lowest_X8_has rfl rfl rfl q_X8_has ⟨Nat.le_of_ble_eq_true rfl, Nat.le_of_ble_eq_true rfl⟩ rfl rfl (Nat.le_of_ble_eq_true rfl) hl.1 dX8_lowest_4 ⟨Nat.le_of_ble_eq_true rfl, Nat.le_of_ble_eq_true rfl⟩) ?_
      refine lv_if_ne (tgt := 16) hx hb dX8_lowest_7 (by decide) (fun c1 => ?_) (fun c1 => ?_)
      · replace c1 := b2i_ne0.mp c1
        replace h := it_pos c1 h
        refine lv_iload_n hx hb dX8_lowest_16 rfl (lv_at hl 0 rfl) ?_
        cases h
        exact W.iret hx hb hr (fun t ht hW => ⟨_, rfl, rfl, ht⟩) (fun _ h9 => by cases h9) dX8_lowest_17 hlocks
      · replace c1 := b2i_eq0.mp c1
        replace h := it_neg c1 h
        refine lv_iinc (v := (x2 + 1)) (lv' := [(2, .int (x2 + 1)), (0, .long p0)]) hx hb dX8_lowest_10 hl (k := 0) rfl rfl (by decide) rfl (fun ls hl => ?_)
        refine lv_goto (tgt := 2) hx hb dX8_lowest_13 (by decide) ?_
        exact ih0 (x2 + 1) h ls (lv_sub hl [0, 1] rfl)
  exact L2 5000 0  h ls (lv_sub hl [0, 1] rfl)
theorem q_X8_column : yX8_column.cls ≠ "java/lang/invoke/MethodHandle" ∧ yX8_column.cls ≠ "java/lang/invoke/VarHandle" ∧ (parseMethodDescriptor yX8_column.desc).map (fun d => d.parameters.length) = some 2 := by decide +kernel
def fX8_column_5 (p0 : Int32) (p1 : Int32) : Nat → Int64 → Int32 → Option (Int64)
  | 0, _, _ => none
  | fu + 1, x2, x4 => if p0 ≤ x4 then (some (x2)) else (bnd (x2 ||| (shlL 1 ((x4 * p0) + p1))) fun v2 => fX8_column_5 p0 p1 fu v2 (x4 + 1))
def fX8_column (p0 : Int32) (p1 : Int32) : Option (Int64) := fX8_column_5 p0 p1 5000 0 0 
set_option maxHeartbeats 4000000 in
set_option maxRecDepth 100000 in
theorem c_X8_column {l : Launch} {z : Nat} {D : va_G} {K : Nat → ClassId} {σ : mwm} {p0 : Int32} {p1 : Int32} {v : Int64} (h : fX8_column p0 p1 = some v) : Met l yX8_column wsX8_column ({ frames := 0, cells := 0, slots := 0, locals := 0 } : Room) (PCm z D K [.int p0, .int p1] σ) (qsL v) 0 0 (fun _ => False) := by
  refine mt_enter (cc := cX8_column) (maxL := 5) (ret := (some .long)) (own := RX8) (lv := [(0, .int p0), (1, .int p1)]) (by decide) rfl rfl (Nat.le_of_ble_eq_true rfl) rfl ?_
  intro p e s m below meth c ls hC hx hb hown hts hK hr hlocks hnm hz hM hS hl
  unfold fX8_column at h
  refine lv_lconst (v := 0) hx hb dX8_column_0 (by decide) ?_
  refine lv_lstore_n (lv' := [(2, .long 0), (0, .int p0), (1, .int p1)]) hx hb dX8_column_1 rfl hl (by decide) rfl (fun ls hl => ?_)
  refine lv_iconst (v := 0) hx hb dX8_column_2 (by decide) ?_
  refine lv_istore (lv' := [(4, .int 0), (2, .long 0), (0, .int p0), (1, .int p1)]) hx hb dX8_column_3 hl (by decide) rfl (fun ls hl => ?_)
  have L5 : ∀ (fu0 : Nat) (x2 : Int64) (x4 : Int32), fX8_column_5 p0 p1 fu0 x2 x4 = some v → ∀ ls : Array Slot, lv_has ls 5 [(4, .int x4), (2, .long x2), (0, .int p0), (1, .int p1)] → W p l e ({ frames := 0, cells := 0, slots := 0, locals := 0 } : Room) s m ([.int p0, .int p1] : List Value).toArray below meth c s.heap [] 0 0 (MQ below (qsL v) ([.int p0, .int p1] : List Value).toArray s 0 0 (fun _ => False)) (F0 m 5 ls []) := by
    intro fu0
    induction fu0 with
    | zero =>
      intro x2 x4 h
      unfold fX8_column_5 at h
      cases h
    | succ fu0 ih0 =>
      intro x2 x4 h ls hl
      unfold fX8_column_5 at h
      refine lv_iload hx hb dX8_column_5 (lv_at hl 0 rfl) ?_
      refine lv_iload_n hx hb dX8_column_7 rfl (lv_at hl 2 rfl) ?_
      refine lv_icmp_ge (tgt := 28) hx hb dX8_column_8 (by decide) (fun c1 => ?_) (fun c1 => ?_)
      · replace h := it_pos c1 h
        refine lv_lload_n hx hb dX8_column_28 rfl (lv_at hl 1 rfl) ?_
        cases h
        exact W.lret hx hb hr (fun t ht hW => ⟨_, rfl, rfl, ht⟩) (fun _ h9 => by cases h9) dX8_column_29 hlocks
      · replace h := it_neg c1 h
        refine lv_lload_n hx hb dX8_column_11 rfl (lv_at hl 1 rfl) ?_
        refine lv_lconst (v := 1) hx hb dX8_column_12 (by decide) ?_
        refine lv_iload hx hb dX8_column_13 (lv_at hl 0 rfl) ?_
        refine lv_iload_n hx hb dX8_column_15 rfl (lv_at hl 2 rfl) ?_
        refine lv_imul hx hb dX8_column_16 ?_
        refine lv_iload_n hx hb dX8_column_17 rfl (lv_at hl 3 rfl) ?_
        refine lv_iadd hx hb dX8_column_18 ?_
        refine lv_lshl (v := (shlL 1 ((x4 * p0) + p1))) hx hb dX8_column_19 rfl ?_
        refine lv_lor hx hb dX8_column_20 ?_
        refine lv_topl (fun v2 ev2 => ?_)
        replace h := bnd_at ev2 h
        refine lv_lstore_n (lv' := [(2, .long v2), (4, .int x4), (0, .int p0), (1, .int p1)]) hx hb dX8_column_21 rfl hl (by decide) rfl (fun ls hl => ?_)
        refine lv_iinc (v := (x4 + 1)) (lv' := [(4, .int (x4 + 1)), (2, .long v2), (0, .int p0), (1, .int p1)]) hx hb dX8_column_22 hl (k := 1) rfl rfl (by decide) rfl (fun ls hl => ?_)
        refine lv_goto (tgt := 5) hx hb dX8_column_25 (by decide) ?_
        exact ih0 v2 (x4 + 1) h ls (lv_sub hl [0, 1, 2, 3] rfl)
  exact L5 5000 0 0  h ls (lv_sub hl [0, 1, 2, 3] rfl)
theorem l_X8_beside_0 : Cond.constantLong RX8 66 (-1) ∈ wsX8_beside := (List.mem_cons_of_mem _ (List.mem_of_getElem? (i := 0) rfl))
theorem q_X8_beside : yX8_beside.cls ≠ "java/lang/invoke/MethodHandle" ∧ yX8_beside.cls ≠ "java/lang/invoke/VarHandle" ∧ (parseMethodDescriptor yX8_beside.desc).map (fun d => d.parameters.length) = some 2 := by decide +kernel
def fX8_beside (p0 : Int32) (p1 : Int64) : Option (Int64) := (fX8_column p0 (p0 - 1)).bind fun r1 => (fX8_column p0 0).bind fun r2 => some (((shlL (p1 &&& (r1 ^^^ (-1))) 1) ||| (ushrL (p1 &&& (r2 ^^^ (-1))) 1)))
set_option maxHeartbeats 4000000 in
set_option maxRecDepth 100000 in
theorem c_X8_beside {l : Launch} {z : Nat} {D : va_G} {K : Nat → ClassId} {σ : mwm} {p0 : Int32} {p1 : Int64} {v : Int64} (h : fX8_beside p0 p1 = some v) : Met l yX8_beside wsX8_beside ({ frames := 1, cells := 0, slots := 0, locals := 24 } : Room) (PCm z D K [.int p0, .long p1] σ) (qsL v) 0 0 (fun _ => False) := by
  refine mt_enter (cc := cX8_beside) (maxL := 3) (ret := (some .long)) (own := RX8) (lv := [(0, .int p0), (1, .long p1)]) (by decide) rfl rfl (Nat.le_of_ble_eq_true rfl) rfl ?_
  intro p e s m below meth c ls hC hx hb hown hts hK hr hlocks hnm hz hM hS hl
  unfold fX8_beside at h
  refine lv_lload_n hx hb dX8_beside_0 rfl (lv_at hl 1 rfl) ?_
  refine lv_iload_n hx hb dX8_beside_1 rfl (lv_at hl 0 rfl) ?_
  refine lv_iload_n hx hb dX8_beside_2 rfl (lv_at hl 0 rfl) ?_
  refine lv_iconst (v := 1) hx hb dX8_beside_3 (by decide) ?_
  refine lv_isub hx hb dX8_beside_4 ?_
  obtain ⟨r1, hr1, h⟩ := ob_some h
  refine mw_cl (mw_runS (As := [.int p0, .int (p0 - 1)]) (rest := [.long p1]) hC hM hS (c_X8_column (p0 := p0) (p1 := (p0 - 1)) (v := r1) hr1) gX8_beside_X8_column rfl rfl rfl q_X8_column ⟨Nat.le_of_ble_eq_true rfl, Nat.le_of_ble_eq_true rfl⟩ rfl rfl (Nat.le_of_ble_eq_true rfl) hl.1 dX8_beside_5 ⟨Nat.le_of_ble_eq_true rfl, Nat.le_of_ble_eq_true rfl⟩) ?_
  refine lv_ldc2 (v := -1) hx hb hown (hts _ l_X8_beside_0) dX8_beside_8 ?_
  refine lv_lxor hx hb dX8_beside_11 ?_
  refine lv_land hx hb dX8_beside_12 ?_
  refine lv_iconst (v := 1) hx hb dX8_beside_13 (by decide) ?_
  refine lv_lshl (v := (shlL (p1 &&& (r1 ^^^ (-1))) 1)) hx hb dX8_beside_14 rfl ?_
  refine lv_lload_n hx hb dX8_beside_15 rfl (lv_at hl 1 rfl) ?_
  refine lv_iload_n hx hb dX8_beside_16 rfl (lv_at hl 0 rfl) ?_
  refine lv_iconst (v := 0) hx hb dX8_beside_17 (by decide) ?_
  obtain ⟨r2, hr2, h⟩ := ob_some h
  refine mw_cl (mw_runS (As := [.int p0, .int 0]) (rest := [.long p1, .long (shlL (p1 &&& (r1 ^^^ (-1))) 1)]) hC hM hS (c_X8_column (p0 := p0) (p1 := 0) (v := r2) hr2) gX8_beside_X8_column rfl rfl rfl q_X8_column ⟨Nat.le_of_ble_eq_true rfl, Nat.le_of_ble_eq_true rfl⟩ rfl rfl (Nat.le_of_ble_eq_true rfl) hl.1 dX8_beside_18 ⟨Nat.le_of_ble_eq_true rfl, Nat.le_of_ble_eq_true rfl⟩) ?_
  refine lv_ldc2 (v := -1) hx hb hown (hts _ l_X8_beside_0) dX8_beside_21 ?_
  refine lv_lxor hx hb dX8_beside_24 ?_
  refine lv_land hx hb dX8_beside_25 ?_
  refine lv_iconst (v := 1) hx hb dX8_beside_26 (by decide) ?_
  refine lv_lushr (v := (ushrL (p1 &&& (r2 ^^^ (-1))) 1)) hx hb dX8_beside_27 rfl ?_
  refine lv_lor hx hb dX8_beside_28 ?_
  cases h
  exact W.lret hx hb hr (fun t ht hW => ⟨_, rfl, rfl, ht⟩) (fun _ h9 => by cases h9) dX8_beside_29 hlocks
theorem q_X8_aboveAndBelow : yX8_aboveAndBelow.cls ≠ "java/lang/invoke/MethodHandle" ∧ yX8_aboveAndBelow.cls ≠ "java/lang/invoke/VarHandle" ∧ (parseMethodDescriptor yX8_aboveAndBelow.desc).map (fun d => d.parameters.length) = some 2 := by decide +kernel
def fX8_aboveAndBelow (p0 : Int32) (p1 : Int64) : Int64 := ((((shlL p1 p0) ||| (ushrL p1 p0)) &&& ((shlL 1 (p0 * p0)) - 1)))
set_option maxHeartbeats 4000000 in
set_option maxRecDepth 100000 in
theorem c_X8_aboveAndBelow {l : Launch} {z : Nat} {D : va_G} {K : Nat → ClassId} {σ : mwm} {p0 : Int32} {p1 : Int64} {v : Int64} (h : fX8_aboveAndBelow p0 p1 = v) : Met l yX8_aboveAndBelow wsX8_aboveAndBelow ({ frames := 0, cells := 0, slots := 0, locals := 0 } : Room) (PCm z D K [.int p0, .long p1] σ) (qsL v) 0 0 (fun _ => False) := by
  refine mt_enter (cc := cX8_aboveAndBelow) (maxL := 3) (ret := (some .long)) (own := RX8) (lv := [(0, .int p0), (1, .long p1)]) (by decide) rfl rfl (Nat.le_of_ble_eq_true rfl) rfl ?_
  intro p e s m below meth c ls hC hx hb hown hts hK hr hlocks hnm hz hM hS hl
  unfold fX8_aboveAndBelow at h
  refine lv_lload_n hx hb dX8_aboveAndBelow_0 rfl (lv_at hl 1 rfl) ?_
  refine lv_iload_n hx hb dX8_aboveAndBelow_1 rfl (lv_at hl 0 rfl) ?_
  refine lv_lshl (v := (shlL p1 p0)) hx hb dX8_aboveAndBelow_2 rfl ?_
  refine lv_lload_n hx hb dX8_aboveAndBelow_3 rfl (lv_at hl 1 rfl) ?_
  refine lv_iload_n hx hb dX8_aboveAndBelow_4 rfl (lv_at hl 0 rfl) ?_
  refine lv_lushr (v := (ushrL p1 p0)) hx hb dX8_aboveAndBelow_5 rfl ?_
  refine lv_lor hx hb dX8_aboveAndBelow_6 ?_
  refine lv_lconst (v := 1) hx hb dX8_aboveAndBelow_7 (by decide) ?_
  refine lv_iload_n hx hb dX8_aboveAndBelow_8 rfl (lv_at hl 0 rfl) ?_
  refine lv_iload_n hx hb dX8_aboveAndBelow_9 rfl (lv_at hl 0 rfl) ?_
  refine lv_imul hx hb dX8_aboveAndBelow_10 ?_
  refine lv_lshl (v := (shlL 1 (p0 * p0))) hx hb dX8_aboveAndBelow_11 rfl ?_
  refine lv_lconst (v := 1) hx hb dX8_aboveAndBelow_12 (by decide) ?_
  refine lv_lsub hx hb dX8_aboveAndBelow_13 ?_
  refine lv_land hx hb dX8_aboveAndBelow_14 ?_
  subst h
  exact W.lret hx hb hr (fun t ht hW => ⟨_, rfl, rfl, ht⟩) (fun _ h9 => by cases h9) dX8_aboveAndBelow_15 hlocks
theorem q_X8_near : yX8_near.cls ≠ "java/lang/invoke/MethodHandle" ∧ yX8_near.cls ≠ "java/lang/invoke/VarHandle" ∧ (parseMethodDescriptor yX8_near.desc).map (fun d => d.parameters.length) = some 2 := by decide +kernel
def fX8_near (p0 : Int32) (p1 : Int64) : Option (Int64) := (fX8_beside p0 p1).bind fun r1 => some ((r1 ||| (fX8_aboveAndBelow p0 p1)))
set_option maxHeartbeats 4000000 in
set_option maxRecDepth 100000 in
theorem c_X8_near {l : Launch} {z : Nat} {D : va_G} {K : Nat → ClassId} {σ : mwm} {p0 : Int32} {p1 : Int64} {v : Int64} (h : fX8_near p0 p1 = some v) : Met l yX8_near wsX8_near ({ frames := 2, cells := 0, slots := 0, locals := 46 } : Room) (PCm z D K [.int p0, .long p1] σ) (qsL v) 0 0 (fun _ => False) := by
  refine mt_enter (cc := cX8_near) (maxL := 3) (ret := (some .long)) (own := RX8) (lv := [(0, .int p0), (1, .long p1)]) (by decide) rfl rfl (Nat.le_of_ble_eq_true rfl) rfl ?_
  intro p e s m below meth c ls hC hx hb hown hts hK hr hlocks hnm hz hM hS hl
  unfold fX8_near at h
  refine lv_iload_n hx hb dX8_near_0 rfl (lv_at hl 0 rfl) ?_
  refine lv_lload_n hx hb dX8_near_1 rfl (lv_at hl 1 rfl) ?_
  obtain ⟨r1, hr1, h⟩ := ob_some h
  refine mw_cl (mw_runS (As := [.int p0, .long p1]) (rest := []) hC hM hS (c_X8_beside (p0 := p0) (p1 := p1) (v := r1) hr1) gX8_near_X8_beside rfl rfl rfl q_X8_beside ⟨Nat.le_of_ble_eq_true rfl, Nat.le_of_ble_eq_true rfl⟩ rfl rfl (Nat.le_of_ble_eq_true rfl) hl.1 dX8_near_2 ⟨Nat.le_of_ble_eq_true rfl, Nat.le_of_ble_eq_true rfl⟩) ?_
  refine lv_iload_n hx hb dX8_near_5 rfl (lv_at hl 0 rfl) ?_
  refine lv_lload_n hx hb dX8_near_6 rfl (lv_at hl 1 rfl) ?_
  refine mw_cl (mw_runS (As := [.int p0, .long p1]) (rest := [.long r1]) hC hM hS (c_X8_aboveAndBelow (p0 := p0) (p1 := p1) (v := (fX8_aboveAndBelow p0 p1)) rfl) gX8_near_X8_aboveAndBelow rfl rfl rfl q_X8_aboveAndBelow ⟨Nat.le_of_ble_eq_true rfl, Nat.le_of_ble_eq_true rfl⟩ rfl rfl (Nat.le_of_ble_eq_true rfl) hl.1 dX8_near_7 ⟨Nat.le_of_ble_eq_true rfl, Nat.le_of_ble_eq_true rfl⟩) ?_
  refine lv_lor hx hb dX8_near_10 ?_
  cases h
  exact W.lret hx hb hr (fun t ht hW => ⟨_, rfl, rfl, ht⟩) (fun _ h9 => by cases h9) dX8_near_11 hlocks
theorem q_X8_corners : yX8_corners.cls ≠ "java/lang/invoke/MethodHandle" ∧ yX8_corners.cls ≠ "java/lang/invoke/VarHandle" ∧ (parseMethodDescriptor yX8_corners.desc).map (fun d => d.parameters.length) = some 2 := by decide +kernel
def fX8_corners (p0 : Int32) (p1 : Int32) : Option (Int64) := (fX8_beside p0 (shlL 1 p1)).bind fun r1 => some ((fX8_aboveAndBelow p0 r1))
set_option maxHeartbeats 4000000 in
set_option maxRecDepth 100000 in
theorem c_X8_corners {l : Launch} {z : Nat} {D : va_G} {K : Nat → ClassId} {σ : mwm} {p0 : Int32} {p1 : Int32} {v : Int64} (h : fX8_corners p0 p1 = some v) : Met l yX8_corners wsX8_corners ({ frames := 2, cells := 0, slots := 0, locals := 46 } : Room) (PCm z D K [.int p0, .int p1] σ) (qsL v) 0 0 (fun _ => False) := by
  refine mt_enter (cc := cX8_corners) (maxL := 2) (ret := (some .long)) (own := RX8) (lv := [(0, .int p0), (1, .int p1)]) (by decide) rfl rfl (Nat.le_of_ble_eq_true rfl) rfl ?_
  intro p e s m below meth c ls hC hx hb hown hts hK hr hlocks hnm hz hM hS hl
  unfold fX8_corners at h
  refine lv_iload_n hx hb dX8_corners_0 rfl (lv_at hl 0 rfl) ?_
  refine lv_iload_n hx hb dX8_corners_1 rfl (lv_at hl 0 rfl) ?_
  refine lv_lconst (v := 1) hx hb dX8_corners_2 (by decide) ?_
  refine lv_iload_n hx hb dX8_corners_3 rfl (lv_at hl 1 rfl) ?_
  refine lv_lshl (v := (shlL 1 p1)) hx hb dX8_corners_4 rfl ?_
  obtain ⟨r1, hr1, h⟩ := ob_some h
  refine mw_cl (mw_runS (As := [.int p0, .long (shlL 1 p1)]) (rest := [.int p0]) hC hM hS (c_X8_beside (p0 := p0) (p1 := (shlL 1 p1)) (v := r1) hr1) gX8_corners_X8_beside rfl rfl rfl q_X8_beside ⟨Nat.le_of_ble_eq_true rfl, Nat.le_of_ble_eq_true rfl⟩ rfl rfl (Nat.le_of_ble_eq_true rfl) hl.1 dX8_corners_5 ⟨Nat.le_of_ble_eq_true rfl, Nat.le_of_ble_eq_true rfl⟩) ?_
  refine mw_cl (mw_runS (As := [.int p0, .long r1]) (rest := []) hC hM hS (c_X8_aboveAndBelow (p0 := p0) (p1 := r1) (v := (fX8_aboveAndBelow p0 r1)) rfl) gX8_corners_X8_aboveAndBelow rfl rfl rfl q_X8_aboveAndBelow ⟨Nat.le_of_ble_eq_true rfl, Nat.le_of_ble_eq_true rfl⟩ rfl rfl (Nat.le_of_ble_eq_true rfl) hl.1 dX8_corners_8 ⟨Nat.le_of_ble_eq_true rfl, Nat.le_of_ble_eq_true rfl⟩) ?_
  cases h
  exact W.lret hx hb hr (fun t ht hW => ⟨_, rfl, rfl, ht⟩) (fun _ h9 => by cases h9) dX8_corners_11 hlocks
theorem q_X8_grown : yX8_grown.cls ≠ "java/lang/invoke/MethodHandle" ∧ yX8_grown.cls ≠ "java/lang/invoke/VarHandle" ∧ (parseMethodDescriptor yX8_grown.desc).map (fun d => d.parameters.length) = some 3 := by decide +kernel
def fX8_grown_14 (p0 : Int32) (p1 : Int64) (p2 : Int64) : Nat → Int64 → Int64 → Option (Int64)
  | 0, _, _ => none
  | fu + 1, x5, x7 => if x7 = x5 then (some (x5)) else ((fX8_near p0 x7).bind fun r3 => fX8_grown_14 p0 p1 p2 fu x7 ((x7 ||| r3) &&& p2))
def fX8_grown (p0 : Int32) (p1 : Int64) (p2 : Int64) : Option (Int64) := (fX8_near p0 p1).bind fun r1 => fX8_grown_14 p0 p1 p2 5000 p1 ((p1 ||| r1) &&& p2) 
set_option maxHeartbeats 4000000 in
set_option maxRecDepth 100000 in
theorem c_X8_grown {l : Launch} {z : Nat} {D : va_G} {K : Nat → ClassId} {σ : mwm} {p0 : Int32} {p1 : Int64} {p2 : Int64} {v : Int64} (h : fX8_grown p0 p1 p2 = some v) : Met l yX8_grown wsX8_grown ({ frames := 3, cells := 0, slots := 0, locals := 68 } : Room) (PCm z D K [.int p0, .long p1, .long p2] σ) (qsL v) 0 0 (fun _ => False) := by
  refine mt_enter (cc := cX8_grown) (maxL := 9) (ret := (some .long)) (own := RX8) (lv := [(0, .int p0), (1, .long p1), (3, .long p2)]) (by decide) rfl rfl (Nat.le_of_ble_eq_true rfl) rfl ?_
  intro p e s m below meth c ls hC hx hb hown hts hK hr hlocks hnm hz hM hS hl
  unfold fX8_grown at h
  refine lv_lload_n hx hb dX8_grown_0 rfl (lv_at hl 1 rfl) ?_
  refine lv_lstore (lv' := [(5, .long p1), (0, .int p0), (1, .long p1), (3, .long p2)]) hx hb dX8_grown_1 hl (by decide) rfl (fun ls hl => ?_)
  refine lv_lload_n hx hb dX8_grown_3 rfl (lv_at hl 2 rfl) ?_
  refine lv_iload_n hx hb dX8_grown_4 rfl (lv_at hl 1 rfl) ?_
  refine lv_lload_n hx hb dX8_grown_5 rfl (lv_at hl 2 rfl) ?_
  obtain ⟨r1, hr1, h⟩ := ob_some h
  refine mw_cl (mw_runS (As := [.int p0, .long p1]) (rest := [.long p1]) hC hM hS (c_X8_near (p0 := p0) (p1 := p1) (v := r1) hr1) gX8_grown_X8_near rfl rfl rfl q_X8_near ⟨Nat.le_of_ble_eq_true rfl, Nat.le_of_ble_eq_true rfl⟩ rfl rfl (Nat.le_of_ble_eq_true rfl) hl.1 dX8_grown_6 ⟨Nat.le_of_ble_eq_true rfl, Nat.le_of_ble_eq_true rfl⟩) ?_
  refine lv_lor hx hb dX8_grown_9 ?_
  refine lv_lload_n hx hb dX8_grown_10 rfl (lv_at hl 3 rfl) ?_
  refine lv_land hx hb dX8_grown_11 ?_
  refine lv_lstore (lv' := [(7, .long ((p1 ||| r1) &&& p2)), (5, .long p1), (0, .int p0), (1, .long p1), (3, .long p2)]) hx hb dX8_grown_12 hl (by decide) rfl (fun ls hl => ?_)
  have L14 : ∀ (fu0 : Nat) (x5 : Int64) (x7 : Int64), fX8_grown_14 p0 p1 p2 fu0 x5 x7 = some v → ∀ ls : Array Slot, lv_has ls 9 [(7, .long x7), (5, .long x5), (0, .int p0), (3, .long p2)] → W p l e ({ frames := 3, cells := 0, slots := 0, locals := 68 } : Room) s m ([.int p0, .long p1, .long p2] : List Value).toArray below meth c s.heap [] 0 0 (MQ below (qsL v) ([.int p0, .long p1, .long p2] : List Value).toArray s 0 0 (fun _ => False)) (F0 m 14 ls []) := by
    intro fu0
    induction fu0 with
    | zero =>
      intro x5 x7 h
      unfold fX8_grown_14 at h
      cases h
    | succ fu0 ih0 =>
      intro x5 x7 h ls hl
      unfold fX8_grown_14 at h
      refine lv_lload hx hb dX8_grown_14 (lv_at hl 0 rfl) ?_
      refine lv_lload hx hb dX8_grown_16 (lv_at hl 1 rfl) ?_
      refine W.lcmp hx hb dX8_grown_18 ?_
      refine lv_if_eq (tgt := 42) hx hb dX8_grown_19 (by decide) (fun c2 => ?_) (fun c2 => ?_)
      · replace c2 := (lg_cmp_eq _ _).mp c2
        replace h := it_pos c2 h
        refine lv_lload hx hb dX8_grown_42 (lv_at hl 1 rfl) ?_
        cases h
        exact W.lret hx hb hr (fun t ht hW => ⟨_, rfl, rfl, ht⟩) (fun _ h9 => by cases h9) dX8_grown_44 hlocks
      · replace c2 := mt (lg_cmp_eq _ _).mpr c2
        replace h := it_neg c2 h
        refine lv_lload hx hb dX8_grown_22 (lv_at hl 0 rfl) ?_
        refine lv_lstore (lv' := [(5, .long x7), (7, .long x7), (0, .int p0), (3, .long p2)]) hx hb dX8_grown_24 hl (by decide) rfl (fun ls hl => ?_)
        refine lv_lload hx hb dX8_grown_26 (lv_at hl 0 rfl) ?_
        refine lv_iload_n hx hb dX8_grown_28 rfl (lv_at hl 2 rfl) ?_
        refine lv_lload hx hb dX8_grown_29 (lv_at hl 0 rfl) ?_
        obtain ⟨r3, hr3, h⟩ := ob_some h
        refine mw_cl (mw_runS (As := [.int p0, .long x7]) (rest := [.long x7]) hC hM hS (c_X8_near (p0 := p0) (p1 := x7) (v := r3) hr3) gX8_grown_X8_near rfl rfl rfl q_X8_near ⟨Nat.le_of_ble_eq_true rfl, Nat.le_of_ble_eq_true rfl⟩ rfl rfl (Nat.le_of_ble_eq_true rfl) hl.1 dX8_grown_31 ⟨Nat.le_of_ble_eq_true rfl, Nat.le_of_ble_eq_true rfl⟩) ?_
        refine lv_lor hx hb dX8_grown_34 ?_
        refine lv_lload_n hx hb dX8_grown_35 rfl (lv_at hl 3 rfl) ?_
        refine lv_land hx hb dX8_grown_36 ?_
        refine lv_lstore (lv' := [(7, .long ((x7 ||| r3) &&& p2)), (5, .long x7), (0, .int p0), (3, .long p2)]) hx hb dX8_grown_37 hl (by decide) rfl (fun ls hl => ?_)
        refine lv_goto (tgt := 14) hx hb dX8_grown_39 (by decide) ?_
        exact ih0 x7 ((x7 ||| r3) &&& p2) h ls (lv_sub hl [0, 1, 2, 3] rfl)
  exact L14 5000 p1 ((p1 ||| r1) &&& p2)  h ls (lv_sub hl [0, 1, 2, 4] rfl)
theorem l_X8_liberties_0 : Cond.constantLong RX8 66 (-1) ∈ wsX8_liberties := (List.mem_cons_of_mem _ (List.mem_of_getElem? (i := 0) rfl))
theorem q_X8_liberties : yX8_liberties.cls ≠ "java/lang/invoke/MethodHandle" ∧ yX8_liberties.cls ≠ "java/lang/invoke/VarHandle" ∧ (parseMethodDescriptor yX8_liberties.desc).map (fun d => d.parameters.length) = some 3 := by decide +kernel
def fX8_liberties (p0 : Int32) (p1 : Int64) (p2 : Int64) : Option (Int64) := (fX8_near p0 p1).bind fun r1 => some (((r1 &&& (p1 ^^^ (-1))) &&& (p2 ^^^ (-1))))
set_option maxHeartbeats 4000000 in
set_option maxRecDepth 100000 in
theorem c_X8_liberties {l : Launch} {z : Nat} {D : va_G} {K : Nat → ClassId} {σ : mwm} {p0 : Int32} {p1 : Int64} {p2 : Int64} {v : Int64} (h : fX8_liberties p0 p1 p2 = some v) : Met l yX8_liberties wsX8_liberties ({ frames := 3, cells := 0, slots := 0, locals := 68 } : Room) (PCm z D K [.int p0, .long p1, .long p2] σ) (qsL v) 0 0 (fun _ => False) := by
  refine mt_enter (cc := cX8_liberties) (maxL := 5) (ret := (some .long)) (own := RX8) (lv := [(0, .int p0), (1, .long p1), (3, .long p2)]) (by decide) rfl rfl (Nat.le_of_ble_eq_true rfl) rfl ?_
  intro p e s m below meth c ls hC hx hb hown hts hK hr hlocks hnm hz hM hS hl
  unfold fX8_liberties at h
  refine lv_iload_n hx hb dX8_liberties_0 rfl (lv_at hl 0 rfl) ?_
  refine lv_lload_n hx hb dX8_liberties_1 rfl (lv_at hl 1 rfl) ?_
  obtain ⟨r1, hr1, h⟩ := ob_some h
  refine mw_cl (mw_runS (As := [.int p0, .long p1]) (rest := []) hC hM hS (c_X8_near (p0 := p0) (p1 := p1) (v := r1) hr1) gX8_liberties_X8_near rfl rfl rfl q_X8_near ⟨Nat.le_of_ble_eq_true rfl, Nat.le_of_ble_eq_true rfl⟩ rfl rfl (Nat.le_of_ble_eq_true rfl) hl.1 dX8_liberties_2 ⟨Nat.le_of_ble_eq_true rfl, Nat.le_of_ble_eq_true rfl⟩) ?_
  refine lv_lload_n hx hb dX8_liberties_5 rfl (lv_at hl 1 rfl) ?_
  refine lv_ldc2 (v := -1) hx hb hown (hts _ l_X8_liberties_0) dX8_liberties_6 ?_
  refine lv_lxor hx hb dX8_liberties_9 ?_
  refine lv_land hx hb dX8_liberties_10 ?_
  refine lv_lload_n hx hb dX8_liberties_11 rfl (lv_at hl 2 rfl) ?_
  refine lv_ldc2 (v := -1) hx hb hown (hts _ l_X8_liberties_0) dX8_liberties_12 ?_
  refine lv_lxor hx hb dX8_liberties_15 ?_
  refine lv_land hx hb dX8_liberties_16 ?_
  cases h
  exact W.lret hx hb hr (fun t ht hW => ⟨_, rfl, rfl, ht⟩) (fun _ h9 => by cases h9) dX8_liberties_17 hlocks
theorem l_X8_lays_0 : Cond.fieldLink RX8 78 "CornerStonesModel" "own" "J" ∈ wsX8_lays := (List.mem_cons_of_mem _ (List.mem_append_left _ (List.mem_append_left _ (List.mem_of_getElem? (i := 0) rfl))))
theorem i_X8_lays_X8 : ∀ w ∈ wsX80, w ∈ wsX8_lays := fun _ h => (List.mem_cons_of_mem _ (List.mem_append_right _ h))
theorem l_X8_lays_2 : Cond.fieldLink RX8 82 "CornerStonesModel" "others" "J" ∈ wsX8_lays := (List.mem_cons_of_mem _ (List.mem_append_left _ (List.mem_append_left _ (List.mem_of_getElem? (i := 1) rfl))))
theorem l_X8_lays_3 : Cond.fieldLink RX8 85 "CornerStonesModel" "taken" "I" ∈ wsX8_lays := (List.mem_cons_of_mem _ (List.mem_append_left _ (List.mem_append_left _ (List.mem_of_getElem? (i := 2) rfl))))
theorem l_X8_lays_4 : Cond.fieldLink RX8 99 "CornerStonesModel" "free" "J" ∈ wsX8_lays := (List.mem_cons_of_mem _ (List.mem_append_left _ (List.mem_append_left _ (List.mem_of_getElem? (i := 4) rfl))))
theorem l_X8_lays_5 : Cond.constantLong RX8 66 (-1) ∈ wsX8_lays := (List.mem_cons_of_mem _ (List.mem_append_left _ (List.mem_append_left _ (List.mem_of_getElem? (i := 3) rfl))))
theorem q_X8_lays : yX8_lays.cls ≠ "java/lang/invoke/MethodHandle" ∧ yX8_lays.cls ≠ "java/lang/invoke/VarHandle" ∧ (parseMethodDescriptor yX8_lays.desc).map (fun d => d.parameters.length) = some 4 := by decide +kernel
def fX8_lays_34 (w_t : Int32 × Int32 × Int32 × Int64 × Int64 × Int32 × Int64 × Int32 × Int32 × Int32) (p0 : Int32) (p1 : Int64) (p2 : Int64) (p3 : Int32) : Nat → Int64 → (Int32 × Int32 × Int32 × Int64 × Int64 × Int32 × Int64 × Int32 × Int32 × Int32) → Option (Bool × (Int32 × Int32 × Int32 × Int64 × Int64 × Int32 × Int64 × Int32 × Int32 × Int32))
  | 0, _, _ => none
  | fu + 1, x7, y_t => if x7 = 0 then ((fX8_grown p0 (shlL 1 p3) y_t.2.2.2.1).bind fun r9 => (fX8_liberties p0 r9 (y_t.2.2.2.1 ||| y_t.2.2.2.2.1)).bind fun r10 => if r10 = 0 then (some ((false, (y_t.1, y_t.2.1, y_t.2.2.1, y_t.2.2.2.1, y_t.2.2.2.2.1, y_t.2.2.2.2.2.1, r10, y_t.2.2.2.2.2.2.2.1, y_t.2.2.2.2.2.2.2.2.1, y_t.2.2.2.2.2.2.2.2.2)))) else (some ((true, (y_t.1, y_t.2.1, y_t.2.2.1, y_t.2.2.2.1, y_t.2.2.2.2.1, y_t.2.2.2.2.2.1, r10, y_t.2.2.2.2.2.2.2.1, y_t.2.2.2.2.2.2.2.2.1, y_t.2.2.2.2.2.2.2.2.2))))) else ((fX8_grown p0 (x7 &&& (-x7)) p2).bind fun r14 => (fX8_liberties p0 r14 (y_t.2.2.2.1 ||| p2)).bind fun r15 => if r15 = 0 then ((fX8_bits r14).bind fun r19 => fX8_lays_34 w_t p0 p1 p2 p3 fu (x7 &&& (r14 ^^^ (-1))) (y_t.1, y_t.2.1, y_t.2.2.1, y_t.2.2.2.1, (y_t.2.2.2.2.1 &&& (r14 ^^^ (-1))), (y_t.2.2.2.2.2.1 + r19), y_t.2.2.2.2.2.2.1, y_t.2.2.2.2.2.2.2.1, y_t.2.2.2.2.2.2.2.2.1, y_t.2.2.2.2.2.2.2.2.2)) else (fX8_lays_34 w_t p0 p1 p2 p3 fu (x7 &&& (r14 ^^^ (-1))) y_t))
def fX8_lays (w_t : Int32 × Int32 × Int32 × Int64 × Int64 × Int32 × Int64 × Int32 × Int32 × Int32) (p0 : Int32) (p1 : Int64) (p2 : Int64) (p3 : Int32) : Option (Bool × (Int32 × Int32 × Int32 × Int64 × Int64 × Int32 × Int64 × Int32 × Int32 × Int32)) := (fX8_near p0 (shlL 1 p3)).bind fun r7 => fX8_lays_34 w_t p0 p1 p2 p3 5000 (r7 &&& p2) (w_t.1, w_t.2.1, w_t.2.2.1, (p1 ||| (shlL 1 p3)), p2, (0 : Int32), w_t.2.2.2.2.2.2.1, w_t.2.2.2.2.2.2.2.1, w_t.2.2.2.2.2.2.2.2.1, w_t.2.2.2.2.2.2.2.2.2)
set_option maxHeartbeats 4000000 in
set_option maxRecDepth 100000 in
theorem c_X8_lays {l : Launch} {z : Nat} {D : va_G} {K : Nat → ClassId} {σ : mwm} {a_t a_t_text a_t_now a_t_trial a_t_diary a_t_kept a_t_isKept a_t_owners a_t_chasers a_t_lefts : Nat} {w_t : Int32 × Int32 × Int32 × Int64 × Int64 × Int32 × Int64 × Int32 × Int32 × Int32} {p0 : Int32} {p1 : Int64} {p2 : Int64} {p3 : Int32} (hc_t : σ a_t = some (cl6 a_t_text a_t_now a_t_trial a_t_diary a_t_kept a_t_isKept a_t_owners a_t_chasers a_t_lefts w_t)) {v : Bool × (Int32 × Int32 × Int32 × Int64 × Int64 × Int32 × Int64 × Int32 × Int32 × Int32)} (h : fX8_lays w_t p0 p1 p2 p3 = some v) : Met l yX8_lays wsX8_lays ({ frames := 4, cells := 0, slots := 0, locals := 96 } : Room) (PCm z D K [.ref a_t, .int p0, .long p1, .long p2, .int p3] σ) (qwI z D (fun r σ2 => r = b2i v.1 ∧ σ2 a_t = some (cl6 a_t_text a_t_now a_t_trial a_t_diary a_t_kept a_t_isKept a_t_owners a_t_chasers a_t_lefts v.2) ∧ ∀ (q : Nat) (f : va_E), σ q = some f → q ≠ a_t → σ2 q = some f)) 0 0 (zA z) := by
  refine mt_enter (cc := cX8_lays) (maxL := 11) (ret := (some .boolean)) (own := RX8) (lv := [(0, .ref a_t), (1, .int p0), (2, .long p1), (4, .long p2), (6, .int p3)]) (by decide) rfl rfl (Nat.le_of_ble_eq_true rfl) rfl ?_
  intro p e s m below meth c ls hC hx hb hown hts hK hr hlocks hnm hz hM hS hl
  unfold fX8_lays at h
  refine lv_aload_n hx hb dX8_lays_0 rfl (lv_at hl 0 rfl) ?_
  refine lv_lload_n hx hb dX8_lays_1 rfl (lv_at hl 2 rfl) ?_
  refine lv_lconst (v := 1) hx hb dX8_lays_2 (by decide) ?_
  refine lv_iload hx hb dX8_lays_3 (lv_at hl 4 rfl) ?_
  refine lv_lshl (v := (shlL 1 p3)) hx hb dX8_lays_5 rfl ?_
  refine lv_lor hx hb dX8_lays_6 ?_
  refine mw_put (ci := 6) (C := RX8) (T := TX8) (N := 19) (ty := .long) hC i_X8_lays_X8 tyX8 tyX8_ok nmX8 hM hS hc_t rfl 9 (by decide) l_X8_lays_0 rfl rfl (by decide +kernel) rfl rfl (Nat.le_of_ble_eq_true rfl) dX8_lays_7 (fun H locs σ1 hM hS hc_t ho1 => ?_)
  replace hc_t : σ1 a_t = some (cl6 a_t_text a_t_now a_t_trial a_t_diary a_t_kept a_t_isKept a_t_owners a_t_chasers a_t_lefts (w_t.1, w_t.2.1, w_t.2.2.1, (p1 ||| (shlL 1 p3)), w_t.2.2.2.2.1, w_t.2.2.2.2.2.1, w_t.2.2.2.2.2.2.1, w_t.2.2.2.2.2.2.2.1, w_t.2.2.2.2.2.2.2.2.1, w_t.2.2.2.2.2.2.2.2.2)) := hc_t
  have hf2 := fun (q : Nat) (f : va_E) (hf : σ q = some f) (n0 : q ≠ a_t) => ho1 q f hf n0
  refine lv_aload_n hx hb dX8_lays_10 rfl (lv_at hl 0 rfl) ?_
  refine lv_lload hx hb dX8_lays_11 (lv_at hl 3 rfl) ?_
  refine mw_put (ci := 6) (C := RX8) (T := TX8) (N := 19) (ty := .long) hC i_X8_lays_X8 tyX8 tyX8_ok nmX8 hM hS hc_t rfl 10 (by decide) l_X8_lays_2 rfl rfl (by decide +kernel) rfl rfl (Nat.le_of_ble_eq_true rfl) dX8_lays_13 (fun H locs σ1 hM hS hc_t ho3 => ?_)
  replace hc_t : σ1 a_t = some (cl6 a_t_text a_t_now a_t_trial a_t_diary a_t_kept a_t_isKept a_t_owners a_t_chasers a_t_lefts (w_t.1, w_t.2.1, w_t.2.2.1, (p1 ||| (shlL 1 p3)), p2, w_t.2.2.2.2.2.1, w_t.2.2.2.2.2.2.1, w_t.2.2.2.2.2.2.2.1, w_t.2.2.2.2.2.2.2.2.1, w_t.2.2.2.2.2.2.2.2.2)) := hc_t
  have hf4 := fun (q : Nat) (f : va_E) (hf : σ q = some f) (n0 : q ≠ a_t) => ho3 q f (hf2 q f hf n0) n0
  refine lv_aload_n hx hb dX8_lays_16 rfl (lv_at hl 0 rfl) ?_
  refine lv_iconst (v := 0) hx hb dX8_lays_17 (by decide) ?_
  refine mw_put (ci := 6) (C := RX8) (T := TX8) (N := 19) (ty := .int) hC i_X8_lays_X8 tyX8 tyX8_ok nmX8 hM hS hc_t rfl 11 (by decide) l_X8_lays_3 rfl rfl (by decide +kernel) rfl rfl (Nat.le_of_ble_eq_true rfl) dX8_lays_18 (fun H locs σ1 hM hS hc_t ho5 => ?_)
  replace hc_t : σ1 a_t = some (cl6 a_t_text a_t_now a_t_trial a_t_diary a_t_kept a_t_isKept a_t_owners a_t_chasers a_t_lefts (w_t.1, w_t.2.1, w_t.2.2.1, (p1 ||| (shlL 1 p3)), p2, (0 : Int32), w_t.2.2.2.2.2.2.1, w_t.2.2.2.2.2.2.2.1, w_t.2.2.2.2.2.2.2.2.1, w_t.2.2.2.2.2.2.2.2.2)) := hc_t
  have hf6 := fun (q : Nat) (f : va_E) (hf : σ q = some f) (n0 : q ≠ a_t) => ho5 q f (hf4 q f hf n0) n0
  refine lv_iload_n hx hb dX8_lays_21 rfl (lv_at hl 1 rfl) ?_
  refine lv_lconst (v := 1) hx hb dX8_lays_22 (by decide) ?_
  refine lv_iload hx hb dX8_lays_23 (lv_at hl 4 rfl) ?_
  refine lv_lshl (v := (shlL 1 p3)) hx hb dX8_lays_25 rfl ?_
  obtain ⟨r7, hr7, h⟩ := ob_some h
  refine mw_cl (mw_runS (As := [.int p0, .long (shlL 1 p3)]) (rest := []) hC hM hS (c_X8_near (p0 := p0) (p1 := (shlL 1 p3)) (v := r7) hr7) gX8_lays_X8_near rfl rfl rfl q_X8_near ⟨Nat.le_of_ble_eq_true rfl, Nat.le_of_ble_eq_true rfl⟩ rfl rfl (Nat.le_of_ble_eq_true rfl) hl.1 dX8_lays_26 ⟨Nat.le_of_ble_eq_true rfl, Nat.le_of_ble_eq_true rfl⟩) ?_
  refine lv_lload hx hb dX8_lays_29 (lv_at hl 3 rfl) ?_
  refine lv_land hx hb dX8_lays_31 ?_
  refine lv_lstore (lv' := [(7, .long (r7 &&& p2)), (0, .ref a_t), (1, .int p0), (2, .long p1), (4, .long p2), (6, .int p3)]) hx hb dX8_lays_32 hl (by decide) rfl (fun ls hl => ?_)
  have L34 : ∀ (fu0 : Nat) (x7 : Int64) (y_t : Int32 × Int32 × Int32 × Int64 × Int64 × Int32 × Int64 × Int32 × Int32 × Int32) (H : Heap) (locs : List Loc) (σ1 : mwm), MW z D σ1 H → va_S (zA z) s.heap H locs → σ1 a_t = some (cl6 a_t_text a_t_now a_t_trial a_t_diary a_t_kept a_t_isKept a_t_owners a_t_chasers a_t_lefts y_t) → (∀ (q : Nat) (f : va_E), σ q = some f → q ≠ a_t → σ1 q = some f) → fX8_lays_34 w_t p0 p1 p2 p3 fu0 x7 y_t = some v → ∀ ls : Array Slot, lv_has ls 11 [(7, .long x7), (0, .ref a_t), (1, .int p0), (4, .long p2), (6, .int p3)] → W p l e ({ frames := 4, cells := 0, slots := 0, locals := 96 } : Room) s m ([.ref a_t, .int p0, .long p1, .long p2, .int p3] : List Value).toArray below meth c H locs 0 0 (MQ below (qwI z D (fun r σ2 => r = b2i v.1 ∧ σ2 a_t = some (cl6 a_t_text a_t_now a_t_trial a_t_diary a_t_kept a_t_isKept a_t_owners a_t_chasers a_t_lefts v.2) ∧ ∀ (q : Nat) (f : va_E), σ q = some f → q ≠ a_t → σ2 q = some f)) ([.ref a_t, .int p0, .long p1, .long p2, .int p3] : List Value).toArray s 0 0 (zA z)) (F0 m 34 ls []) := by
    intro fu0
    induction fu0 with
    | zero =>
      intro x7 y_t H locs σ1 hM hS hc_t hfL h
      unfold fX8_lays_34 at h
      cases h
    | succ fu0 ih0 =>
      intro x7 y_t H locs σ1 hM hS hc_t hfL h ls hl
      unfold fX8_lays_34 at h
      refine lv_lload hx hb dX8_lays_34 (lv_at hl 0 rfl) ?_
      refine lv_lconst (v := 0) hx hb dX8_lays_36 (by decide) ?_
      refine W.lcmp hx hb dX8_lays_37 ?_
      refine lv_if_eq (tgt := 116) hx hb dX8_lays_38 (by decide) (fun c8 => ?_) (fun c8 => ?_)
      · replace c8 := (lg_cmp_eq _ _).mp c8
        replace h := it_pos c8 h
        refine lv_aload_n hx hb dX8_lays_116 rfl (lv_at hl 1 rfl) ?_
        refine lv_iload_n hx hb dX8_lays_117 rfl (lv_at hl 2 rfl) ?_
        refine lv_iload_n hx hb dX8_lays_118 rfl (lv_at hl 2 rfl) ?_
        refine lv_lconst (v := 1) hx hb dX8_lays_119 (by decide) ?_
        refine lv_iload hx hb dX8_lays_120 (lv_at hl 4 rfl) ?_
        refine lv_lshl (v := (shlL 1 p3)) hx hb dX8_lays_122 rfl ?_
        refine lv_aload_n hx hb dX8_lays_123 rfl (lv_at hl 1 rfl) ?_
        refine mw_get (ci := 6) (C := RX8) (T := TX8) (N := 19) (v := .long y_t.2.2.2.1) hC i_X8_lays_X8 hM hc_t rfl 9 (by decide) l_X8_lays_0 rfl rfl dX8_lays_124 ?_
        obtain ⟨r9, hr9, h⟩ := ob_some h
        refine mw_cl (mw_runS (As := [.int p0, .long (shlL 1 p3), .long y_t.2.2.2.1]) (rest := [.int p0, .ref a_t]) hC hM hS (c_X8_grown (p0 := p0) (p1 := (shlL 1 p3)) (p2 := y_t.2.2.2.1) (v := r9) hr9) gX8_lays_X8_grown rfl rfl rfl q_X8_grown ⟨Nat.le_of_ble_eq_true rfl, Nat.le_of_ble_eq_true rfl⟩ rfl rfl (Nat.le_of_ble_eq_true rfl) hl.1 dX8_lays_127 ⟨Nat.le_of_ble_eq_true rfl, Nat.le_of_ble_eq_true rfl⟩) ?_
        refine lv_aload_n hx hb dX8_lays_130 rfl (lv_at hl 1 rfl) ?_
        refine mw_get (ci := 6) (C := RX8) (T := TX8) (N := 19) (v := .long y_t.2.2.2.1) hC i_X8_lays_X8 hM hc_t rfl 9 (by decide) l_X8_lays_0 rfl rfl dX8_lays_131 ?_
        refine lv_aload_n hx hb dX8_lays_134 rfl (lv_at hl 1 rfl) ?_
        refine mw_get (ci := 6) (C := RX8) (T := TX8) (N := 19) (v := .long y_t.2.2.2.2.1) hC i_X8_lays_X8 hM hc_t rfl 10 (by decide) l_X8_lays_2 rfl rfl dX8_lays_135 ?_
        refine lv_lor hx hb dX8_lays_138 ?_
        obtain ⟨r10, hr10, h⟩ := ob_some h
        refine mw_cl (mw_runS (As := [.int p0, .long r9, .long (y_t.2.2.2.1 ||| y_t.2.2.2.2.1)]) (rest := [.ref a_t]) hC hM hS (c_X8_liberties (p0 := p0) (p1 := r9) (p2 := (y_t.2.2.2.1 ||| y_t.2.2.2.2.1)) (v := r10) hr10) gX8_lays_X8_liberties rfl rfl rfl q_X8_liberties ⟨Nat.le_of_ble_eq_true rfl, Nat.le_of_ble_eq_true rfl⟩ rfl rfl (Nat.le_of_ble_eq_true rfl) hl.1 dX8_lays_139 ⟨Nat.le_of_ble_eq_true rfl, Nat.le_of_ble_eq_true rfl⟩) ?_
        refine mw_put (ci := 6) (C := RX8) (T := TX8) (N := 19) (ty := .long) hC i_X8_lays_X8 tyX8 tyX8_ok nmX8 hM hS hc_t rfl 12 (by decide) l_X8_lays_4 rfl rfl (by decide +kernel) rfl rfl (Nat.le_of_ble_eq_true rfl) dX8_lays_142 (fun H locs σ1 hM hS hc_t ho11 => ?_)
        replace hc_t : σ1 a_t = some (cl6 a_t_text a_t_now a_t_trial a_t_diary a_t_kept a_t_isKept a_t_owners a_t_chasers a_t_lefts (y_t.1, y_t.2.1, y_t.2.2.1, y_t.2.2.2.1, y_t.2.2.2.2.1, y_t.2.2.2.2.2.1, r10, y_t.2.2.2.2.2.2.2.1, y_t.2.2.2.2.2.2.2.2.1, y_t.2.2.2.2.2.2.2.2.2)) := hc_t
        have hf12 := fun (q : Nat) (f : va_E) (hf : σ q = some f) (n0 : q ≠ a_t) => ho11 q f (hfL q f hf n0) n0
        refine lv_aload_n hx hb dX8_lays_145 rfl (lv_at hl 1 rfl) ?_
        refine mw_get (ci := 6) (C := RX8) (T := TX8) (N := 19) (v := .long r10) hC i_X8_lays_X8 hM hc_t rfl 12 (by decide) l_X8_lays_4 rfl rfl dX8_lays_146 ?_
        refine lv_lconst (v := 0) hx hb dX8_lays_149 (by decide) ?_
        refine W.lcmp hx hb dX8_lays_150 ?_
        refine lv_if_eq (tgt := 158) hx hb dX8_lays_151 (by decide) (fun c13 => ?_) (fun c13 => ?_)
        · replace c13 := (lg_cmp_eq _ _).mp c13
          replace h := it_pos c13 h
          refine lv_iconst (v := 0) hx hb dX8_lays_158 (by decide) ?_
          cases h
          exact W.zret (ty := .boolean) (v := b2i false) hx hb hr (b2i_nar _) (fun t ht hW => ⟨⟨_, _, rfl, ⟨rfl, hc_t, hf12⟩, by show MW z D _ t.heap; rw [ht]; exact hM⟩, hS.F ht⟩) hS.2.2 dX8_lays_159 hlocks
        · replace c13 := mt (lg_cmp_eq _ _).mpr c13
          replace h := it_neg c13 h
          refine lv_iconst (v := 1) hx hb dX8_lays_154 (by decide) ?_
          refine lv_goto (tgt := 159) hx hb dX8_lays_155 (by decide) ?_
          cases h
          exact W.zret (ty := .boolean) (v := b2i true) hx hb hr (b2i_nar _) (fun t ht hW => ⟨⟨_, _, rfl, ⟨rfl, hc_t, hf12⟩, by show MW z D _ t.heap; rw [ht]; exact hM⟩, hS.F ht⟩) hS.2.2 dX8_lays_159 hlocks
      · replace c8 := mt (lg_cmp_eq _ _).mpr c8
        replace h := it_neg c8 h
        refine lv_iload_n hx hb dX8_lays_41 rfl (lv_at hl 2 rfl) ?_
        refine lv_lload hx hb dX8_lays_42 (lv_at hl 0 rfl) ?_
        refine lv_lload hx hb dX8_lays_44 (lv_at hl 0 rfl) ?_
        refine lv_lneg hx hb dX8_lays_46 ?_
        refine lv_land hx hb dX8_lays_47 ?_
        refine lv_lload hx hb dX8_lays_48 (lv_at hl 3 rfl) ?_
        obtain ⟨r14, hr14, h⟩ := ob_some h
        refine mw_cl (mw_runS (As := [.int p0, .long (x7 &&& (-x7)), .long p2]) (rest := []) hC hM hS (c_X8_grown (p0 := p0) (p1 := (x7 &&& (-x7))) (p2 := p2) (v := r14) hr14) gX8_lays_X8_grown rfl rfl rfl q_X8_grown ⟨Nat.le_of_ble_eq_true rfl, Nat.le_of_ble_eq_true rfl⟩ rfl rfl (Nat.le_of_ble_eq_true rfl) hl.1 dX8_lays_50 ⟨Nat.le_of_ble_eq_true rfl, Nat.le_of_ble_eq_true rfl⟩) ?_
        refine lv_lstore (lv' := [(9, .long r14), (7, .long x7), (0, .ref a_t), (1, .int p0), (4, .long p2), (6, .int p3)]) hx hb dX8_lays_53 hl (by decide) rfl (fun ls hl => ?_)
        refine lv_lload hx hb dX8_lays_55 (lv_at hl 1 rfl) ?_
        refine lv_lload hx hb dX8_lays_57 (lv_at hl 0 rfl) ?_
        refine lv_ldc2 (v := -1) hx hb hown (hts _ l_X8_lays_5) dX8_lays_59 ?_
        refine lv_lxor hx hb dX8_lays_62 ?_
        refine lv_land hx hb dX8_lays_63 ?_
        refine lv_lstore (lv' := [(7, .long (x7 &&& (r14 ^^^ (-1)))), (9, .long r14), (0, .ref a_t), (1, .int p0), (4, .long p2), (6, .int p3)]) hx hb dX8_lays_64 hl (by decide) rfl (fun ls hl => ?_)
        refine lv_iload_n hx hb dX8_lays_66 rfl (lv_at hl 3 rfl) ?_
        refine lv_lload hx hb dX8_lays_67 (lv_at hl 1 rfl) ?_
        refine lv_aload_n hx hb dX8_lays_69 rfl (lv_at hl 2 rfl) ?_
        refine mw_get (ci := 6) (C := RX8) (T := TX8) (N := 19) (v := .long y_t.2.2.2.1) hC i_X8_lays_X8 hM hc_t rfl 9 (by decide) l_X8_lays_0 rfl rfl dX8_lays_70 ?_
        refine lv_lload hx hb dX8_lays_73 (lv_at hl 4 rfl) ?_
        refine lv_lor hx hb dX8_lays_75 ?_
        obtain ⟨r15, hr15, h⟩ := ob_some h
        refine mw_cl (mw_runS (As := [.int p0, .long r14, .long (y_t.2.2.2.1 ||| p2)]) (rest := []) hC hM hS (c_X8_liberties (p0 := p0) (p1 := r14) (p2 := (y_t.2.2.2.1 ||| p2)) (v := r15) hr15) gX8_lays_X8_liberties rfl rfl rfl q_X8_liberties ⟨Nat.le_of_ble_eq_true rfl, Nat.le_of_ble_eq_true rfl⟩ rfl rfl (Nat.le_of_ble_eq_true rfl) hl.1 dX8_lays_76 ⟨Nat.le_of_ble_eq_true rfl, Nat.le_of_ble_eq_true rfl⟩) ?_
        refine lv_lconst (v := 0) hx hb dX8_lays_79 (by decide) ?_
        refine W.lcmp hx hb dX8_lays_80 ?_
        refine lv_if_ne (tgt := 113) hx hb dX8_lays_81 (by decide) (fun c16 => ?_) (fun c16 => ?_)
        · replace c16 := mt (lg_cmp_eq _ _).mpr c16
          replace h := it_neg c16 h
          refine lv_goto (tgt := 34) hx hb dX8_lays_113 (by decide) ?_
          exact ih0 (x7 &&& (r14 ^^^ (-1))) y_t _ _ _ hM hS hc_t hfL h ls (lv_sub hl [0, 2, 3, 4, 5] rfl)
        · replace c16 := (lg_cmp_eq _ _).mp c16
          replace h := it_pos c16 h
          refine lv_aload_n hx hb dX8_lays_84 rfl (lv_at hl 2 rfl) ?_
          refine lv_dup hx hb dX8_lays_85 rfl ?_
          refine mw_get (ci := 6) (C := RX8) (T := TX8) (N := 19) (v := .long y_t.2.2.2.2.1) hC i_X8_lays_X8 hM hc_t rfl 10 (by decide) l_X8_lays_2 rfl rfl dX8_lays_86 ?_
          refine lv_lload hx hb dX8_lays_89 (lv_at hl 1 rfl) ?_
          refine lv_ldc2 (v := -1) hx hb hown (hts _ l_X8_lays_5) dX8_lays_91 ?_
          refine lv_lxor hx hb dX8_lays_94 ?_
          refine lv_land hx hb dX8_lays_95 ?_
          refine mw_put (ci := 6) (C := RX8) (T := TX8) (N := 19) (ty := .long) hC i_X8_lays_X8 tyX8 tyX8_ok nmX8 hM hS hc_t rfl 10 (by decide) l_X8_lays_2 rfl rfl (by decide +kernel) rfl rfl (Nat.le_of_ble_eq_true rfl) dX8_lays_96 (fun H locs σ1 hM hS hc_t ho17 => ?_)
          replace hc_t : σ1 a_t = some (cl6 a_t_text a_t_now a_t_trial a_t_diary a_t_kept a_t_isKept a_t_owners a_t_chasers a_t_lefts (y_t.1, y_t.2.1, y_t.2.2.1, y_t.2.2.2.1, (y_t.2.2.2.2.1 &&& (r14 ^^^ (-1))), y_t.2.2.2.2.2.1, y_t.2.2.2.2.2.2.1, y_t.2.2.2.2.2.2.2.1, y_t.2.2.2.2.2.2.2.2.1, y_t.2.2.2.2.2.2.2.2.2)) := hc_t
          have hf18 := fun (q : Nat) (f : va_E) (hf : σ q = some f) (n0 : q ≠ a_t) => ho17 q f (hfL q f hf n0) n0
          refine lv_aload_n hx hb dX8_lays_99 rfl (lv_at hl 2 rfl) ?_
          refine lv_dup hx hb dX8_lays_100 rfl ?_
          refine mw_get (ci := 6) (C := RX8) (T := TX8) (N := 19) (v := .int y_t.2.2.2.2.2.1) hC i_X8_lays_X8 hM hc_t rfl 11 (by decide) l_X8_lays_3 rfl rfl dX8_lays_101 ?_
          refine lv_lload hx hb dX8_lays_104 (lv_at hl 1 rfl) ?_
          obtain ⟨r19, hr19, h⟩ := ob_some h
          refine mw_ci (mw_runS (As := [.long r14]) (rest := [.int y_t.2.2.2.2.2.1, .ref a_t]) hC hM hS (c_X8_bits (p0 := r14) (v := r19) hr19) gX8_lays_X8_bits rfl rfl rfl q_X8_bits ⟨Nat.le_of_ble_eq_true rfl, Nat.le_of_ble_eq_true rfl⟩ rfl rfl (Nat.le_of_ble_eq_true rfl) hl.1 dX8_lays_106 ⟨Nat.le_of_ble_eq_true rfl, Nat.le_of_ble_eq_true rfl⟩) ?_
          refine lv_iadd hx hb dX8_lays_109 ?_
          refine mw_put (ci := 6) (C := RX8) (T := TX8) (N := 19) (ty := .int) hC i_X8_lays_X8 tyX8 tyX8_ok nmX8 hM hS hc_t rfl 11 (by decide) l_X8_lays_3 rfl rfl (by decide +kernel) rfl rfl (Nat.le_of_ble_eq_true rfl) dX8_lays_110 (fun H locs σ1 hM hS hc_t ho20 => ?_)
          replace hc_t : σ1 a_t = some (cl6 a_t_text a_t_now a_t_trial a_t_diary a_t_kept a_t_isKept a_t_owners a_t_chasers a_t_lefts (y_t.1, y_t.2.1, y_t.2.2.1, y_t.2.2.2.1, (y_t.2.2.2.2.1 &&& (r14 ^^^ (-1))), (y_t.2.2.2.2.2.1 + r19), y_t.2.2.2.2.2.2.1, y_t.2.2.2.2.2.2.2.1, y_t.2.2.2.2.2.2.2.2.1, y_t.2.2.2.2.2.2.2.2.2)) := hc_t
          have hf21 := fun (q : Nat) (f : va_E) (hf : σ q = some f) (n0 : q ≠ a_t) => ho20 q f (hf18 q f hf n0) n0
          refine lv_goto (tgt := 34) hx hb dX8_lays_113 (by decide) ?_
          exact ih0 (x7 &&& (r14 ^^^ (-1))) (y_t.1, y_t.2.1, y_t.2.2.1, y_t.2.2.2.1, (y_t.2.2.2.2.1 &&& (r14 ^^^ (-1))), (y_t.2.2.2.2.2.1 + r19), y_t.2.2.2.2.2.2.1, y_t.2.2.2.2.2.2.2.1, y_t.2.2.2.2.2.2.2.2.1, y_t.2.2.2.2.2.2.2.2.2) _ _ _ hM hS hc_t hf21 h ls (lv_sub hl [0, 2, 3, 4, 5] rfl)
  exact L34 5000 (r7 &&& p2) (w_t.1, w_t.2.1, w_t.2.2.1, (p1 ||| (shlL 1 p3)), p2, (0 : Int32), w_t.2.2.2.2.2.2.1, w_t.2.2.2.2.2.2.2.1, w_t.2.2.2.2.2.2.2.2.1, w_t.2.2.2.2.2.2.2.2.2) _ _ _ hM hS hc_t hf6 h ls (lv_sub hl [0, 1, 2, 4, 5] rfl)
theorem q_X8_mayNotCome : yX8_mayNotCome.cls ≠ "java/lang/invoke/MethodHandle" ∧ yX8_mayNotCome.cls ≠ "java/lang/invoke/VarHandle" ∧ (parseMethodDescriptor yX8_mayNotCome.desc).map (fun d => d.parameters.length) = some 3 := by decide +kernel
def fX8_mayNotCome_24 (f_p0 : Nat → Int64) (p1 : Int64) (p2 : Int64) : Nat → Int32 → Int32 → Option (Bool)
  | 0, _, _ => none
  | fu + 1, x5, x6 => if x5 < x6 then (some (false)) else (if x6 < 0 then (fX8_mayNotCome_24 f_p0 p1 p2 fu x5 (x6 + 1)) else (if inB (8 + (2 * x6)) 250 = true then (if (f_p0 (8 + (2 * x6)).toNatClampNeg) = p1 then (if inB ((8 + (2 * x6)) + 1) 250 = true then (if (f_p0 ((8 + (2 * x6)) + 1).toNatClampNeg) = p2 then (some (true)) else (fX8_mayNotCome_24 f_p0 p1 p2 fu x5 (x6 + 1))) else none) else (fX8_mayNotCome_24 f_p0 p1 p2 fu x5 (x6 + 1))) else none))
def fX8_mayNotCome (f_p0 : Nat → Int64) (p1 : Int64) (p2 : Int64) : Option (Bool) := (fX8_moves f_p0).bind fun r1 => if inB 1 250 = true then (if (f_p0 (1 : Int32).toNatClampNeg) = 1 then (fX8_mayNotCome_24 f_p0 p1 p2 5000 r1 0 ) else (fX8_mayNotCome_24 f_p0 p1 p2 5000 r1 (r1 - 1) )) else none
set_option maxHeartbeats 4000000 in
set_option maxRecDepth 100000 in
theorem c_X8_mayNotCome {l : Launch} {z : Nat} {D : va_G} {K : Nat → ClassId} {σ : mwm} {a_p0 : Nat} {f_p0 : Nat → Int64} {p1 : Int64} {p2 : Int64} (hc_p0 : σ a_p0 = some (eJ K 250 f_p0)) {v : Bool} (h : fX8_mayNotCome f_p0 p1 p2 = some v) : Met l yX8_mayNotCome wsX8_mayNotCome ({ frames := 1, cells := 0, slots := 0, locals := 20 } : Room) (PCm z D K [.ref a_p0, .long p1, .long p2] σ) (qsI (b2i v)) 0 0 (fun _ => False) := by
  refine mt_enter (cc := cX8_mayNotCome) (maxL := 7) (ret := (some .boolean)) (own := RX8) (lv := [(0, .ref a_p0), (1, .long p1), (3, .long p2)]) (by decide) rfl rfl (Nat.le_of_ble_eq_true rfl) rfl ?_
  intro p e s m below meth c ls hC hx hb hown hts hK hr hlocks hnm hz hM hS hl
  unfold fX8_mayNotCome at h
  refine lv_aload_n hx hb dX8_mayNotCome_0 rfl (lv_at hl 0 rfl) ?_
  obtain ⟨r1, hr1, h⟩ := ob_some h
  refine mw_ci (mw_runS (As := [.ref a_p0]) (rest := []) hC hM hS (c_X8_moves (a_p0 := a_p0) (f_p0 := f_p0) (hc_p0 := hc_p0) (v := r1) hr1) gX8_mayNotCome_X8_moves rfl rfl rfl q_X8_moves ⟨Nat.le_of_ble_eq_true rfl, Nat.le_of_ble_eq_true rfl⟩ rfl rfl (Nat.le_of_ble_eq_true rfl) hl.1 dX8_mayNotCome_1 ⟨Nat.le_of_ble_eq_true rfl, Nat.le_of_ble_eq_true rfl⟩) ?_
  refine lv_istore (lv' := [(5, .int r1), (0, .ref a_p0), (1, .long p1), (3, .long p2)]) hx hb dX8_mayNotCome_4 hl (by decide) rfl (fun ls hl => ?_)
  refine lv_aload_n hx hb dX8_mayNotCome_6 rfl (lv_at hl 1 rfl) ?_
  refine lv_iconst (v := 1) hx hb dX8_mayNotCome_7 (by decide) ?_
  obtain ⟨c2, h⟩ := gd_some h
  refine mw_ldJ hC hM hc_p0 (inB_ok c2) dX8_mayNotCome_8 ?_
  refine lv_lconst (v := 1) hx hb dX8_mayNotCome_9 (by decide) ?_
  refine W.lcmp hx hb dX8_mayNotCome_10 ?_
  refine lv_if_ne (tgt := 18) hx hb dX8_mayNotCome_11 (by decide) (fun c3 => ?_) (fun c3 => ?_)
  · replace c3 := mt (lg_cmp_eq _ _).mpr c3
    replace h := it_neg c3 h
    refine lv_iload hx hb dX8_mayNotCome_18 (lv_at hl 0 rfl) ?_
    refine lv_iconst (v := 1) hx hb dX8_mayNotCome_20 (by decide) ?_
    refine lv_isub hx hb dX8_mayNotCome_21 ?_
    refine lv_istore (lv' := [(6, .int (r1 - 1)), (5, .int r1), (0, .ref a_p0), (1, .long p1), (3, .long p2)]) hx hb dX8_mayNotCome_22 hl (by decide) rfl (fun ls hl => ?_)
    have L24 : ∀ (fu0 : Nat) (x5 : Int32) (x6 : Int32), fX8_mayNotCome_24 f_p0 p1 p2 fu0 x5 x6 = some v → ∀ ls : Array Slot, lv_has ls 7 [(6, .int x6), (5, .int x5), (0, .ref a_p0), (1, .long p1), (3, .long p2)] → W p l e ({ frames := 1, cells := 0, slots := 0, locals := 20 } : Room) s m ([.ref a_p0, .long p1, .long p2] : List Value).toArray below meth c s.heap [] 0 0 (MQ below (qsI (b2i v)) ([.ref a_p0, .long p1, .long p2] : List Value).toArray s 0 0 (fun _ => False)) (F0 m 24 ls []) := by
      intro fu0
      induction fu0 with
      | zero =>
        intro x5 x6 h
        unfold fX8_mayNotCome_24 at h
        cases h
      | succ fu0 ih0 =>
        intro x5 x6 h ls hl
        unfold fX8_mayNotCome_24 at h
        refine lv_iload hx hb dX8_mayNotCome_24 (lv_at hl 0 rfl) ?_
        refine lv_iload hx hb dX8_mayNotCome_26 (lv_at hl 1 rfl) ?_
        refine lv_icmp_gt (tgt := 74) hx hb dX8_mayNotCome_28 (by decide) (fun c4 => ?_) (fun c4 => ?_)
        · replace h := it_pos c4 h
          refine lv_iconst (v := 0) hx hb dX8_mayNotCome_74 (by decide) ?_
          cases h
          exact W.zret (ty := .boolean) (v := b2i false) hx hb hr (b2i_nar _) (fun t ht hW => ⟨_, rfl, rfl, ht⟩) (fun _ h9 => by cases h9) dX8_mayNotCome_75 hlocks
        · replace h := it_neg c4 h
          refine lv_iload hx hb dX8_mayNotCome_31 (lv_at hl 0 rfl) ?_
          refine lv_if_lt (tgt := 68) hx hb dX8_mayNotCome_33 (by decide) (fun c5 => ?_) (fun c5 => ?_)
          · replace h := it_pos c5 h
            refine lv_iinc (v := (x6 + 1)) (lv' := [(6, .int (x6 + 1)), (5, .int x5), (0, .ref a_p0), (1, .long p1), (3, .long p2)]) hx hb dX8_mayNotCome_68 hl (k := 0) rfl rfl (by decide) rfl (fun ls hl => ?_)
            refine lv_goto (tgt := 24) hx hb dX8_mayNotCome_71 (by decide) ?_
            exact ih0 x5 (x6 + 1) h ls (lv_sub hl [0, 1, 2, 3, 4] rfl)
          · replace h := it_neg c5 h
            refine lv_aload_n hx hb dX8_mayNotCome_36 rfl (lv_at hl 2 rfl) ?_
            refine lv_bipush (v := 8) hx hb dX8_mayNotCome_37 (by decide) ?_
            refine lv_iconst (v := 2) hx hb dX8_mayNotCome_39 (by decide) ?_
            refine lv_iload hx hb dX8_mayNotCome_40 (lv_at hl 0 rfl) ?_
            refine lv_imul hx hb dX8_mayNotCome_42 ?_
            refine lv_iadd hx hb dX8_mayNotCome_43 ?_
            obtain ⟨c6, h⟩ := gd_some h
            refine mw_ldJ hC hM hc_p0 (inB_ok c6) dX8_mayNotCome_44 ?_
            refine lv_lload_n hx hb dX8_mayNotCome_45 rfl (lv_at hl 3 rfl) ?_
            refine W.lcmp hx hb dX8_mayNotCome_46 ?_
            refine lv_if_ne (tgt := 68) hx hb dX8_mayNotCome_47 (by decide) (fun c7 => ?_) (fun c7 => ?_)
            · replace c7 := mt (lg_cmp_eq _ _).mpr c7
              replace h := it_neg c7 h
              refine lv_iinc (v := (x6 + 1)) (lv' := [(6, .int (x6 + 1)), (5, .int x5), (0, .ref a_p0), (1, .long p1), (3, .long p2)]) hx hb dX8_mayNotCome_68 hl (k := 0) rfl rfl (by decide) rfl (fun ls hl => ?_)
              refine lv_goto (tgt := 24) hx hb dX8_mayNotCome_71 (by decide) ?_
              exact ih0 x5 (x6 + 1) h ls (lv_sub hl [0, 1, 2, 3, 4] rfl)
            · replace c7 := (lg_cmp_eq _ _).mp c7
              replace h := it_pos c7 h
              refine lv_aload_n hx hb dX8_mayNotCome_50 rfl (lv_at hl 2 rfl) ?_
              refine lv_bipush (v := 8) hx hb dX8_mayNotCome_51 (by decide) ?_
              refine lv_iconst (v := 2) hx hb dX8_mayNotCome_53 (by decide) ?_
              refine lv_iload hx hb dX8_mayNotCome_54 (lv_at hl 0 rfl) ?_
              refine lv_imul hx hb dX8_mayNotCome_56 ?_
              refine lv_iadd hx hb dX8_mayNotCome_57 ?_
              refine lv_iconst (v := 1) hx hb dX8_mayNotCome_58 (by decide) ?_
              refine lv_iadd hx hb dX8_mayNotCome_59 ?_
              obtain ⟨c8, h⟩ := gd_some h
              refine mw_ldJ hC hM hc_p0 (inB_ok c8) dX8_mayNotCome_60 ?_
              refine lv_lload_n hx hb dX8_mayNotCome_61 rfl (lv_at hl 4 rfl) ?_
              refine W.lcmp hx hb dX8_mayNotCome_62 ?_
              refine lv_if_ne (tgt := 68) hx hb dX8_mayNotCome_63 (by decide) (fun c9 => ?_) (fun c9 => ?_)
              · replace c9 := mt (lg_cmp_eq _ _).mpr c9
                replace h := it_neg c9 h
                refine lv_iinc (v := (x6 + 1)) (lv' := [(6, .int (x6 + 1)), (5, .int x5), (0, .ref a_p0), (1, .long p1), (3, .long p2)]) hx hb dX8_mayNotCome_68 hl (k := 0) rfl rfl (by decide) rfl (fun ls hl => ?_)
                refine lv_goto (tgt := 24) hx hb dX8_mayNotCome_71 (by decide) ?_
                exact ih0 x5 (x6 + 1) h ls (lv_sub hl [0, 1, 2, 3, 4] rfl)
              · replace c9 := (lg_cmp_eq _ _).mp c9
                replace h := it_pos c9 h
                refine lv_iconst (v := 1) hx hb dX8_mayNotCome_66 (by decide) ?_
                cases h
                exact W.zret (ty := .boolean) (v := b2i true) hx hb hr (b2i_nar _) (fun t ht hW => ⟨_, rfl, rfl, ht⟩) (fun _ h9 => by cases h9) dX8_mayNotCome_67 hlocks
    exact L24 5000 r1 (r1 - 1)  h ls (lv_sub hl [0, 1, 2, 3, 4] rfl)
  · replace c3 := (lg_cmp_eq _ _).mp c3
    replace h := it_pos c3 h
    refine lv_iconst (v := 0) hx hb dX8_mayNotCome_14 (by decide) ?_
    refine lv_goto (tgt := 22) hx hb dX8_mayNotCome_15 (by decide) ?_
    refine lv_istore (lv' := [(6, .int 0), (5, .int r1), (0, .ref a_p0), (1, .long p1), (3, .long p2)]) hx hb dX8_mayNotCome_22 hl (by decide) rfl (fun ls hl => ?_)
    have L24 : ∀ (fu0 : Nat) (x5 : Int32) (x6 : Int32), fX8_mayNotCome_24 f_p0 p1 p2 fu0 x5 x6 = some v → ∀ ls : Array Slot, lv_has ls 7 [(6, .int x6), (5, .int x5), (0, .ref a_p0), (1, .long p1), (3, .long p2)] → W p l e ({ frames := 1, cells := 0, slots := 0, locals := 20 } : Room) s m ([.ref a_p0, .long p1, .long p2] : List Value).toArray below meth c s.heap [] 0 0 (MQ below (qsI (b2i v)) ([.ref a_p0, .long p1, .long p2] : List Value).toArray s 0 0 (fun _ => False)) (F0 m 24 ls []) := by
      intro fu0
      induction fu0 with
      | zero =>
        intro x5 x6 h
        unfold fX8_mayNotCome_24 at h
        cases h
      | succ fu0 ih0 =>
        intro x5 x6 h ls hl
        unfold fX8_mayNotCome_24 at h
        refine lv_iload hx hb dX8_mayNotCome_24 (lv_at hl 0 rfl) ?_
        refine lv_iload hx hb dX8_mayNotCome_26 (lv_at hl 1 rfl) ?_
        refine lv_icmp_gt (tgt := 74) hx hb dX8_mayNotCome_28 (by decide) (fun c10 => ?_) (fun c10 => ?_)
        · replace h := it_pos c10 h
          refine lv_iconst (v := 0) hx hb dX8_mayNotCome_74 (by decide) ?_
          cases h
          exact W.zret (ty := .boolean) (v := b2i false) hx hb hr (b2i_nar _) (fun t ht hW => ⟨_, rfl, rfl, ht⟩) (fun _ h9 => by cases h9) dX8_mayNotCome_75 hlocks
        · replace h := it_neg c10 h
          refine lv_iload hx hb dX8_mayNotCome_31 (lv_at hl 0 rfl) ?_
          refine lv_if_lt (tgt := 68) hx hb dX8_mayNotCome_33 (by decide) (fun c11 => ?_) (fun c11 => ?_)
          · replace h := it_pos c11 h
            refine lv_iinc (v := (x6 + 1)) (lv' := [(6, .int (x6 + 1)), (5, .int x5), (0, .ref a_p0), (1, .long p1), (3, .long p2)]) hx hb dX8_mayNotCome_68 hl (k := 0) rfl rfl (by decide) rfl (fun ls hl => ?_)
            refine lv_goto (tgt := 24) hx hb dX8_mayNotCome_71 (by decide) ?_
            exact ih0 x5 (x6 + 1) h ls (lv_sub hl [0, 1, 2, 3, 4] rfl)
          · replace h := it_neg c11 h
            refine lv_aload_n hx hb dX8_mayNotCome_36 rfl (lv_at hl 2 rfl) ?_
            refine lv_bipush (v := 8) hx hb dX8_mayNotCome_37 (by decide) ?_
            refine lv_iconst (v := 2) hx hb dX8_mayNotCome_39 (by decide) ?_
            refine lv_iload hx hb dX8_mayNotCome_40 (lv_at hl 0 rfl) ?_
            refine lv_imul hx hb dX8_mayNotCome_42 ?_
            refine lv_iadd hx hb dX8_mayNotCome_43 ?_
            obtain ⟨c12, h⟩ := gd_some h
            refine mw_ldJ hC hM hc_p0 (inB_ok c12) dX8_mayNotCome_44 ?_
            refine lv_lload_n hx hb dX8_mayNotCome_45 rfl (lv_at hl 3 rfl) ?_
            refine W.lcmp hx hb dX8_mayNotCome_46 ?_
            refine lv_if_ne (tgt := 68) hx hb dX8_mayNotCome_47 (by decide) (fun c13 => ?_) (fun c13 => ?_)
            · replace c13 := mt (lg_cmp_eq _ _).mpr c13
              replace h := it_neg c13 h
              refine lv_iinc (v := (x6 + 1)) (lv' := [(6, .int (x6 + 1)), (5, .int x5), (0, .ref a_p0), (1, .long p1), (3, .long p2)]) hx hb dX8_mayNotCome_68 hl (k := 0) rfl rfl (by decide) rfl (fun ls hl => ?_)
              refine lv_goto (tgt := 24) hx hb dX8_mayNotCome_71 (by decide) ?_
              exact ih0 x5 (x6 + 1) h ls (lv_sub hl [0, 1, 2, 3, 4] rfl)
            · replace c13 := (lg_cmp_eq _ _).mp c13
              replace h := it_pos c13 h
              refine lv_aload_n hx hb dX8_mayNotCome_50 rfl (lv_at hl 2 rfl) ?_
              refine lv_bipush (v := 8) hx hb dX8_mayNotCome_51 (by decide) ?_
              refine lv_iconst (v := 2) hx hb dX8_mayNotCome_53 (by decide) ?_
              refine lv_iload hx hb dX8_mayNotCome_54 (lv_at hl 0 rfl) ?_
              refine lv_imul hx hb dX8_mayNotCome_56 ?_
              refine lv_iadd hx hb dX8_mayNotCome_57 ?_
              refine lv_iconst (v := 1) hx hb dX8_mayNotCome_58 (by decide) ?_
              refine lv_iadd hx hb dX8_mayNotCome_59 ?_
              obtain ⟨c14, h⟩ := gd_some h
              refine mw_ldJ hC hM hc_p0 (inB_ok c14) dX8_mayNotCome_60 ?_
              refine lv_lload_n hx hb dX8_mayNotCome_61 rfl (lv_at hl 4 rfl) ?_
              refine W.lcmp hx hb dX8_mayNotCome_62 ?_
              refine lv_if_ne (tgt := 68) hx hb dX8_mayNotCome_63 (by decide) (fun c15 => ?_) (fun c15 => ?_)
              · replace c15 := mt (lg_cmp_eq _ _).mpr c15
                replace h := it_neg c15 h
                refine lv_iinc (v := (x6 + 1)) (lv' := [(6, .int (x6 + 1)), (5, .int x5), (0, .ref a_p0), (1, .long p1), (3, .long p2)]) hx hb dX8_mayNotCome_68 hl (k := 0) rfl rfl (by decide) rfl (fun ls hl => ?_)
                refine lv_goto (tgt := 24) hx hb dX8_mayNotCome_71 (by decide) ?_
                exact ih0 x5 (x6 + 1) h ls (lv_sub hl [0, 1, 2, 3, 4] rfl)
              · replace c15 := (lg_cmp_eq _ _).mp c15
                replace h := it_pos c15 h
                refine lv_iconst (v := 1) hx hb dX8_mayNotCome_66 (by decide) ?_
                cases h
                exact W.zret (ty := .boolean) (v := b2i true) hx hb hr (b2i_nar _) (fun t ht hW => ⟨_, rfl, rfl, ht⟩) (fun _ h9 => by cases h9) dX8_mayNotCome_67 hlocks
    exact L24 5000 r1 0  h ls (lv_sub hl [0, 1, 2, 3, 4] rfl)
theorem l_X8_whyNot_0 : Cond.fieldLink RX8 82 "CornerStonesModel" "others" "J" ∈ wsX8_whyNot := (List.mem_cons_of_mem _ (List.mem_append_left _ (List.mem_append_left _ (List.mem_of_getElem? (i := 1) rfl))))
theorem i_X8_whyNot_X8 : ∀ w ∈ wsX80, w ∈ wsX8_whyNot := fun _ h => (List.mem_cons_of_mem _ (List.mem_append_right _ h))
theorem l_X8_whyNot_2 : Cond.fieldLink RX8 78 "CornerStonesModel" "own" "J" ∈ wsX8_whyNot := (List.mem_cons_of_mem _ (List.mem_append_left _ (List.mem_append_left _ (List.mem_of_getElem? (i := 0) rfl))))
theorem q_X8_whyNot : yX8_whyNot.cls ≠ "java/lang/invoke/MethodHandle" ∧ yX8_whyNot.cls ≠ "java/lang/invoke/VarHandle" ∧ (parseMethodDescriptor yX8_whyNot.desc).map (fun d => d.parameters.length) = some 2 := by decide +kernel
def fX8_whyNot (w_t : Int32 × Int32 × Int32 × Int64 × Int64 × Int32 × Int64 × Int32 × Int32 × Int32) (f_p0 : Nat → Int64) (p1 : Int32) : Option (Int32 × (Int32 × Int32 × Int32 × Int64 × Int64 × Int32 × Int64 × Int32 × Int32 × Int32)) := (fX8_turnOf f_p0).bind fun r1 => (fX8_stonesOf f_p0 0).bind fun r2 => (fX8_stonesOf f_p0 1).bind fun r3 => if (fX8_has (r2 ||| r3) p1) = true then (some (((1 : Int32), w_t))) else (if inB 0 250 = true then ((fX8_stonesOf f_p0 r1).bind fun r6 => (fX8_stonesOf f_p0 (1 - r1)).bind fun r7 => (fX8_lays w_t ((f_p0 (0 : Int32).toNatClampNeg).toInt32) r6 r7 p1).bind fun r8 => if r8.1 = true then (if r1 = 0 then (if r1 = 0 then ((fX8_mayNotCome f_p0 r8.2.2.2.2.1 r8.2.2.2.2.2.1).bind fun r28 => if r28 = true then (some (((3 : Int32), r8.2))) else ((fX8_moves f_p0).bind fun r30 => if r30 = 120 then (some (((4 : Int32), r8.2))) else (some (((0 : Int32), r8.2))))) else ((fX8_mayNotCome f_p0 r8.2.2.2.2.1 r8.2.2.2.2.1).bind fun r24 => if r24 = true then (some (((3 : Int32), r8.2))) else ((fX8_moves f_p0).bind fun r26 => if r26 = 120 then (some (((4 : Int32), r8.2))) else (some (((0 : Int32), r8.2)))))) else (if r1 = 0 then ((fX8_mayNotCome f_p0 r8.2.2.2.2.2.1 r8.2.2.2.2.2.1).bind fun r19 => if r19 = true then (some (((3 : Int32), r8.2))) else ((fX8_moves f_p0).bind fun r21 => if r21 = 120 then (some (((4 : Int32), r8.2))) else (some (((0 : Int32), r8.2))))) else ((fX8_mayNotCome f_p0 r8.2.2.2.2.2.1 r8.2.2.2.2.1).bind fun r15 => if r15 = true then (some (((3 : Int32), r8.2))) else ((fX8_moves f_p0).bind fun r17 => if r17 = 120 then (some (((4 : Int32), r8.2))) else (some (((0 : Int32), r8.2))))))) else (some (((2 : Int32), r8.2)))) else none)
set_option maxHeartbeats 4000000 in
set_option maxRecDepth 100000 in
theorem c_X8_whyNot {l : Launch} {z : Nat} {D : va_G} {K : Nat → ClassId} {σ : mwm} {a_t a_p0 a_t_text a_t_now a_t_trial a_t_diary a_t_kept a_t_isKept a_t_owners a_t_chasers a_t_lefts : Nat} {w_t : Int32 × Int32 × Int32 × Int64 × Int64 × Int32 × Int64 × Int32 × Int32 × Int32} {f_p0 : Nat → Int64} {p1 : Int32} (hc_t : σ a_t = some (cl6 a_t_text a_t_now a_t_trial a_t_diary a_t_kept a_t_isKept a_t_owners a_t_chasers a_t_lefts w_t)) (hc_p0 : σ a_p0 = some (eJ K 250 f_p0)) (n_p0_t : a_p0 ≠ a_t) {v : Int32 × (Int32 × Int32 × Int32 × Int64 × Int64 × Int32 × Int64 × Int32 × Int32 × Int32)} (h : fX8_whyNot w_t f_p0 p1 = some v) : Met l yX8_whyNot wsX8_whyNot ({ frames := 5, cells := 0, slots := 0, locals := 126 } : Room) (PCm z D K [.ref a_t, .ref a_p0, .int p1] σ) (qwI z D (fun r σ2 => r = v.1 ∧ σ2 a_t = some (cl6 a_t_text a_t_now a_t_trial a_t_diary a_t_kept a_t_isKept a_t_owners a_t_chasers a_t_lefts v.2) ∧ ∀ (q : Nat) (f : va_E), σ q = some f → q ≠ a_t → σ2 q = some f)) 0 0 (zA z) := by
  refine mt_enter (cc := cX8_whyNot) (maxL := 4) (ret := (some .int)) (own := RX8) (lv := [(0, .ref a_t), (1, .ref a_p0), (2, .int p1)]) (by decide) rfl rfl (Nat.le_of_ble_eq_true rfl) rfl ?_
  intro p e s m below meth c ls hC hx hb hown hts hK hr hlocks hnm hz hM hS hl
  unfold fX8_whyNot at h
  refine lv_aload_n hx hb dX8_whyNot_0 rfl (lv_at hl 1 rfl) ?_
  obtain ⟨r1, hr1, h⟩ := ob_some h
  refine mw_ci (mw_runS (As := [.ref a_p0]) (rest := []) hC hM hS (c_X8_turnOf (a_p0 := a_p0) (f_p0 := f_p0) (hc_p0 := hc_p0) (v := r1) hr1) gX8_whyNot_X8_turnOf rfl rfl rfl q_X8_turnOf ⟨Nat.le_of_ble_eq_true rfl, Nat.le_of_ble_eq_true rfl⟩ rfl rfl (Nat.le_of_ble_eq_true rfl) hl.1 dX8_whyNot_1 ⟨Nat.le_of_ble_eq_true rfl, Nat.le_of_ble_eq_true rfl⟩) ?_
  refine lv_istore_n (lv' := [(3, .int r1), (0, .ref a_t), (1, .ref a_p0), (2, .int p1)]) hx hb dX8_whyNot_4 rfl hl (by decide) rfl (fun ls hl => ?_)
  refine lv_aload_n hx hb dX8_whyNot_5 rfl (lv_at hl 2 rfl) ?_
  refine lv_iconst (v := 0) hx hb dX8_whyNot_6 (by decide) ?_
  obtain ⟨r2, hr2, h⟩ := ob_some h
  refine mw_cl (mw_runS (As := [.ref a_p0, .int 0]) (rest := []) hC hM hS (c_X8_stonesOf (a_p0 := a_p0) (f_p0 := f_p0) (p1 := 0) (hc_p0 := hc_p0) (v := r2) hr2) gX8_whyNot_X8_stonesOf rfl rfl rfl q_X8_stonesOf ⟨Nat.le_of_ble_eq_true rfl, Nat.le_of_ble_eq_true rfl⟩ rfl rfl (Nat.le_of_ble_eq_true rfl) hl.1 dX8_whyNot_7 ⟨Nat.le_of_ble_eq_true rfl, Nat.le_of_ble_eq_true rfl⟩) ?_
  refine lv_aload_n hx hb dX8_whyNot_10 rfl (lv_at hl 2 rfl) ?_
  refine lv_iconst (v := 1) hx hb dX8_whyNot_11 (by decide) ?_
  obtain ⟨r3, hr3, h⟩ := ob_some h
  refine mw_cl (mw_runS (As := [.ref a_p0, .int 1]) (rest := [.long r2]) hC hM hS (c_X8_stonesOf (a_p0 := a_p0) (f_p0 := f_p0) (p1 := 1) (hc_p0 := hc_p0) (v := r3) hr3) gX8_whyNot_X8_stonesOf rfl rfl rfl q_X8_stonesOf ⟨Nat.le_of_ble_eq_true rfl, Nat.le_of_ble_eq_true rfl⟩ rfl rfl (Nat.le_of_ble_eq_true rfl) hl.1 dX8_whyNot_12 ⟨Nat.le_of_ble_eq_true rfl, Nat.le_of_ble_eq_true rfl⟩) ?_
  refine lv_lor hx hb dX8_whyNot_15 ?_
  refine lv_iload_n hx hb dX8_whyNot_16 rfl (lv_at hl 3 rfl) ?_
  refine mw_ci (mw_runS (As := [.long (r2 ||| r3), .int p1]) (rest := []) hC hM hS (c_X8_has (p0 := (r2 ||| r3)) (p1 := p1) (v := (fX8_has (r2 ||| r3) p1)) rfl) gX8_whyNot_X8_has rfl rfl rfl q_X8_has ⟨Nat.le_of_ble_eq_true rfl, Nat.le_of_ble_eq_true rfl⟩ rfl rfl (Nat.le_of_ble_eq_true rfl) hl.1 dX8_whyNot_17 ⟨Nat.le_of_ble_eq_true rfl, Nat.le_of_ble_eq_true rfl⟩) ?_
  refine lv_if_eq (tgt := 25) hx hb dX8_whyNot_20 (by decide) (fun c4 => ?_) (fun c4 => ?_)
  · replace c4 := b2i_eq0.mp c4
    replace h := it_neg c4 h
    refine lv_aload_n hx hb dX8_whyNot_25 rfl (lv_at hl 1 rfl) ?_
    refine lv_aload_n hx hb dX8_whyNot_26 rfl (lv_at hl 2 rfl) ?_
    refine lv_iconst (v := 0) hx hb dX8_whyNot_27 (by decide) ?_
    obtain ⟨c5, h⟩ := gd_some h
    refine mw_ldJ hC hM hc_p0 (inB_ok c5) dX8_whyNot_28 ?_
    refine lv_l2i hx hb dX8_whyNot_29 rfl ?_
    refine lv_aload_n hx hb dX8_whyNot_30 rfl (lv_at hl 2 rfl) ?_
    refine lv_iload_n hx hb dX8_whyNot_31 rfl (lv_at hl 0 rfl) ?_
    obtain ⟨r6, hr6, h⟩ := ob_some h
    refine mw_cl (mw_runS (As := [.ref a_p0, .int r1]) (rest := [.int ((f_p0 (0 : Int32).toNatClampNeg).toInt32), .ref a_t]) hC hM hS (c_X8_stonesOf (a_p0 := a_p0) (f_p0 := f_p0) (p1 := r1) (hc_p0 := hc_p0) (v := r6) hr6) gX8_whyNot_X8_stonesOf rfl rfl rfl q_X8_stonesOf ⟨Nat.le_of_ble_eq_true rfl, Nat.le_of_ble_eq_true rfl⟩ rfl rfl (Nat.le_of_ble_eq_true rfl) hl.1 dX8_whyNot_32 ⟨Nat.le_of_ble_eq_true rfl, Nat.le_of_ble_eq_true rfl⟩) ?_
    refine lv_aload_n hx hb dX8_whyNot_35 rfl (lv_at hl 2 rfl) ?_
    refine lv_iconst (v := 1) hx hb dX8_whyNot_36 (by decide) ?_
    refine lv_iload_n hx hb dX8_whyNot_37 rfl (lv_at hl 0 rfl) ?_
    refine lv_isub hx hb dX8_whyNot_38 ?_
    obtain ⟨r7, hr7, h⟩ := ob_some h
    refine mw_cl (mw_runS (As := [.ref a_p0, .int (1 - r1)]) (rest := [.long r6, .int ((f_p0 (0 : Int32).toNatClampNeg).toInt32), .ref a_t]) hC hM hS (c_X8_stonesOf (a_p0 := a_p0) (f_p0 := f_p0) (p1 := (1 - r1)) (hc_p0 := hc_p0) (v := r7) hr7) gX8_whyNot_X8_stonesOf rfl rfl rfl q_X8_stonesOf ⟨Nat.le_of_ble_eq_true rfl, Nat.le_of_ble_eq_true rfl⟩ rfl rfl (Nat.le_of_ble_eq_true rfl) hl.1 dX8_whyNot_39 ⟨Nat.le_of_ble_eq_true rfl, Nat.le_of_ble_eq_true rfl⟩) ?_
    refine lv_iload_n hx hb dX8_whyNot_42 rfl (lv_at hl 3 rfl) ?_
    obtain ⟨r8, hr8, h⟩ := ob_some h
    refine mw_wi (mw_runV (As := [.int ((f_p0 (0 : Int32).toNatClampNeg).toInt32), .long r6, .long r7, .int p1]) (rest := []) (ci := 6) (C := RX8) (T := TX8) (N := 19) hC hM hS hc_t rfl (c_X8_lays (a_t := a_t) (a_t_text := a_t_text) (a_t_now := a_t_now) (a_t_trial := a_t_trial) (a_t_diary := a_t_diary) (a_t_kept := a_t_kept) (a_t_isKept := a_t_isKept) (a_t_owners := a_t_owners) (a_t_chasers := a_t_chasers) (a_t_lefts := a_t_lefts) (w_t := w_t) (p0 := (f_p0 (0 : Int32).toNatClampNeg).toInt32) (p1 := r6) (p2 := r7) (p3 := p1) (hc_t := hc_t) (v := r8) hr8) gX8_whyNot_X8_lays rfl rfl rfl rfl q_X8_lays ⟨Nat.le_of_ble_eq_true rfl, Nat.le_of_ble_eq_true rfl⟩ rfl rfl (Nat.le_of_ble_eq_true rfl) hl.1 dX8_whyNot_43 ⟨Nat.le_of_ble_eq_true rfl, Nat.le_of_ble_eq_true rfl⟩) hS (fun r9 H locs σ1 hp10 hM hS => ?_)
    obtain ⟨rfl, hc_t, ho9⟩ := hp10
    have hf11 := fun (q : Nat) (f : va_E) (hf : σ q = some f) (n0 : q ≠ a_t) => ho9 q f hf n0
    refine lv_if_ne (tgt := 51) hx hb dX8_whyNot_46 (by decide) (fun c12 => ?_) (fun c12 => ?_)
    · replace c12 := b2i_ne0.mp c12
      replace h := it_pos c12 h
      refine lv_aload_n hx hb dX8_whyNot_51 rfl (lv_at hl 2 rfl) ?_
      refine lv_iload_n hx hb dX8_whyNot_52 rfl (lv_at hl 0 rfl) ?_
      refine lv_if_ne (tgt := 63) hx hb dX8_whyNot_53 (by decide) (fun c13 => ?_) (fun c13 => ?_)
      · replace h := it_neg c13 h
        refine lv_aload_n hx hb dX8_whyNot_63 rfl (lv_at hl 1 rfl) ?_
        refine mw_get (ci := 6) (C := RX8) (T := TX8) (N := 19) (v := .long r8.2.2.2.2.2.1) hC i_X8_whyNot_X8 hM hc_t rfl 10 (by decide) l_X8_whyNot_0 rfl rfl dX8_whyNot_64 ?_
        refine lv_iload_n hx hb dX8_whyNot_67 rfl (lv_at hl 0 rfl) ?_
        refine lv_if_ne (tgt := 78) hx hb dX8_whyNot_68 (by decide) (fun c14 => ?_) (fun c14 => ?_)
        · replace h := it_neg c14 h
          refine lv_aload_n hx hb dX8_whyNot_78 rfl (lv_at hl 1 rfl) ?_
          refine mw_get (ci := 6) (C := RX8) (T := TX8) (N := 19) (v := .long r8.2.2.2.2.1) hC i_X8_whyNot_X8 hM hc_t rfl 9 (by decide) l_X8_whyNot_2 rfl rfl dX8_whyNot_79 ?_
          obtain ⟨r15, hr15, h⟩ := ob_some h
          refine mw_ci (mw_runS (As := [.ref a_p0, .long r8.2.2.2.2.2.1, .long r8.2.2.2.2.1]) (rest := []) hC hM hS (c_X8_mayNotCome (a_p0 := a_p0) (f_p0 := f_p0) (p1 := r8.2.2.2.2.2.1) (p2 := r8.2.2.2.2.1) (hc_p0 := (hf11 a_p0 _ hc_p0 n_p0_t)) (v := r15) hr15) gX8_whyNot_X8_mayNotCome rfl rfl rfl q_X8_mayNotCome ⟨Nat.le_of_ble_eq_true rfl, Nat.le_of_ble_eq_true rfl⟩ rfl rfl (Nat.le_of_ble_eq_true rfl) hl.1 dX8_whyNot_82 ⟨Nat.le_of_ble_eq_true rfl, Nat.le_of_ble_eq_true rfl⟩) ?_
          refine lv_if_eq (tgt := 92) hx hb dX8_whyNot_85 (by decide) (fun c16 => ?_) (fun c16 => ?_)
          · replace c16 := b2i_eq0.mp c16
            replace h := it_neg c16 h
            refine lv_aload_n hx hb dX8_whyNot_92 rfl (lv_at hl 2 rfl) ?_
            obtain ⟨r17, hr17, h⟩ := ob_some h
            refine mw_ci (mw_runS (As := [.ref a_p0]) (rest := []) hC hM hS (c_X8_moves (a_p0 := a_p0) (f_p0 := f_p0) (hc_p0 := (hf11 a_p0 _ hc_p0 n_p0_t)) (v := r17) hr17) gX8_whyNot_X8_moves rfl rfl rfl q_X8_moves ⟨Nat.le_of_ble_eq_true rfl, Nat.le_of_ble_eq_true rfl⟩ rfl rfl (Nat.le_of_ble_eq_true rfl) hl.1 dX8_whyNot_93 ⟨Nat.le_of_ble_eq_true rfl, Nat.le_of_ble_eq_true rfl⟩) ?_
            refine lv_bipush (v := 120) hx hb dX8_whyNot_96 (by decide) ?_
            refine lv_icmp_ne (tgt := 105) hx hb dX8_whyNot_98 (by decide) (fun c18 => ?_) (fun c18 => ?_)
            · replace h := it_neg c18 h
              refine lv_iconst (v := 0) hx hb dX8_whyNot_105 (by decide) ?_
              cases h
              exact W.iret hx hb hr (fun t ht hW => ⟨⟨_, _, rfl, ⟨rfl, hc_t, hf11⟩, by show MW z D _ t.heap; rw [ht]; exact hM⟩, hS.F ht⟩) hS.2.2 dX8_whyNot_106 hlocks
            · replace h := it_pos c18 h
              refine lv_iconst (v := 4) hx hb dX8_whyNot_101 (by decide) ?_
              refine lv_goto (tgt := 106) hx hb dX8_whyNot_102 (by decide) ?_
              cases h
              exact W.iret hx hb hr (fun t ht hW => ⟨⟨_, _, rfl, ⟨rfl, hc_t, hf11⟩, by show MW z D _ t.heap; rw [ht]; exact hM⟩, hS.F ht⟩) hS.2.2 dX8_whyNot_106 hlocks
          · replace c16 := b2i_ne0.mp c16
            replace h := it_pos c16 h
            refine lv_iconst (v := 3) hx hb dX8_whyNot_88 (by decide) ?_
            refine lv_goto (tgt := 106) hx hb dX8_whyNot_89 (by decide) ?_
            cases h
            exact W.iret hx hb hr (fun t ht hW => ⟨⟨_, _, rfl, ⟨rfl, hc_t, hf11⟩, by show MW z D _ t.heap; rw [ht]; exact hM⟩, hS.F ht⟩) hS.2.2 dX8_whyNot_106 hlocks
        · replace h := it_pos c14 h
          refine lv_aload_n hx hb dX8_whyNot_71 rfl (lv_at hl 1 rfl) ?_
          refine mw_get (ci := 6) (C := RX8) (T := TX8) (N := 19) (v := .long r8.2.2.2.2.2.1) hC i_X8_whyNot_X8 hM hc_t rfl 10 (by decide) l_X8_whyNot_0 rfl rfl dX8_whyNot_72 ?_
          refine lv_goto (tgt := 82) hx hb dX8_whyNot_75 (by decide) ?_
          obtain ⟨r19, hr19, h⟩ := ob_some h
          refine mw_ci (mw_runS (As := [.ref a_p0, .long r8.2.2.2.2.2.1, .long r8.2.2.2.2.2.1]) (rest := []) hC hM hS (c_X8_mayNotCome (a_p0 := a_p0) (f_p0 := f_p0) (p1 := r8.2.2.2.2.2.1) (p2 := r8.2.2.2.2.2.1) (hc_p0 := (hf11 a_p0 _ hc_p0 n_p0_t)) (v := r19) hr19) gX8_whyNot_X8_mayNotCome rfl rfl rfl q_X8_mayNotCome ⟨Nat.le_of_ble_eq_true rfl, Nat.le_of_ble_eq_true rfl⟩ rfl rfl (Nat.le_of_ble_eq_true rfl) hl.1 dX8_whyNot_82 ⟨Nat.le_of_ble_eq_true rfl, Nat.le_of_ble_eq_true rfl⟩) ?_
          refine lv_if_eq (tgt := 92) hx hb dX8_whyNot_85 (by decide) (fun c20 => ?_) (fun c20 => ?_)
          · replace c20 := b2i_eq0.mp c20
            replace h := it_neg c20 h
            refine lv_aload_n hx hb dX8_whyNot_92 rfl (lv_at hl 2 rfl) ?_
            obtain ⟨r21, hr21, h⟩ := ob_some h
            refine mw_ci (mw_runS (As := [.ref a_p0]) (rest := []) hC hM hS (c_X8_moves (a_p0 := a_p0) (f_p0 := f_p0) (hc_p0 := (hf11 a_p0 _ hc_p0 n_p0_t)) (v := r21) hr21) gX8_whyNot_X8_moves rfl rfl rfl q_X8_moves ⟨Nat.le_of_ble_eq_true rfl, Nat.le_of_ble_eq_true rfl⟩ rfl rfl (Nat.le_of_ble_eq_true rfl) hl.1 dX8_whyNot_93 ⟨Nat.le_of_ble_eq_true rfl, Nat.le_of_ble_eq_true rfl⟩) ?_
            refine lv_bipush (v := 120) hx hb dX8_whyNot_96 (by decide) ?_
            refine lv_icmp_ne (tgt := 105) hx hb dX8_whyNot_98 (by decide) (fun c22 => ?_) (fun c22 => ?_)
            · replace h := it_neg c22 h
              refine lv_iconst (v := 0) hx hb dX8_whyNot_105 (by decide) ?_
              cases h
              exact W.iret hx hb hr (fun t ht hW => ⟨⟨_, _, rfl, ⟨rfl, hc_t, hf11⟩, by show MW z D _ t.heap; rw [ht]; exact hM⟩, hS.F ht⟩) hS.2.2 dX8_whyNot_106 hlocks
            · replace h := it_pos c22 h
              refine lv_iconst (v := 4) hx hb dX8_whyNot_101 (by decide) ?_
              refine lv_goto (tgt := 106) hx hb dX8_whyNot_102 (by decide) ?_
              cases h
              exact W.iret hx hb hr (fun t ht hW => ⟨⟨_, _, rfl, ⟨rfl, hc_t, hf11⟩, by show MW z D _ t.heap; rw [ht]; exact hM⟩, hS.F ht⟩) hS.2.2 dX8_whyNot_106 hlocks
          · replace c20 := b2i_ne0.mp c20
            replace h := it_pos c20 h
            refine lv_iconst (v := 3) hx hb dX8_whyNot_88 (by decide) ?_
            refine lv_goto (tgt := 106) hx hb dX8_whyNot_89 (by decide) ?_
            cases h
            exact W.iret hx hb hr (fun t ht hW => ⟨⟨_, _, rfl, ⟨rfl, hc_t, hf11⟩, by show MW z D _ t.heap; rw [ht]; exact hM⟩, hS.F ht⟩) hS.2.2 dX8_whyNot_106 hlocks
      · replace h := it_pos c13 h
        refine lv_aload_n hx hb dX8_whyNot_56 rfl (lv_at hl 1 rfl) ?_
        refine mw_get (ci := 6) (C := RX8) (T := TX8) (N := 19) (v := .long r8.2.2.2.2.1) hC i_X8_whyNot_X8 hM hc_t rfl 9 (by decide) l_X8_whyNot_2 rfl rfl dX8_whyNot_57 ?_
        refine lv_goto (tgt := 67) hx hb dX8_whyNot_60 (by decide) ?_
        refine lv_iload_n hx hb dX8_whyNot_67 rfl (lv_at hl 0 rfl) ?_
        refine lv_if_ne (tgt := 78) hx hb dX8_whyNot_68 (by decide) (fun c23 => ?_) (fun c23 => ?_)
        · replace h := it_neg c23 h
          refine lv_aload_n hx hb dX8_whyNot_78 rfl (lv_at hl 1 rfl) ?_
          refine mw_get (ci := 6) (C := RX8) (T := TX8) (N := 19) (v := .long r8.2.2.2.2.1) hC i_X8_whyNot_X8 hM hc_t rfl 9 (by decide) l_X8_whyNot_2 rfl rfl dX8_whyNot_79 ?_
          obtain ⟨r24, hr24, h⟩ := ob_some h
          refine mw_ci (mw_runS (As := [.ref a_p0, .long r8.2.2.2.2.1, .long r8.2.2.2.2.1]) (rest := []) hC hM hS (c_X8_mayNotCome (a_p0 := a_p0) (f_p0 := f_p0) (p1 := r8.2.2.2.2.1) (p2 := r8.2.2.2.2.1) (hc_p0 := (hf11 a_p0 _ hc_p0 n_p0_t)) (v := r24) hr24) gX8_whyNot_X8_mayNotCome rfl rfl rfl q_X8_mayNotCome ⟨Nat.le_of_ble_eq_true rfl, Nat.le_of_ble_eq_true rfl⟩ rfl rfl (Nat.le_of_ble_eq_true rfl) hl.1 dX8_whyNot_82 ⟨Nat.le_of_ble_eq_true rfl, Nat.le_of_ble_eq_true rfl⟩) ?_
          refine lv_if_eq (tgt := 92) hx hb dX8_whyNot_85 (by decide) (fun c25 => ?_) (fun c25 => ?_)
          · replace c25 := b2i_eq0.mp c25
            replace h := it_neg c25 h
            refine lv_aload_n hx hb dX8_whyNot_92 rfl (lv_at hl 2 rfl) ?_
            obtain ⟨r26, hr26, h⟩ := ob_some h
            refine mw_ci (mw_runS (As := [.ref a_p0]) (rest := []) hC hM hS (c_X8_moves (a_p0 := a_p0) (f_p0 := f_p0) (hc_p0 := (hf11 a_p0 _ hc_p0 n_p0_t)) (v := r26) hr26) gX8_whyNot_X8_moves rfl rfl rfl q_X8_moves ⟨Nat.le_of_ble_eq_true rfl, Nat.le_of_ble_eq_true rfl⟩ rfl rfl (Nat.le_of_ble_eq_true rfl) hl.1 dX8_whyNot_93 ⟨Nat.le_of_ble_eq_true rfl, Nat.le_of_ble_eq_true rfl⟩) ?_
            refine lv_bipush (v := 120) hx hb dX8_whyNot_96 (by decide) ?_
            refine lv_icmp_ne (tgt := 105) hx hb dX8_whyNot_98 (by decide) (fun c27 => ?_) (fun c27 => ?_)
            · replace h := it_neg c27 h
              refine lv_iconst (v := 0) hx hb dX8_whyNot_105 (by decide) ?_
              cases h
              exact W.iret hx hb hr (fun t ht hW => ⟨⟨_, _, rfl, ⟨rfl, hc_t, hf11⟩, by show MW z D _ t.heap; rw [ht]; exact hM⟩, hS.F ht⟩) hS.2.2 dX8_whyNot_106 hlocks
            · replace h := it_pos c27 h
              refine lv_iconst (v := 4) hx hb dX8_whyNot_101 (by decide) ?_
              refine lv_goto (tgt := 106) hx hb dX8_whyNot_102 (by decide) ?_
              cases h
              exact W.iret hx hb hr (fun t ht hW => ⟨⟨_, _, rfl, ⟨rfl, hc_t, hf11⟩, by show MW z D _ t.heap; rw [ht]; exact hM⟩, hS.F ht⟩) hS.2.2 dX8_whyNot_106 hlocks
          · replace c25 := b2i_ne0.mp c25
            replace h := it_pos c25 h
            refine lv_iconst (v := 3) hx hb dX8_whyNot_88 (by decide) ?_
            refine lv_goto (tgt := 106) hx hb dX8_whyNot_89 (by decide) ?_
            cases h
            exact W.iret hx hb hr (fun t ht hW => ⟨⟨_, _, rfl, ⟨rfl, hc_t, hf11⟩, by show MW z D _ t.heap; rw [ht]; exact hM⟩, hS.F ht⟩) hS.2.2 dX8_whyNot_106 hlocks
        · replace h := it_pos c23 h
          refine lv_aload_n hx hb dX8_whyNot_71 rfl (lv_at hl 1 rfl) ?_
          refine mw_get (ci := 6) (C := RX8) (T := TX8) (N := 19) (v := .long r8.2.2.2.2.2.1) hC i_X8_whyNot_X8 hM hc_t rfl 10 (by decide) l_X8_whyNot_0 rfl rfl dX8_whyNot_72 ?_
          refine lv_goto (tgt := 82) hx hb dX8_whyNot_75 (by decide) ?_
          obtain ⟨r28, hr28, h⟩ := ob_some h
          refine mw_ci (mw_runS (As := [.ref a_p0, .long r8.2.2.2.2.1, .long r8.2.2.2.2.2.1]) (rest := []) hC hM hS (c_X8_mayNotCome (a_p0 := a_p0) (f_p0 := f_p0) (p1 := r8.2.2.2.2.1) (p2 := r8.2.2.2.2.2.1) (hc_p0 := (hf11 a_p0 _ hc_p0 n_p0_t)) (v := r28) hr28) gX8_whyNot_X8_mayNotCome rfl rfl rfl q_X8_mayNotCome ⟨Nat.le_of_ble_eq_true rfl, Nat.le_of_ble_eq_true rfl⟩ rfl rfl (Nat.le_of_ble_eq_true rfl) hl.1 dX8_whyNot_82 ⟨Nat.le_of_ble_eq_true rfl, Nat.le_of_ble_eq_true rfl⟩) ?_
          refine lv_if_eq (tgt := 92) hx hb dX8_whyNot_85 (by decide) (fun c29 => ?_) (fun c29 => ?_)
          · replace c29 := b2i_eq0.mp c29
            replace h := it_neg c29 h
            refine lv_aload_n hx hb dX8_whyNot_92 rfl (lv_at hl 2 rfl) ?_
            obtain ⟨r30, hr30, h⟩ := ob_some h
            refine mw_ci (mw_runS (As := [.ref a_p0]) (rest := []) hC hM hS (c_X8_moves (a_p0 := a_p0) (f_p0 := f_p0) (hc_p0 := (hf11 a_p0 _ hc_p0 n_p0_t)) (v := r30) hr30) gX8_whyNot_X8_moves rfl rfl rfl q_X8_moves ⟨Nat.le_of_ble_eq_true rfl, Nat.le_of_ble_eq_true rfl⟩ rfl rfl (Nat.le_of_ble_eq_true rfl) hl.1 dX8_whyNot_93 ⟨Nat.le_of_ble_eq_true rfl, Nat.le_of_ble_eq_true rfl⟩) ?_
            refine lv_bipush (v := 120) hx hb dX8_whyNot_96 (by decide) ?_
            refine lv_icmp_ne (tgt := 105) hx hb dX8_whyNot_98 (by decide) (fun c31 => ?_) (fun c31 => ?_)
            · replace h := it_neg c31 h
              refine lv_iconst (v := 0) hx hb dX8_whyNot_105 (by decide) ?_
              cases h
              exact W.iret hx hb hr (fun t ht hW => ⟨⟨_, _, rfl, ⟨rfl, hc_t, hf11⟩, by show MW z D _ t.heap; rw [ht]; exact hM⟩, hS.F ht⟩) hS.2.2 dX8_whyNot_106 hlocks
            · replace h := it_pos c31 h
              refine lv_iconst (v := 4) hx hb dX8_whyNot_101 (by decide) ?_
              refine lv_goto (tgt := 106) hx hb dX8_whyNot_102 (by decide) ?_
              cases h
              exact W.iret hx hb hr (fun t ht hW => ⟨⟨_, _, rfl, ⟨rfl, hc_t, hf11⟩, by show MW z D _ t.heap; rw [ht]; exact hM⟩, hS.F ht⟩) hS.2.2 dX8_whyNot_106 hlocks
          · replace c29 := b2i_ne0.mp c29
            replace h := it_pos c29 h
            refine lv_iconst (v := 3) hx hb dX8_whyNot_88 (by decide) ?_
            refine lv_goto (tgt := 106) hx hb dX8_whyNot_89 (by decide) ?_
            cases h
            exact W.iret hx hb hr (fun t ht hW => ⟨⟨_, _, rfl, ⟨rfl, hc_t, hf11⟩, by show MW z D _ t.heap; rw [ht]; exact hM⟩, hS.F ht⟩) hS.2.2 dX8_whyNot_106 hlocks
    · replace c12 := b2i_eq0.mp c12
      replace h := it_neg c12 h
      refine lv_iconst (v := 2) hx hb dX8_whyNot_49 (by decide) ?_
      cases h
      exact W.iret hx hb hr (fun t ht hW => ⟨⟨_, _, rfl, ⟨rfl, hc_t, hf11⟩, by show MW z D _ t.heap; rw [ht]; exact hM⟩, hS.F ht⟩) hS.2.2 dX8_whyNot_50 hlocks
  · replace c4 := b2i_ne0.mp c4
    replace h := it_pos c4 h
    refine lv_iconst (v := 1) hx hb dX8_whyNot_23 (by decide) ?_
    cases h
    exact W.iret hx hb hr (fun t ht hW => ⟨⟨_, _, rfl, ⟨rfl, hc_t, (fun _ _ h9 _ => h9)⟩, by show MW z D _ t.heap; rw [ht]; exact hM⟩, hS.F ht⟩) hS.2.2 dX8_whyNot_24 hlocks
theorem q_X8_comes : yX8_comes.cls ≠ "java/lang/invoke/MethodHandle" ∧ yX8_comes.cls ≠ "java/lang/invoke/VarHandle" ∧ (parseMethodDescriptor yX8_comes.desc).map (fun d => d.parameters.length) = some 3 := by decide +kernel
def fX8_comes (f_p0 : Nat → Int64) (p1 : Int64) (p2 : Int64) : Option ((Nat → Int64)) := if inB 3 250 = true then (if inB 3 250 = true then ((fX8_moves (vp_updL f_p0 (3 : Int32).toNatClampNeg ((f_p0 (3 : Int32).toNatClampNeg) + 1))).bind fun r5 => if inB (8 + (2 * r5)) 250 = true then ((fX8_moves (vp_updL (vp_updL f_p0 (3 : Int32).toNatClampNeg ((f_p0 (3 : Int32).toNatClampNeg) + 1)) (8 + (2 * r5)).toNatClampNeg p1)).bind fun r9 => if inB ((8 + (2 * r9)) + 1) 250 = true then (if inB 2 250 = true then (if inB 2 250 = true then (some ((vp_updL (vp_updL (vp_updL (vp_updL f_p0 (3 : Int32).toNatClampNeg ((f_p0 (3 : Int32).toNatClampNeg) + 1)) (8 + (2 * r5)).toNatClampNeg p1) ((8 + (2 * r9)) + 1).toNatClampNeg p2) (2 : Int32).toNatClampNeg (1 - ((vp_updL (vp_updL (vp_updL f_p0 (3 : Int32).toNatClampNeg ((f_p0 (3 : Int32).toNatClampNeg) + 1)) (8 + (2 * r5)).toNatClampNeg p1) ((8 + (2 * r9)) + 1).toNatClampNeg p2) (2 : Int32).toNatClampNeg))))) else none) else none) else none) else none) else none) else none
set_option maxHeartbeats 4000000 in
set_option maxRecDepth 100000 in
theorem c_X8_comes {l : Launch} {z : Nat} {D : va_G} {K : Nat → ClassId} {σ : mwm} {a_p0 : Nat} {f_p0 : Nat → Int64} {p1 : Int64} {p2 : Int64} (hc_p0 : σ a_p0 = some (eJ K 250 f_p0)) {v : (Nat → Int64)} (h : fX8_comes f_p0 p1 p2 = some v) : Met l yX8_comes wsX8_comes ({ frames := 1, cells := 0, slots := 0, locals := 20 } : Room) (PCm z D K [.ref a_p0, .long p1, .long p2] σ) (qwV z D (fun σ2 => σ2 a_p0 = some (eJ K 250 v) ∧ ∀ (q : Nat) (f : va_E), σ q = some f → q ≠ a_p0 → σ2 q = some f)) 0 0 (zA z) := by
  refine mt_enter (cc := cX8_comes) (maxL := 5) (ret := none) (own := RX8) (lv := [(0, .ref a_p0), (1, .long p1), (3, .long p2)]) (by decide) rfl rfl (Nat.le_of_ble_eq_true rfl) rfl ?_
  intro p e s m below meth c ls hC hx hb hown hts hK hr hlocks hnm hz hM hS hl
  unfold fX8_comes at h
  refine lv_aload_n hx hb dX8_comes_0 rfl (lv_at hl 0 rfl) ?_
  refine lv_iconst (v := 3) hx hb dX8_comes_1 (by decide) ?_
  refine lv_dup2_11 hx hb dX8_comes_2 rfl rfl ?_
  obtain ⟨c1, h⟩ := gd_some h
  refine mw_ldJ hC hM hc_p0 (inB_ok c1) dX8_comes_3 ?_
  refine lv_lconst (v := 1) hx hb dX8_comes_4 (by decide) ?_
  refine lv_ladd hx hb dX8_comes_5 ?_
  obtain ⟨c2, h⟩ := gd_some h
  refine mw_stJ hC hM hS hc_p0 (inB_ok c2) dX8_comes_6 (fun H locs σ1 hM hS hc_p0 ho3 => ?_)
  replace hc_p0 : σ1 a_p0 = some (eJ K 250 (vp_updL f_p0 (3 : Int32).toNatClampNeg ((f_p0 (3 : Int32).toNatClampNeg) + 1))) := hc_p0
  have hf4 := fun (q : Nat) (f : va_E) (hf : σ q = some f) (n0 : q ≠ a_p0) => ho3 q f hf n0
  refine lv_aload_n hx hb dX8_comes_7 rfl (lv_at hl 0 rfl) ?_
  refine lv_bipush (v := 8) hx hb dX8_comes_8 (by decide) ?_
  refine lv_iconst (v := 2) hx hb dX8_comes_10 (by decide) ?_
  refine lv_aload_n hx hb dX8_comes_11 rfl (lv_at hl 0 rfl) ?_
  obtain ⟨r5, hr5, h⟩ := ob_some h
  refine mw_ci (mw_runS (As := [.ref a_p0]) (rest := [.int 2, .int 8, .ref a_p0]) hC hM hS (c_X8_moves (a_p0 := a_p0) (f_p0 := (vp_updL f_p0 (3 : Int32).toNatClampNeg ((f_p0 (3 : Int32).toNatClampNeg) + 1))) (hc_p0 := hc_p0) (v := r5) hr5) gX8_comes_X8_moves rfl rfl rfl q_X8_moves ⟨Nat.le_of_ble_eq_true rfl, Nat.le_of_ble_eq_true rfl⟩ rfl rfl (Nat.le_of_ble_eq_true rfl) hl.1 dX8_comes_12 ⟨Nat.le_of_ble_eq_true rfl, Nat.le_of_ble_eq_true rfl⟩) ?_
  refine lv_imul hx hb dX8_comes_15 ?_
  refine lv_iadd hx hb dX8_comes_16 ?_
  refine lv_lload_n hx hb dX8_comes_17 rfl (lv_at hl 1 rfl) ?_
  obtain ⟨c6, h⟩ := gd_some h
  refine mw_stJ hC hM hS hc_p0 (inB_ok c6) dX8_comes_18 (fun H locs σ1 hM hS hc_p0 ho7 => ?_)
  replace hc_p0 : σ1 a_p0 = some (eJ K 250 (vp_updL (vp_updL f_p0 (3 : Int32).toNatClampNeg ((f_p0 (3 : Int32).toNatClampNeg) + 1)) (8 + (2 * r5)).toNatClampNeg p1)) := hc_p0
  have hf8 := fun (q : Nat) (f : va_E) (hf : σ q = some f) (n0 : q ≠ a_p0) => ho7 q f (hf4 q f hf n0) n0
  refine lv_aload_n hx hb dX8_comes_19 rfl (lv_at hl 0 rfl) ?_
  refine lv_bipush (v := 8) hx hb dX8_comes_20 (by decide) ?_
  refine lv_iconst (v := 2) hx hb dX8_comes_22 (by decide) ?_
  refine lv_aload_n hx hb dX8_comes_23 rfl (lv_at hl 0 rfl) ?_
  obtain ⟨r9, hr9, h⟩ := ob_some h
  refine mw_ci (mw_runS (As := [.ref a_p0]) (rest := [.int 2, .int 8, .ref a_p0]) hC hM hS (c_X8_moves (a_p0 := a_p0) (f_p0 := (vp_updL (vp_updL f_p0 (3 : Int32).toNatClampNeg ((f_p0 (3 : Int32).toNatClampNeg) + 1)) (8 + (2 * r5)).toNatClampNeg p1)) (hc_p0 := hc_p0) (v := r9) hr9) gX8_comes_X8_moves rfl rfl rfl q_X8_moves ⟨Nat.le_of_ble_eq_true rfl, Nat.le_of_ble_eq_true rfl⟩ rfl rfl (Nat.le_of_ble_eq_true rfl) hl.1 dX8_comes_24 ⟨Nat.le_of_ble_eq_true rfl, Nat.le_of_ble_eq_true rfl⟩) ?_
  refine lv_imul hx hb dX8_comes_27 ?_
  refine lv_iadd hx hb dX8_comes_28 ?_
  refine lv_iconst (v := 1) hx hb dX8_comes_29 (by decide) ?_
  refine lv_iadd hx hb dX8_comes_30 ?_
  refine lv_lload_n hx hb dX8_comes_31 rfl (lv_at hl 2 rfl) ?_
  obtain ⟨c10, h⟩ := gd_some h
  refine mw_stJ hC hM hS hc_p0 (inB_ok c10) dX8_comes_32 (fun H locs σ1 hM hS hc_p0 ho11 => ?_)
  replace hc_p0 : σ1 a_p0 = some (eJ K 250 (vp_updL (vp_updL (vp_updL f_p0 (3 : Int32).toNatClampNeg ((f_p0 (3 : Int32).toNatClampNeg) + 1)) (8 + (2 * r5)).toNatClampNeg p1) ((8 + (2 * r9)) + 1).toNatClampNeg p2)) := hc_p0
  have hf12 := fun (q : Nat) (f : va_E) (hf : σ q = some f) (n0 : q ≠ a_p0) => ho11 q f (hf8 q f hf n0) n0
  refine lv_aload_n hx hb dX8_comes_33 rfl (lv_at hl 0 rfl) ?_
  refine lv_iconst (v := 2) hx hb dX8_comes_34 (by decide) ?_
  refine lv_lconst (v := 1) hx hb dX8_comes_35 (by decide) ?_
  refine lv_aload_n hx hb dX8_comes_36 rfl (lv_at hl 0 rfl) ?_
  refine lv_iconst (v := 2) hx hb dX8_comes_37 (by decide) ?_
  obtain ⟨c13, h⟩ := gd_some h
  refine mw_ldJ hC hM hc_p0 (inB_ok c13) dX8_comes_38 ?_
  refine lv_lsub hx hb dX8_comes_39 ?_
  obtain ⟨c14, h⟩ := gd_some h
  refine mw_stJ hC hM hS hc_p0 (inB_ok c14) dX8_comes_40 (fun H locs σ1 hM hS hc_p0 ho15 => ?_)
  replace hc_p0 : σ1 a_p0 = some (eJ K 250 (vp_updL (vp_updL (vp_updL (vp_updL f_p0 (3 : Int32).toNatClampNeg ((f_p0 (3 : Int32).toNatClampNeg) + 1)) (8 + (2 * r5)).toNatClampNeg p1) ((8 + (2 * r9)) + 1).toNatClampNeg p2) (2 : Int32).toNatClampNeg (1 - ((vp_updL (vp_updL (vp_updL f_p0 (3 : Int32).toNatClampNeg ((f_p0 (3 : Int32).toNatClampNeg) + 1)) (8 + (2 * r5)).toNatClampNeg p1) ((8 + (2 * r9)) + 1).toNatClampNeg p2) (2 : Int32).toNatClampNeg)))) := hc_p0
  have hf16 := fun (q : Nat) (f : va_E) (hf : σ q = some f) (n0 : q ≠ a_p0) => ho15 q f (hf12 q f hf n0) n0
  cases h
  exact W.vret hx hb hr (fun t ht hW => ⟨⟨_, rfl, ⟨hc_p0, hf16⟩, by show MW z D _ t.heap; rw [ht]; exact hM⟩, hS.F ht⟩) hS.2.2 dX8_comes_41 hlocks
theorem l_X8_playOn_0 : Cond.fieldLink RX8 85 "CornerStonesModel" "taken" "I" ∈ wsX8_playOn := (List.mem_cons_of_mem _ (List.mem_append_left _ (List.mem_of_getElem? (i := 0) rfl)))
theorem i_X8_playOn_X8 : ∀ w ∈ wsX80, w ∈ wsX8_playOn := fun _ h => (List.mem_cons_of_mem _ (List.mem_append_right _ h))
theorem l_X8_playOn_2 : Cond.fieldLink RX8 82 "CornerStonesModel" "others" "J" ∈ wsX8_playOn := (List.mem_cons_of_mem _ (List.mem_append_left _ (List.mem_of_getElem? (i := 2) rfl)))
theorem l_X8_playOn_3 : Cond.fieldLink RX8 78 "CornerStonesModel" "own" "J" ∈ wsX8_playOn := (List.mem_cons_of_mem _ (List.mem_append_left _ (List.mem_of_getElem? (i := 1) rfl)))
theorem q_X8_playOn : yX8_playOn.cls ≠ "java/lang/invoke/MethodHandle" ∧ yX8_playOn.cls ≠ "java/lang/invoke/VarHandle" ∧ (parseMethodDescriptor yX8_playOn.desc).map (fun d => d.parameters.length) = some 1 := by decide +kernel
def fX8_playOn (w_t : Int32 × Int32 × Int32 × Int64 × Int64 × Int32 × Int64 × Int32 × Int32 × Int32) (f_p0 : Nat → Int64) : Option (Int32 × (Nat → Int64)) := (fX8_turnOf f_p0).bind fun r1 => if inB (5 + r1) 250 = true then (if inB (5 + r1) 250 = true then (if inB 7 250 = true then (if r1 = 0 then (if r1 = 0 then ((fX8_comes (vp_updL (vp_updL f_p0 (5 + r1).toNatClampNeg ((f_p0 (5 + r1).toNatClampNeg) + w_t.2.2.2.2.2.1.toInt64)) (7 : Int32).toNatClampNeg 0) w_t.2.2.2.1 w_t.2.2.2.2.1).bind fun r24 => some ((w_t.2.2.2.2.2.1, r24))) else ((fX8_comes (vp_updL (vp_updL f_p0 (5 + r1).toNatClampNeg ((f_p0 (5 + r1).toNatClampNeg) + w_t.2.2.2.2.2.1.toInt64)) (7 : Int32).toNatClampNeg 0) w_t.2.2.2.1 w_t.2.2.2.1).bind fun r20 => some ((w_t.2.2.2.2.2.1, r20)))) else (if r1 = 0 then ((fX8_comes (vp_updL (vp_updL f_p0 (5 + r1).toNatClampNeg ((f_p0 (5 + r1).toNatClampNeg) + w_t.2.2.2.2.2.1.toInt64)) (7 : Int32).toNatClampNeg 0) w_t.2.2.2.2.1 w_t.2.2.2.2.1).bind fun r15 => some ((w_t.2.2.2.2.2.1, r15))) else ((fX8_comes (vp_updL (vp_updL f_p0 (5 + r1).toNatClampNeg ((f_p0 (5 + r1).toNatClampNeg) + w_t.2.2.2.2.2.1.toInt64)) (7 : Int32).toNatClampNeg 0) w_t.2.2.2.2.1 w_t.2.2.2.1).bind fun r11 => some ((w_t.2.2.2.2.2.1, r11))))) else none) else none) else none
set_option maxHeartbeats 4000000 in
set_option maxRecDepth 100000 in
theorem c_X8_playOn {l : Launch} {z : Nat} {D : va_G} {K : Nat → ClassId} {σ : mwm} {a_t a_p0 a_t_text a_t_now a_t_trial a_t_diary a_t_kept a_t_isKept a_t_owners a_t_chasers a_t_lefts : Nat} {w_t : Int32 × Int32 × Int32 × Int64 × Int64 × Int32 × Int64 × Int32 × Int32 × Int32} {f_p0 : Nat → Int64} (hc_t : σ a_t = some (cl6 a_t_text a_t_now a_t_trial a_t_diary a_t_kept a_t_isKept a_t_owners a_t_chasers a_t_lefts w_t)) (hc_p0 : σ a_p0 = some (eJ K 250 f_p0)) (n_p0_t : a_p0 ≠ a_t) {v : Int32 × (Nat → Int64)} (h : fX8_playOn w_t f_p0 = some v) : Met l yX8_playOn wsX8_playOn ({ frames := 2, cells := 0, slots := 0, locals := 44 } : Room) (PCm z D K [.ref a_t, .ref a_p0] σ) (qwI z D (fun r σ2 => r = v.1 ∧ σ2 a_p0 = some (eJ K 250 v.2) ∧ ∀ (q : Nat) (f : va_E), σ q = some f → q ≠ a_p0 → σ2 q = some f)) 0 0 (zA z) := by
  refine mt_enter (cc := cX8_playOn) (maxL := 3) (ret := (some .int)) (own := RX8) (lv := [(0, .ref a_t), (1, .ref a_p0)]) (by decide) rfl rfl (Nat.le_of_ble_eq_true rfl) rfl ?_
  intro p e s m below meth c ls hC hx hb hown hts hK hr hlocks hnm hz hM hS hl
  unfold fX8_playOn at h
  refine lv_aload_n hx hb dX8_playOn_0 rfl (lv_at hl 1 rfl) ?_
  obtain ⟨r1, hr1, h⟩ := ob_some h
  refine mw_ci (mw_runS (As := [.ref a_p0]) (rest := []) hC hM hS (c_X8_turnOf (a_p0 := a_p0) (f_p0 := f_p0) (hc_p0 := hc_p0) (v := r1) hr1) gX8_playOn_X8_turnOf rfl rfl rfl q_X8_turnOf ⟨Nat.le_of_ble_eq_true rfl, Nat.le_of_ble_eq_true rfl⟩ rfl rfl (Nat.le_of_ble_eq_true rfl) hl.1 dX8_playOn_1 ⟨Nat.le_of_ble_eq_true rfl, Nat.le_of_ble_eq_true rfl⟩) ?_
  refine lv_istore_n (lv' := [(2, .int r1), (0, .ref a_t), (1, .ref a_p0)]) hx hb dX8_playOn_4 rfl hl (by decide) rfl (fun ls hl => ?_)
  refine lv_aload_n hx hb dX8_playOn_5 rfl (lv_at hl 2 rfl) ?_
  refine lv_iconst (v := 5) hx hb dX8_playOn_6 (by decide) ?_
  refine lv_iload_n hx hb dX8_playOn_7 rfl (lv_at hl 0 rfl) ?_
  refine lv_iadd hx hb dX8_playOn_8 ?_
  refine lv_dup2_11 hx hb dX8_playOn_9 rfl rfl ?_
  obtain ⟨c2, h⟩ := gd_some h
  refine mw_ldJ hC hM hc_p0 (inB_ok c2) dX8_playOn_10 ?_
  refine lv_aload_n hx hb dX8_playOn_11 rfl (lv_at hl 1 rfl) ?_
  refine mw_get (ci := 6) (C := RX8) (T := TX8) (N := 19) (v := .int w_t.2.2.2.2.2.1) hC i_X8_playOn_X8 hM hc_t rfl 11 (by decide) l_X8_playOn_0 rfl rfl dX8_playOn_12 ?_
  refine lv_i2l hx hb dX8_playOn_15 rfl ?_
  refine lv_ladd hx hb dX8_playOn_16 ?_
  obtain ⟨c3, h⟩ := gd_some h
  refine mw_stJ hC hM hS hc_p0 (inB_ok c3) dX8_playOn_17 (fun H locs σ1 hM hS hc_p0 ho4 => ?_)
  replace hc_p0 : σ1 a_p0 = some (eJ K 250 (vp_updL f_p0 (5 + r1).toNatClampNeg ((f_p0 (5 + r1).toNatClampNeg) + w_t.2.2.2.2.2.1.toInt64))) := hc_p0
  have hf5 := fun (q : Nat) (f : va_E) (hf : σ q = some f) (n0 : q ≠ a_p0) => ho4 q f hf n0
  refine lv_aload_n hx hb dX8_playOn_18 rfl (lv_at hl 2 rfl) ?_
  refine lv_bipush (v := 7) hx hb dX8_playOn_19 (by decide) ?_
  refine lv_lconst (v := 0) hx hb dX8_playOn_21 (by decide) ?_
  obtain ⟨c6, h⟩ := gd_some h
  refine mw_stJ hC hM hS hc_p0 (inB_ok c6) dX8_playOn_22 (fun H locs σ1 hM hS hc_p0 ho7 => ?_)
  replace hc_p0 : σ1 a_p0 = some (eJ K 250 (vp_updL (vp_updL f_p0 (5 + r1).toNatClampNeg ((f_p0 (5 + r1).toNatClampNeg) + w_t.2.2.2.2.2.1.toInt64)) (7 : Int32).toNatClampNeg 0)) := hc_p0
  have hf8 := fun (q : Nat) (f : va_E) (hf : σ q = some f) (n0 : q ≠ a_p0) => ho7 q f (hf5 q f hf n0) n0
  refine lv_aload_n hx hb dX8_playOn_23 rfl (lv_at hl 2 rfl) ?_
  refine lv_iload_n hx hb dX8_playOn_24 rfl (lv_at hl 0 rfl) ?_
  refine lv_if_ne (tgt := 35) hx hb dX8_playOn_25 (by decide) (fun c9 => ?_) (fun c9 => ?_)
  · replace h := it_neg c9 h
    refine lv_aload_n hx hb dX8_playOn_35 rfl (lv_at hl 1 rfl) ?_
    refine mw_get (ci := 6) (C := RX8) (T := TX8) (N := 19) (v := .long w_t.2.2.2.2.1) hC i_X8_playOn_X8 hM (hf8 a_t _ hc_t (Ne.symm n_p0_t)) rfl 10 (by decide) l_X8_playOn_2 rfl rfl dX8_playOn_36 ?_
    refine lv_iload_n hx hb dX8_playOn_39 rfl (lv_at hl 0 rfl) ?_
    refine lv_if_ne (tgt := 50) hx hb dX8_playOn_40 (by decide) (fun c10 => ?_) (fun c10 => ?_)
    · replace h := it_neg c10 h
      refine lv_aload_n hx hb dX8_playOn_50 rfl (lv_at hl 1 rfl) ?_
      refine mw_get (ci := 6) (C := RX8) (T := TX8) (N := 19) (v := .long w_t.2.2.2.1) hC i_X8_playOn_X8 hM (hf8 a_t _ hc_t (Ne.symm n_p0_t)) rfl 9 (by decide) l_X8_playOn_3 rfl rfl dX8_playOn_51 ?_
      obtain ⟨r11, hr11, h⟩ := ob_some h
      refine mw_wv (mw_runS (As := [.ref a_p0, .long w_t.2.2.2.2.1, .long w_t.2.2.2.1]) (rest := []) hC hM hS (c_X8_comes (a_p0 := a_p0) (f_p0 := (vp_updL (vp_updL f_p0 (5 + r1).toNatClampNeg ((f_p0 (5 + r1).toNatClampNeg) + w_t.2.2.2.2.2.1.toInt64)) (7 : Int32).toNatClampNeg 0)) (p1 := w_t.2.2.2.2.1) (p2 := w_t.2.2.2.1) (hc_p0 := hc_p0) (v := r11) hr11) gX8_playOn_X8_comes rfl rfl rfl q_X8_comes ⟨Nat.le_of_ble_eq_true rfl, Nat.le_of_ble_eq_true rfl⟩ rfl rfl (Nat.le_of_ble_eq_true rfl) hl.1 dX8_playOn_54 ⟨Nat.le_of_ble_eq_true rfl, Nat.le_of_ble_eq_true rfl⟩) hS (fun H locs σ1 hp13 hM hS => ?_)
      obtain ⟨hc_p0, ho12⟩ := hp13
      have hf14 := fun (q : Nat) (f : va_E) (hf : σ q = some f) (n0 : q ≠ a_p0) => ho12 q f (hf8 q f hf n0) n0
      refine lv_aload_n hx hb dX8_playOn_57 rfl (lv_at hl 1 rfl) ?_
      refine mw_get (ci := 6) (C := RX8) (T := TX8) (N := 19) (v := .int w_t.2.2.2.2.2.1) hC i_X8_playOn_X8 hM (hf14 a_t _ hc_t (Ne.symm n_p0_t)) rfl 11 (by decide) l_X8_playOn_0 rfl rfl dX8_playOn_58 ?_
      cases h
      exact W.iret hx hb hr (fun t ht hW => ⟨⟨_, _, rfl, ⟨rfl, hc_p0, hf14⟩, by show MW z D _ t.heap; rw [ht]; exact hM⟩, hS.F ht⟩) hS.2.2 dX8_playOn_61 hlocks
    · replace h := it_pos c10 h
      refine lv_aload_n hx hb dX8_playOn_43 rfl (lv_at hl 1 rfl) ?_
      refine mw_get (ci := 6) (C := RX8) (T := TX8) (N := 19) (v := .long w_t.2.2.2.2.1) hC i_X8_playOn_X8 hM (hf8 a_t _ hc_t (Ne.symm n_p0_t)) rfl 10 (by decide) l_X8_playOn_2 rfl rfl dX8_playOn_44 ?_
      refine lv_goto (tgt := 54) hx hb dX8_playOn_47 (by decide) ?_
      obtain ⟨r15, hr15, h⟩ := ob_some h
      refine mw_wv (mw_runS (As := [.ref a_p0, .long w_t.2.2.2.2.1, .long w_t.2.2.2.2.1]) (rest := []) hC hM hS (c_X8_comes (a_p0 := a_p0) (f_p0 := (vp_updL (vp_updL f_p0 (5 + r1).toNatClampNeg ((f_p0 (5 + r1).toNatClampNeg) + w_t.2.2.2.2.2.1.toInt64)) (7 : Int32).toNatClampNeg 0)) (p1 := w_t.2.2.2.2.1) (p2 := w_t.2.2.2.2.1) (hc_p0 := hc_p0) (v := r15) hr15) gX8_playOn_X8_comes rfl rfl rfl q_X8_comes ⟨Nat.le_of_ble_eq_true rfl, Nat.le_of_ble_eq_true rfl⟩ rfl rfl (Nat.le_of_ble_eq_true rfl) hl.1 dX8_playOn_54 ⟨Nat.le_of_ble_eq_true rfl, Nat.le_of_ble_eq_true rfl⟩) hS (fun H locs σ1 hp17 hM hS => ?_)
      obtain ⟨hc_p0, ho16⟩ := hp17
      have hf18 := fun (q : Nat) (f : va_E) (hf : σ q = some f) (n0 : q ≠ a_p0) => ho16 q f (hf8 q f hf n0) n0
      refine lv_aload_n hx hb dX8_playOn_57 rfl (lv_at hl 1 rfl) ?_
      refine mw_get (ci := 6) (C := RX8) (T := TX8) (N := 19) (v := .int w_t.2.2.2.2.2.1) hC i_X8_playOn_X8 hM (hf18 a_t _ hc_t (Ne.symm n_p0_t)) rfl 11 (by decide) l_X8_playOn_0 rfl rfl dX8_playOn_58 ?_
      cases h
      exact W.iret hx hb hr (fun t ht hW => ⟨⟨_, _, rfl, ⟨rfl, hc_p0, hf18⟩, by show MW z D _ t.heap; rw [ht]; exact hM⟩, hS.F ht⟩) hS.2.2 dX8_playOn_61 hlocks
  · replace h := it_pos c9 h
    refine lv_aload_n hx hb dX8_playOn_28 rfl (lv_at hl 1 rfl) ?_
    refine mw_get (ci := 6) (C := RX8) (T := TX8) (N := 19) (v := .long w_t.2.2.2.1) hC i_X8_playOn_X8 hM (hf8 a_t _ hc_t (Ne.symm n_p0_t)) rfl 9 (by decide) l_X8_playOn_3 rfl rfl dX8_playOn_29 ?_
    refine lv_goto (tgt := 39) hx hb dX8_playOn_32 (by decide) ?_
    refine lv_iload_n hx hb dX8_playOn_39 rfl (lv_at hl 0 rfl) ?_
    refine lv_if_ne (tgt := 50) hx hb dX8_playOn_40 (by decide) (fun c19 => ?_) (fun c19 => ?_)
    · replace h := it_neg c19 h
      refine lv_aload_n hx hb dX8_playOn_50 rfl (lv_at hl 1 rfl) ?_
      refine mw_get (ci := 6) (C := RX8) (T := TX8) (N := 19) (v := .long w_t.2.2.2.1) hC i_X8_playOn_X8 hM (hf8 a_t _ hc_t (Ne.symm n_p0_t)) rfl 9 (by decide) l_X8_playOn_3 rfl rfl dX8_playOn_51 ?_
      obtain ⟨r20, hr20, h⟩ := ob_some h
      refine mw_wv (mw_runS (As := [.ref a_p0, .long w_t.2.2.2.1, .long w_t.2.2.2.1]) (rest := []) hC hM hS (c_X8_comes (a_p0 := a_p0) (f_p0 := (vp_updL (vp_updL f_p0 (5 + r1).toNatClampNeg ((f_p0 (5 + r1).toNatClampNeg) + w_t.2.2.2.2.2.1.toInt64)) (7 : Int32).toNatClampNeg 0)) (p1 := w_t.2.2.2.1) (p2 := w_t.2.2.2.1) (hc_p0 := hc_p0) (v := r20) hr20) gX8_playOn_X8_comes rfl rfl rfl q_X8_comes ⟨Nat.le_of_ble_eq_true rfl, Nat.le_of_ble_eq_true rfl⟩ rfl rfl (Nat.le_of_ble_eq_true rfl) hl.1 dX8_playOn_54 ⟨Nat.le_of_ble_eq_true rfl, Nat.le_of_ble_eq_true rfl⟩) hS (fun H locs σ1 hp22 hM hS => ?_)
      obtain ⟨hc_p0, ho21⟩ := hp22
      have hf23 := fun (q : Nat) (f : va_E) (hf : σ q = some f) (n0 : q ≠ a_p0) => ho21 q f (hf8 q f hf n0) n0
      refine lv_aload_n hx hb dX8_playOn_57 rfl (lv_at hl 1 rfl) ?_
      refine mw_get (ci := 6) (C := RX8) (T := TX8) (N := 19) (v := .int w_t.2.2.2.2.2.1) hC i_X8_playOn_X8 hM (hf23 a_t _ hc_t (Ne.symm n_p0_t)) rfl 11 (by decide) l_X8_playOn_0 rfl rfl dX8_playOn_58 ?_
      cases h
      exact W.iret hx hb hr (fun t ht hW => ⟨⟨_, _, rfl, ⟨rfl, hc_p0, hf23⟩, by show MW z D _ t.heap; rw [ht]; exact hM⟩, hS.F ht⟩) hS.2.2 dX8_playOn_61 hlocks
    · replace h := it_pos c19 h
      refine lv_aload_n hx hb dX8_playOn_43 rfl (lv_at hl 1 rfl) ?_
      refine mw_get (ci := 6) (C := RX8) (T := TX8) (N := 19) (v := .long w_t.2.2.2.2.1) hC i_X8_playOn_X8 hM (hf8 a_t _ hc_t (Ne.symm n_p0_t)) rfl 10 (by decide) l_X8_playOn_2 rfl rfl dX8_playOn_44 ?_
      refine lv_goto (tgt := 54) hx hb dX8_playOn_47 (by decide) ?_
      obtain ⟨r24, hr24, h⟩ := ob_some h
      refine mw_wv (mw_runS (As := [.ref a_p0, .long w_t.2.2.2.1, .long w_t.2.2.2.2.1]) (rest := []) hC hM hS (c_X8_comes (a_p0 := a_p0) (f_p0 := (vp_updL (vp_updL f_p0 (5 + r1).toNatClampNeg ((f_p0 (5 + r1).toNatClampNeg) + w_t.2.2.2.2.2.1.toInt64)) (7 : Int32).toNatClampNeg 0)) (p1 := w_t.2.2.2.1) (p2 := w_t.2.2.2.2.1) (hc_p0 := hc_p0) (v := r24) hr24) gX8_playOn_X8_comes rfl rfl rfl q_X8_comes ⟨Nat.le_of_ble_eq_true rfl, Nat.le_of_ble_eq_true rfl⟩ rfl rfl (Nat.le_of_ble_eq_true rfl) hl.1 dX8_playOn_54 ⟨Nat.le_of_ble_eq_true rfl, Nat.le_of_ble_eq_true rfl⟩) hS (fun H locs σ1 hp26 hM hS => ?_)
      obtain ⟨hc_p0, ho25⟩ := hp26
      have hf27 := fun (q : Nat) (f : va_E) (hf : σ q = some f) (n0 : q ≠ a_p0) => ho25 q f (hf8 q f hf n0) n0
      refine lv_aload_n hx hb dX8_playOn_57 rfl (lv_at hl 1 rfl) ?_
      refine mw_get (ci := 6) (C := RX8) (T := TX8) (N := 19) (v := .int w_t.2.2.2.2.2.1) hC i_X8_playOn_X8 hM (hf27 a_t _ hc_t (Ne.symm n_p0_t)) rfl 11 (by decide) l_X8_playOn_0 rfl rfl dX8_playOn_58 ?_
      cases h
      exact W.iret hx hb hr (fun t ht hW => ⟨⟨_, _, rfl, ⟨rfl, hc_p0, hf27⟩, by show MW z D _ t.heap; rw [ht]; exact hM⟩, hS.F ht⟩) hS.2.2 dX8_playOn_61 hlocks
theorem q_X8_passOn : yX8_passOn.cls ≠ "java/lang/invoke/MethodHandle" ∧ yX8_passOn.cls ≠ "java/lang/invoke/VarHandle" ∧ (parseMethodDescriptor yX8_passOn.desc).map (fun d => d.parameters.length) = some 1 := by decide +kernel
def fX8_passOn (f_p0 : Nat → Int64) : Option (Int32 × (Nat → Int64)) := if inB 4 250 = true then (if inB 4 250 = true then (if inB 7 250 = true then (if inB 7 250 = true then ((fX8_stonesOf (vp_updL (vp_updL f_p0 (4 : Int32).toNatClampNeg ((f_p0 (4 : Int32).toNatClampNeg) + 1)) (7 : Int32).toNatClampNeg (((vp_updL f_p0 (4 : Int32).toNatClampNeg ((f_p0 (4 : Int32).toNatClampNeg) + 1)) (7 : Int32).toNatClampNeg) + 1)) 0).bind fun r9 => (fX8_stonesOf (vp_updL (vp_updL f_p0 (4 : Int32).toNatClampNeg ((f_p0 (4 : Int32).toNatClampNeg) + 1)) (7 : Int32).toNatClampNeg (((vp_updL f_p0 (4 : Int32).toNatClampNeg ((f_p0 (4 : Int32).toNatClampNeg) + 1)) (7 : Int32).toNatClampNeg) + 1)) 1).bind fun r10 => (fX8_comes (vp_updL (vp_updL f_p0 (4 : Int32).toNatClampNeg ((f_p0 (4 : Int32).toNatClampNeg) + 1)) (7 : Int32).toNatClampNeg (((vp_updL f_p0 (4 : Int32).toNatClampNeg ((f_p0 (4 : Int32).toNatClampNeg) + 1)) (7 : Int32).toNatClampNeg) + 1)) r9 r10).bind fun r11 => if inB 4 250 = true then (some (((r11 (4 : Int32).toNatClampNeg).toInt32, r11))) else none) else none) else none) else none) else none
set_option maxHeartbeats 4000000 in
set_option maxRecDepth 100000 in
theorem c_X8_passOn {l : Launch} {z : Nat} {D : va_G} {K : Nat → ClassId} {σ : mwm} {a_p0 : Nat} {f_p0 : Nat → Int64} (hc_p0 : σ a_p0 = some (eJ K 250 f_p0)) {v : Int32 × (Nat → Int64)} (h : fX8_passOn f_p0 = some v) : Met l yX8_passOn wsX8_passOn ({ frames := 2, cells := 0, slots := 0, locals := 44 } : Room) (PCm z D K [.ref a_p0] σ) (qwI z D (fun r σ2 => r = v.1 ∧ σ2 a_p0 = some (eJ K 250 v.2) ∧ ∀ (q : Nat) (f : va_E), σ q = some f → q ≠ a_p0 → σ2 q = some f)) 0 0 (zA z) := by
  refine mt_enter (cc := cX8_passOn) (maxL := 1) (ret := (some .int)) (own := RX8) (lv := [(0, .ref a_p0)]) (by decide) rfl rfl (Nat.le_of_ble_eq_true rfl) rfl ?_
  intro p e s m below meth c ls hC hx hb hown hts hK hr hlocks hnm hz hM hS hl
  unfold fX8_passOn at h
  refine lv_aload_n hx hb dX8_passOn_0 rfl (lv_at hl 0 rfl) ?_
  refine lv_iconst (v := 4) hx hb dX8_passOn_1 (by decide) ?_
  refine lv_dup2_11 hx hb dX8_passOn_2 rfl rfl ?_
  obtain ⟨c1, h⟩ := gd_some h
  refine mw_ldJ hC hM hc_p0 (inB_ok c1) dX8_passOn_3 ?_
  refine lv_lconst (v := 1) hx hb dX8_passOn_4 (by decide) ?_
  refine lv_ladd hx hb dX8_passOn_5 ?_
  obtain ⟨c2, h⟩ := gd_some h
  refine mw_stJ hC hM hS hc_p0 (inB_ok c2) dX8_passOn_6 (fun H locs σ1 hM hS hc_p0 ho3 => ?_)
  replace hc_p0 : σ1 a_p0 = some (eJ K 250 (vp_updL f_p0 (4 : Int32).toNatClampNeg ((f_p0 (4 : Int32).toNatClampNeg) + 1))) := hc_p0
  have hf4 := fun (q : Nat) (f : va_E) (hf : σ q = some f) (n0 : q ≠ a_p0) => ho3 q f hf n0
  refine lv_aload_n hx hb dX8_passOn_7 rfl (lv_at hl 0 rfl) ?_
  refine lv_bipush (v := 7) hx hb dX8_passOn_8 (by decide) ?_
  refine lv_dup2_11 hx hb dX8_passOn_10 rfl rfl ?_
  obtain ⟨c5, h⟩ := gd_some h
  refine mw_ldJ hC hM hc_p0 (inB_ok c5) dX8_passOn_11 ?_
  refine lv_lconst (v := 1) hx hb dX8_passOn_12 (by decide) ?_
  refine lv_ladd hx hb dX8_passOn_13 ?_
  obtain ⟨c6, h⟩ := gd_some h
  refine mw_stJ hC hM hS hc_p0 (inB_ok c6) dX8_passOn_14 (fun H locs σ1 hM hS hc_p0 ho7 => ?_)
  replace hc_p0 : σ1 a_p0 = some (eJ K 250 (vp_updL (vp_updL f_p0 (4 : Int32).toNatClampNeg ((f_p0 (4 : Int32).toNatClampNeg) + 1)) (7 : Int32).toNatClampNeg (((vp_updL f_p0 (4 : Int32).toNatClampNeg ((f_p0 (4 : Int32).toNatClampNeg) + 1)) (7 : Int32).toNatClampNeg) + 1))) := hc_p0
  have hf8 := fun (q : Nat) (f : va_E) (hf : σ q = some f) (n0 : q ≠ a_p0) => ho7 q f (hf4 q f hf n0) n0
  refine lv_aload_n hx hb dX8_passOn_15 rfl (lv_at hl 0 rfl) ?_
  refine lv_aload_n hx hb dX8_passOn_16 rfl (lv_at hl 0 rfl) ?_
  refine lv_iconst (v := 0) hx hb dX8_passOn_17 (by decide) ?_
  obtain ⟨r9, hr9, h⟩ := ob_some h
  refine mw_cl (mw_runS (As := [.ref a_p0, .int 0]) (rest := [.ref a_p0]) hC hM hS (c_X8_stonesOf (a_p0 := a_p0) (f_p0 := (vp_updL (vp_updL f_p0 (4 : Int32).toNatClampNeg ((f_p0 (4 : Int32).toNatClampNeg) + 1)) (7 : Int32).toNatClampNeg (((vp_updL f_p0 (4 : Int32).toNatClampNeg ((f_p0 (4 : Int32).toNatClampNeg) + 1)) (7 : Int32).toNatClampNeg) + 1))) (p1 := 0) (hc_p0 := hc_p0) (v := r9) hr9) gX8_passOn_X8_stonesOf rfl rfl rfl q_X8_stonesOf ⟨Nat.le_of_ble_eq_true rfl, Nat.le_of_ble_eq_true rfl⟩ rfl rfl (Nat.le_of_ble_eq_true rfl) hl.1 dX8_passOn_18 ⟨Nat.le_of_ble_eq_true rfl, Nat.le_of_ble_eq_true rfl⟩) ?_
  refine lv_aload_n hx hb dX8_passOn_21 rfl (lv_at hl 0 rfl) ?_
  refine lv_iconst (v := 1) hx hb dX8_passOn_22 (by decide) ?_
  obtain ⟨r10, hr10, h⟩ := ob_some h
  refine mw_cl (mw_runS (As := [.ref a_p0, .int 1]) (rest := [.long r9, .ref a_p0]) hC hM hS (c_X8_stonesOf (a_p0 := a_p0) (f_p0 := (vp_updL (vp_updL f_p0 (4 : Int32).toNatClampNeg ((f_p0 (4 : Int32).toNatClampNeg) + 1)) (7 : Int32).toNatClampNeg (((vp_updL f_p0 (4 : Int32).toNatClampNeg ((f_p0 (4 : Int32).toNatClampNeg) + 1)) (7 : Int32).toNatClampNeg) + 1))) (p1 := 1) (hc_p0 := hc_p0) (v := r10) hr10) gX8_passOn_X8_stonesOf rfl rfl rfl q_X8_stonesOf ⟨Nat.le_of_ble_eq_true rfl, Nat.le_of_ble_eq_true rfl⟩ rfl rfl (Nat.le_of_ble_eq_true rfl) hl.1 dX8_passOn_23 ⟨Nat.le_of_ble_eq_true rfl, Nat.le_of_ble_eq_true rfl⟩) ?_
  obtain ⟨r11, hr11, h⟩ := ob_some h
  refine mw_wv (mw_runS (As := [.ref a_p0, .long r9, .long r10]) (rest := []) hC hM hS (c_X8_comes (a_p0 := a_p0) (f_p0 := (vp_updL (vp_updL f_p0 (4 : Int32).toNatClampNeg ((f_p0 (4 : Int32).toNatClampNeg) + 1)) (7 : Int32).toNatClampNeg (((vp_updL f_p0 (4 : Int32).toNatClampNeg ((f_p0 (4 : Int32).toNatClampNeg) + 1)) (7 : Int32).toNatClampNeg) + 1))) (p1 := r9) (p2 := r10) (hc_p0 := hc_p0) (v := r11) hr11) gX8_passOn_X8_comes rfl rfl rfl q_X8_comes ⟨Nat.le_of_ble_eq_true rfl, Nat.le_of_ble_eq_true rfl⟩ rfl rfl (Nat.le_of_ble_eq_true rfl) hl.1 dX8_passOn_26 ⟨Nat.le_of_ble_eq_true rfl, Nat.le_of_ble_eq_true rfl⟩) hS (fun H locs σ1 hp13 hM hS => ?_)
  obtain ⟨hc_p0, ho12⟩ := hp13
  have hf14 := fun (q : Nat) (f : va_E) (hf : σ q = some f) (n0 : q ≠ a_p0) => ho12 q f (hf8 q f hf n0) n0
  refine lv_aload_n hx hb dX8_passOn_29 rfl (lv_at hl 0 rfl) ?_
  refine lv_iconst (v := 4) hx hb dX8_passOn_30 (by decide) ?_
  obtain ⟨c15, h⟩ := gd_some h
  refine mw_ldJ hC hM hc_p0 (inB_ok c15) dX8_passOn_31 ?_
  refine lv_l2i hx hb dX8_passOn_32 rfl ?_
  cases h
  exact W.iret hx hb hr (fun t ht hW => ⟨⟨_, _, rfl, ⟨rfl, hc_p0, hf14⟩, by show MW z D _ t.heap; rw [ht]; exact hM⟩, hS.F ht⟩) hS.2.2 dX8_passOn_33 hlocks
theorem q_X8_ruleOn : yX8_ruleOn.cls ≠ "java/lang/invoke/MethodHandle" ∧ yX8_ruleOn.cls ≠ "java/lang/invoke/VarHandle" ∧ (parseMethodDescriptor yX8_ruleOn.desc).map (fun d => d.parameters.length) = some 2 := by decide +kernel
def fX8_ruleOn (f_p0 : Nat → Int64) (p1 : Int32) : Option (Int32 × (Nat → Int64)) := if inB 1 250 = true then (bnd ((f_p0 (1 : Int32).toNatClampNeg).toInt32) fun v2 => if inB 1 250 = true then (some ((v2, (vp_updL f_p0 (1 : Int32).toNatClampNeg p1.toInt64)))) else none) else none
set_option maxHeartbeats 4000000 in
set_option maxRecDepth 100000 in
theorem c_X8_ruleOn {l : Launch} {z : Nat} {D : va_G} {K : Nat → ClassId} {σ : mwm} {a_p0 : Nat} {f_p0 : Nat → Int64} {p1 : Int32} (hc_p0 : σ a_p0 = some (eJ K 250 f_p0)) {v : Int32 × (Nat → Int64)} (h : fX8_ruleOn f_p0 p1 = some v) : Met l yX8_ruleOn wsX8_ruleOn ({ frames := 0, cells := 0, slots := 0, locals := 0 } : Room) (PCm z D K [.ref a_p0, .int p1] σ) (qwI z D (fun r σ2 => r = v.1 ∧ σ2 a_p0 = some (eJ K 250 v.2) ∧ ∀ (q : Nat) (f : va_E), σ q = some f → q ≠ a_p0 → σ2 q = some f)) 0 0 (zA z) := by
  refine mt_enter (cc := cX8_ruleOn) (maxL := 3) (ret := (some .int)) (own := RX8) (lv := [(0, .ref a_p0), (1, .int p1)]) (by decide) rfl rfl (Nat.le_of_ble_eq_true rfl) rfl ?_
  intro p e s m below meth c ls hC hx hb hown hts hK hr hlocks hnm hz hM hS hl
  unfold fX8_ruleOn at h
  refine lv_aload_n hx hb dX8_ruleOn_0 rfl (lv_at hl 0 rfl) ?_
  refine lv_iconst (v := 1) hx hb dX8_ruleOn_1 (by decide) ?_
  obtain ⟨c1, h⟩ := gd_some h
  refine mw_ldJ hC hM hc_p0 (inB_ok c1) dX8_ruleOn_2 ?_
  refine lv_l2i hx hb dX8_ruleOn_3 rfl ?_
  refine lv_topi (fun v2 ev2 => ?_)
  replace h := bnd_at ev2 h
  refine lv_istore_n (lv' := [(2, .int v2), (0, .ref a_p0), (1, .int p1)]) hx hb dX8_ruleOn_4 rfl hl (by decide) rfl (fun ls hl => ?_)
  refine lv_aload_n hx hb dX8_ruleOn_5 rfl (lv_at hl 1 rfl) ?_
  refine lv_iconst (v := 1) hx hb dX8_ruleOn_6 (by decide) ?_
  refine lv_iload_n hx hb dX8_ruleOn_7 rfl (lv_at hl 2 rfl) ?_
  refine lv_i2l hx hb dX8_ruleOn_8 rfl ?_
  obtain ⟨c3, h⟩ := gd_some h
  refine mw_stJ hC hM hS hc_p0 (inB_ok c3) dX8_ruleOn_9 (fun H locs σ1 hM hS hc_p0 ho4 => ?_)
  replace hc_p0 : σ1 a_p0 = some (eJ K 250 (vp_updL f_p0 (1 : Int32).toNatClampNeg p1.toInt64)) := hc_p0
  have hf5 := fun (q : Nat) (f : va_E) (hf : σ q = some f) (n0 : q ≠ a_p0) => ho4 q f hf n0
  refine lv_iload_n hx hb dX8_ruleOn_10 rfl (lv_at hl 0 rfl) ?_
  cases h
  exact W.iret hx hb hr (fun t ht hW => ⟨⟨_, _, rfl, ⟨rfl, hc_p0, hf5⟩, by show MW z D _ t.heap; rw [ht]; exact hM⟩, hS.F ht⟩) hS.2.2 dX8_ruleOn_11 hlocks
theorem q_X8_groupAt : yX8_groupAt.cls ≠ "java/lang/invoke/MethodHandle" ∧ yX8_groupAt.cls ≠ "java/lang/invoke/VarHandle" ∧ (parseMethodDescriptor yX8_groupAt.desc).map (fun d => d.parameters.length) = some 2 := by decide +kernel
def fX8_groupAt (f_p0 : Nat → Int64) (p1 : Int32) : Option (Int64) := (fX8_stonesOf f_p0 0).bind fun r1 => if (fX8_has r1 p1) = true then ((fX8_stonesOf f_p0 0).bind fun r8 => if (fX8_has r8 p1) = true then (if inB 0 250 = true then ((fX8_stonesOf f_p0 0).bind fun r11 => (fX8_grown ((f_p0 (0 : Int32).toNatClampNeg).toInt32) (shlL 1 p1) r11).bind fun r12 => some (r12)) else none) else (some ((0 : Int64)))) else ((fX8_stonesOf f_p0 1).bind fun r3 => if (fX8_has r3 p1) = true then (if inB 0 250 = true then ((fX8_stonesOf f_p0 1).bind fun r6 => (fX8_grown ((f_p0 (0 : Int32).toNatClampNeg).toInt32) (shlL 1 p1) r6).bind fun r7 => some (r7)) else none) else (some ((0 : Int64))))
set_option maxHeartbeats 4000000 in
set_option maxRecDepth 100000 in
theorem c_X8_groupAt {l : Launch} {z : Nat} {D : va_G} {K : Nat → ClassId} {σ : mwm} {a_p0 : Nat} {f_p0 : Nat → Int64} {p1 : Int32} (hc_p0 : σ a_p0 = some (eJ K 250 f_p0)) {v : Int64} (h : fX8_groupAt f_p0 p1 = some v) : Met l yX8_groupAt wsX8_groupAt ({ frames := 4, cells := 0, slots := 0, locals := 96 } : Room) (PCm z D K [.ref a_p0, .int p1] σ) (qsL v) 0 0 (fun _ => False) := by
  refine mt_enter (cc := cX8_groupAt) (maxL := 3) (ret := (some .long)) (own := RX8) (lv := [(0, .ref a_p0), (1, .int p1)]) (by decide) rfl rfl (Nat.le_of_ble_eq_true rfl) rfl ?_
  intro p e s m below meth c ls hC hx hb hown hts hK hr hlocks hnm hz hM hS hl
  unfold fX8_groupAt at h
  refine lv_aload_n hx hb dX8_groupAt_0 rfl (lv_at hl 0 rfl) ?_
  refine lv_iconst (v := 0) hx hb dX8_groupAt_1 (by decide) ?_
  obtain ⟨r1, hr1, h⟩ := ob_some h
  refine mw_cl (mw_runS (As := [.ref a_p0, .int 0]) (rest := []) hC hM hS (c_X8_stonesOf (a_p0 := a_p0) (f_p0 := f_p0) (p1 := 0) (hc_p0 := hc_p0) (v := r1) hr1) gX8_groupAt_X8_stonesOf rfl rfl rfl q_X8_stonesOf ⟨Nat.le_of_ble_eq_true rfl, Nat.le_of_ble_eq_true rfl⟩ rfl rfl (Nat.le_of_ble_eq_true rfl) hl.1 dX8_groupAt_2 ⟨Nat.le_of_ble_eq_true rfl, Nat.le_of_ble_eq_true rfl⟩) ?_
  refine lv_iload_n hx hb dX8_groupAt_5 rfl (lv_at hl 1 rfl) ?_
  refine mw_ci (mw_runS (As := [.long r1, .int p1]) (rest := []) hC hM hS (c_X8_has (p0 := r1) (p1 := p1) (v := (fX8_has r1 p1)) rfl) gX8_groupAt_X8_has rfl rfl rfl q_X8_has ⟨Nat.le_of_ble_eq_true rfl, Nat.le_of_ble_eq_true rfl⟩ rfl rfl (Nat.le_of_ble_eq_true rfl) hl.1 dX8_groupAt_6 ⟨Nat.le_of_ble_eq_true rfl, Nat.le_of_ble_eq_true rfl⟩) ?_
  refine lv_if_eq (tgt := 16) hx hb dX8_groupAt_9 (by decide) (fun c2 => ?_) (fun c2 => ?_)
  · replace c2 := b2i_eq0.mp c2
    replace h := it_neg c2 h
    refine lv_iconst (v := 1) hx hb dX8_groupAt_16 (by decide) ?_
    refine lv_istore_n (lv' := [(2, .int 1), (0, .ref a_p0), (1, .int p1)]) hx hb dX8_groupAt_17 rfl hl (by decide) rfl (fun ls hl => ?_)
    refine lv_aload_n hx hb dX8_groupAt_18 rfl (lv_at hl 1 rfl) ?_
    refine lv_iload_n hx hb dX8_groupAt_19 rfl (lv_at hl 0 rfl) ?_
    obtain ⟨r3, hr3, h⟩ := ob_some h
    refine mw_cl (mw_runS (As := [.ref a_p0, .int 1]) (rest := []) hC hM hS (c_X8_stonesOf (a_p0 := a_p0) (f_p0 := f_p0) (p1 := 1) (hc_p0 := hc_p0) (v := r3) hr3) gX8_groupAt_X8_stonesOf rfl rfl rfl q_X8_stonesOf ⟨Nat.le_of_ble_eq_true rfl, Nat.le_of_ble_eq_true rfl⟩ rfl rfl (Nat.le_of_ble_eq_true rfl) hl.1 dX8_groupAt_20 ⟨Nat.le_of_ble_eq_true rfl, Nat.le_of_ble_eq_true rfl⟩) ?_
    refine lv_iload_n hx hb dX8_groupAt_23 rfl (lv_at hl 2 rfl) ?_
    refine mw_ci (mw_runS (As := [.long r3, .int p1]) (rest := []) hC hM hS (c_X8_has (p0 := r3) (p1 := p1) (v := (fX8_has r3 p1)) rfl) gX8_groupAt_X8_has rfl rfl rfl q_X8_has ⟨Nat.le_of_ble_eq_true rfl, Nat.le_of_ble_eq_true rfl⟩ rfl rfl (Nat.le_of_ble_eq_true rfl) hl.1 dX8_groupAt_24 ⟨Nat.le_of_ble_eq_true rfl, Nat.le_of_ble_eq_true rfl⟩) ?_
    refine lv_if_eq (tgt := 48) hx hb dX8_groupAt_27 (by decide) (fun c4 => ?_) (fun c4 => ?_)
    · replace c4 := b2i_eq0.mp c4
      replace h := it_neg c4 h
      refine lv_lconst (v := 0) hx hb dX8_groupAt_48 (by decide) ?_
      cases h
      exact W.lret hx hb hr (fun t ht hW => ⟨_, rfl, rfl, ht⟩) (fun _ h9 => by cases h9) dX8_groupAt_49 hlocks
    · replace c4 := b2i_ne0.mp c4
      replace h := it_pos c4 h
      refine lv_aload_n hx hb dX8_groupAt_30 rfl (lv_at hl 1 rfl) ?_
      refine lv_iconst (v := 0) hx hb dX8_groupAt_31 (by decide) ?_
      obtain ⟨c5, h⟩ := gd_some h
      refine mw_ldJ hC hM hc_p0 (inB_ok c5) dX8_groupAt_32 ?_
      refine lv_l2i hx hb dX8_groupAt_33 rfl ?_
      refine lv_lconst (v := 1) hx hb dX8_groupAt_34 (by decide) ?_
      refine lv_iload_n hx hb dX8_groupAt_35 rfl (lv_at hl 2 rfl) ?_
      refine lv_lshl (v := (shlL 1 p1)) hx hb dX8_groupAt_36 rfl ?_
      refine lv_aload_n hx hb dX8_groupAt_37 rfl (lv_at hl 1 rfl) ?_
      refine lv_iload_n hx hb dX8_groupAt_38 rfl (lv_at hl 0 rfl) ?_
      obtain ⟨r6, hr6, h⟩ := ob_some h
      refine mw_cl (mw_runS (As := [.ref a_p0, .int 1]) (rest := [.long (shlL 1 p1), .int ((f_p0 (0 : Int32).toNatClampNeg).toInt32)]) hC hM hS (c_X8_stonesOf (a_p0 := a_p0) (f_p0 := f_p0) (p1 := 1) (hc_p0 := hc_p0) (v := r6) hr6) gX8_groupAt_X8_stonesOf rfl rfl rfl q_X8_stonesOf ⟨Nat.le_of_ble_eq_true rfl, Nat.le_of_ble_eq_true rfl⟩ rfl rfl (Nat.le_of_ble_eq_true rfl) hl.1 dX8_groupAt_39 ⟨Nat.le_of_ble_eq_true rfl, Nat.le_of_ble_eq_true rfl⟩) ?_
      obtain ⟨r7, hr7, h⟩ := ob_some h
      refine mw_cl (mw_runS (As := [.int ((f_p0 (0 : Int32).toNatClampNeg).toInt32), .long (shlL 1 p1), .long r6]) (rest := []) hC hM hS (c_X8_grown (p0 := (f_p0 (0 : Int32).toNatClampNeg).toInt32) (p1 := (shlL 1 p1)) (p2 := r6) (v := r7) hr7) gX8_groupAt_X8_grown rfl rfl rfl q_X8_grown ⟨Nat.le_of_ble_eq_true rfl, Nat.le_of_ble_eq_true rfl⟩ rfl rfl (Nat.le_of_ble_eq_true rfl) hl.1 dX8_groupAt_42 ⟨Nat.le_of_ble_eq_true rfl, Nat.le_of_ble_eq_true rfl⟩) ?_
      refine lv_goto (tgt := 49) hx hb dX8_groupAt_45 (by decide) ?_
      cases h
      exact W.lret hx hb hr (fun t ht hW => ⟨_, rfl, rfl, ht⟩) (fun _ h9 => by cases h9) dX8_groupAt_49 hlocks
  · replace c2 := b2i_ne0.mp c2
    replace h := it_pos c2 h
    refine lv_iconst (v := 0) hx hb dX8_groupAt_12 (by decide) ?_
    refine lv_goto (tgt := 17) hx hb dX8_groupAt_13 (by decide) ?_
    refine lv_istore_n (lv' := [(2, .int 0), (0, .ref a_p0), (1, .int p1)]) hx hb dX8_groupAt_17 rfl hl (by decide) rfl (fun ls hl => ?_)
    refine lv_aload_n hx hb dX8_groupAt_18 rfl (lv_at hl 1 rfl) ?_
    refine lv_iload_n hx hb dX8_groupAt_19 rfl (lv_at hl 0 rfl) ?_
    obtain ⟨r8, hr8, h⟩ := ob_some h
    refine mw_cl (mw_runS (As := [.ref a_p0, .int 0]) (rest := []) hC hM hS (c_X8_stonesOf (a_p0 := a_p0) (f_p0 := f_p0) (p1 := 0) (hc_p0 := hc_p0) (v := r8) hr8) gX8_groupAt_X8_stonesOf rfl rfl rfl q_X8_stonesOf ⟨Nat.le_of_ble_eq_true rfl, Nat.le_of_ble_eq_true rfl⟩ rfl rfl (Nat.le_of_ble_eq_true rfl) hl.1 dX8_groupAt_20 ⟨Nat.le_of_ble_eq_true rfl, Nat.le_of_ble_eq_true rfl⟩) ?_
    refine lv_iload_n hx hb dX8_groupAt_23 rfl (lv_at hl 2 rfl) ?_
    refine mw_ci (mw_runS (As := [.long r8, .int p1]) (rest := []) hC hM hS (c_X8_has (p0 := r8) (p1 := p1) (v := (fX8_has r8 p1)) rfl) gX8_groupAt_X8_has rfl rfl rfl q_X8_has ⟨Nat.le_of_ble_eq_true rfl, Nat.le_of_ble_eq_true rfl⟩ rfl rfl (Nat.le_of_ble_eq_true rfl) hl.1 dX8_groupAt_24 ⟨Nat.le_of_ble_eq_true rfl, Nat.le_of_ble_eq_true rfl⟩) ?_
    refine lv_if_eq (tgt := 48) hx hb dX8_groupAt_27 (by decide) (fun c9 => ?_) (fun c9 => ?_)
    · replace c9 := b2i_eq0.mp c9
      replace h := it_neg c9 h
      refine lv_lconst (v := 0) hx hb dX8_groupAt_48 (by decide) ?_
      cases h
      exact W.lret hx hb hr (fun t ht hW => ⟨_, rfl, rfl, ht⟩) (fun _ h9 => by cases h9) dX8_groupAt_49 hlocks
    · replace c9 := b2i_ne0.mp c9
      replace h := it_pos c9 h
      refine lv_aload_n hx hb dX8_groupAt_30 rfl (lv_at hl 1 rfl) ?_
      refine lv_iconst (v := 0) hx hb dX8_groupAt_31 (by decide) ?_
      obtain ⟨c10, h⟩ := gd_some h
      refine mw_ldJ hC hM hc_p0 (inB_ok c10) dX8_groupAt_32 ?_
      refine lv_l2i hx hb dX8_groupAt_33 rfl ?_
      refine lv_lconst (v := 1) hx hb dX8_groupAt_34 (by decide) ?_
      refine lv_iload_n hx hb dX8_groupAt_35 rfl (lv_at hl 2 rfl) ?_
      refine lv_lshl (v := (shlL 1 p1)) hx hb dX8_groupAt_36 rfl ?_
      refine lv_aload_n hx hb dX8_groupAt_37 rfl (lv_at hl 1 rfl) ?_
      refine lv_iload_n hx hb dX8_groupAt_38 rfl (lv_at hl 0 rfl) ?_
      obtain ⟨r11, hr11, h⟩ := ob_some h
      refine mw_cl (mw_runS (As := [.ref a_p0, .int 0]) (rest := [.long (shlL 1 p1), .int ((f_p0 (0 : Int32).toNatClampNeg).toInt32)]) hC hM hS (c_X8_stonesOf (a_p0 := a_p0) (f_p0 := f_p0) (p1 := 0) (hc_p0 := hc_p0) (v := r11) hr11) gX8_groupAt_X8_stonesOf rfl rfl rfl q_X8_stonesOf ⟨Nat.le_of_ble_eq_true rfl, Nat.le_of_ble_eq_true rfl⟩ rfl rfl (Nat.le_of_ble_eq_true rfl) hl.1 dX8_groupAt_39 ⟨Nat.le_of_ble_eq_true rfl, Nat.le_of_ble_eq_true rfl⟩) ?_
      obtain ⟨r12, hr12, h⟩ := ob_some h
      refine mw_cl (mw_runS (As := [.int ((f_p0 (0 : Int32).toNatClampNeg).toInt32), .long (shlL 1 p1), .long r11]) (rest := []) hC hM hS (c_X8_grown (p0 := (f_p0 (0 : Int32).toNatClampNeg).toInt32) (p1 := (shlL 1 p1)) (p2 := r11) (v := r12) hr12) gX8_groupAt_X8_grown rfl rfl rfl q_X8_grown ⟨Nat.le_of_ble_eq_true rfl, Nat.le_of_ble_eq_true rfl⟩ rfl rfl (Nat.le_of_ble_eq_true rfl) hl.1 dX8_groupAt_42 ⟨Nat.le_of_ble_eq_true rfl, Nat.le_of_ble_eq_true rfl⟩) ?_
      refine lv_goto (tgt := 49) hx hb dX8_groupAt_45 (by decide) ?_
      cases h
      exact W.lret hx hb hr (fun t ht hW => ⟨_, rfl, rfl, ht⟩) (fun _ h9 => by cases h9) dX8_groupAt_49 hlocks
theorem q_X8_freeOf : yX8_freeOf.cls ≠ "java/lang/invoke/MethodHandle" ∧ yX8_freeOf.cls ≠ "java/lang/invoke/VarHandle" ∧ (parseMethodDescriptor yX8_freeOf.desc).map (fun d => d.parameters.length) = some 2 := by decide +kernel
def fX8_freeOf (f_p0 : Nat → Int64) (p1 : Int64) : Option (Int64) := if inB 0 250 = true then ((fX8_stonesOf f_p0 0).bind fun r2 => (fX8_stonesOf f_p0 1).bind fun r3 => (fX8_liberties ((f_p0 (0 : Int32).toNatClampNeg).toInt32) p1 (r2 ||| r3)).bind fun r4 => some (r4)) else none
set_option maxHeartbeats 4000000 in
set_option maxRecDepth 100000 in
theorem c_X8_freeOf {l : Launch} {z : Nat} {D : va_G} {K : Nat → ClassId} {σ : mwm} {a_p0 : Nat} {f_p0 : Nat → Int64} {p1 : Int64} (hc_p0 : σ a_p0 = some (eJ K 250 f_p0)) {v : Int64} (h : fX8_freeOf f_p0 p1 = some v) : Met l yX8_freeOf wsX8_freeOf ({ frames := 4, cells := 0, slots := 0, locals := 92 } : Room) (PCm z D K [.ref a_p0, .long p1] σ) (qsL v) 0 0 (fun _ => False) := by
  refine mt_enter (cc := cX8_freeOf) (maxL := 3) (ret := (some .long)) (own := RX8) (lv := [(0, .ref a_p0), (1, .long p1)]) (by decide) rfl rfl (Nat.le_of_ble_eq_true rfl) rfl ?_
  intro p e s m below meth c ls hC hx hb hown hts hK hr hlocks hnm hz hM hS hl
  unfold fX8_freeOf at h
  refine lv_aload_n hx hb dX8_freeOf_0 rfl (lv_at hl 0 rfl) ?_
  refine lv_iconst (v := 0) hx hb dX8_freeOf_1 (by decide) ?_
  obtain ⟨c1, h⟩ := gd_some h
  refine mw_ldJ hC hM hc_p0 (inB_ok c1) dX8_freeOf_2 ?_
  refine lv_l2i hx hb dX8_freeOf_3 rfl ?_
  refine lv_lload_n hx hb dX8_freeOf_4 rfl (lv_at hl 1 rfl) ?_
  refine lv_aload_n hx hb dX8_freeOf_5 rfl (lv_at hl 0 rfl) ?_
  refine lv_iconst (v := 0) hx hb dX8_freeOf_6 (by decide) ?_
  obtain ⟨r2, hr2, h⟩ := ob_some h
  refine mw_cl (mw_runS (As := [.ref a_p0, .int 0]) (rest := [.long p1, .int ((f_p0 (0 : Int32).toNatClampNeg).toInt32)]) hC hM hS (c_X8_stonesOf (a_p0 := a_p0) (f_p0 := f_p0) (p1 := 0) (hc_p0 := hc_p0) (v := r2) hr2) gX8_freeOf_X8_stonesOf rfl rfl rfl q_X8_stonesOf ⟨Nat.le_of_ble_eq_true rfl, Nat.le_of_ble_eq_true rfl⟩ rfl rfl (Nat.le_of_ble_eq_true rfl) hl.1 dX8_freeOf_7 ⟨Nat.le_of_ble_eq_true rfl, Nat.le_of_ble_eq_true rfl⟩) ?_
  refine lv_aload_n hx hb dX8_freeOf_10 rfl (lv_at hl 0 rfl) ?_
  refine lv_iconst (v := 1) hx hb dX8_freeOf_11 (by decide) ?_
  obtain ⟨r3, hr3, h⟩ := ob_some h
  refine mw_cl (mw_runS (As := [.ref a_p0, .int 1]) (rest := [.long r2, .long p1, .int ((f_p0 (0 : Int32).toNatClampNeg).toInt32)]) hC hM hS (c_X8_stonesOf (a_p0 := a_p0) (f_p0 := f_p0) (p1 := 1) (hc_p0 := hc_p0) (v := r3) hr3) gX8_freeOf_X8_stonesOf rfl rfl rfl q_X8_stonesOf ⟨Nat.le_of_ble_eq_true rfl, Nat.le_of_ble_eq_true rfl⟩ rfl rfl (Nat.le_of_ble_eq_true rfl) hl.1 dX8_freeOf_12 ⟨Nat.le_of_ble_eq_true rfl, Nat.le_of_ble_eq_true rfl⟩) ?_
  refine lv_lor hx hb dX8_freeOf_15 ?_
  obtain ⟨r4, hr4, h⟩ := ob_some h
  refine mw_cl (mw_runS (As := [.int ((f_p0 (0 : Int32).toNatClampNeg).toInt32), .long p1, .long (r2 ||| r3)]) (rest := []) hC hM hS (c_X8_liberties (p0 := (f_p0 (0 : Int32).toNatClampNeg).toInt32) (p1 := p1) (p2 := (r2 ||| r3)) (v := r4) hr4) gX8_freeOf_X8_liberties rfl rfl rfl q_X8_liberties ⟨Nat.le_of_ble_eq_true rfl, Nat.le_of_ble_eq_true rfl⟩ rfl rfl (Nat.le_of_ble_eq_true rfl) hl.1 dX8_freeOf_16 ⟨Nat.le_of_ble_eq_true rfl, Nat.le_of_ble_eq_true rfl⟩) ?_
  cases h
  exact W.lret hx hb hr (fun t ht hW => ⟨_, rfl, rfl, ht⟩) (fun _ h9 => by cases h9) dX8_freeOf_19 hlocks
