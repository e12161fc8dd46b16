theorem l_J13_bitCount_95d88_0 : Cond.constantLong RJ13 314 (6148914691236517205) ∈ wsJ13_bitCount_95d88 := (List.mem_cons_of_mem _ (List.mem_of_getElem? (i := 0) rfl))
theorem l_J13_bitCount_95d88_1 : Cond.constantLong RJ13 316 (3689348814741910323) ∈ wsJ13_bitCount_95d88 := (List.mem_cons_of_mem _ (List.mem_of_getElem? (i := 1) rfl))
theorem l_J13_bitCount_95d88_2 : Cond.constantLong RJ13 318 (1085102592571150095) ∈ wsJ13_bitCount_95d88 := (List.mem_cons_of_mem _ (List.mem_of_getElem? (i := 2) rfl))
theorem q_J13_bitCount_95d88 : yJ13_bitCount_95d88.cls ≠ "java/lang/invoke/MethodHandle" ∧ yJ13_bitCount_95d88.cls ≠ "java/lang/invoke/VarHandle" ∧ (parseMethodDescriptor yJ13_bitCount_95d88.desc).map (fun d => d.parameters.length) = some 1 := by decide +kernel
def fJ13_bitCount_95d88 (p0 : Int64) : Int32 := bnd (p0 - ((ushrL p0 1) &&& 6148914691236517205)) fun v1 => bnd ((v1 &&& 3689348814741910323) + ((ushrL v1 2) &&& 3689348814741910323)) fun v2 => bnd ((v2 + (ushrL v2 4)) &&& 1085102592571150095) fun v3 => bnd ((v3 + (ushrL v3 8)) + (ushrL (v3 + (ushrL v3 8)) 16)) fun v4 => ((((v4 + (ushrL v4 32)).toInt32) &&& 127))
set_option maxHeartbeats 4000000 in
set_option maxRecDepth 100000 in
theorem c_J13_bitCount_95d88 {l : Launch} {z : Nat} {D : va_G} {K : Nat → ClassId} {σ : mwm} {p0 : Int64} {v : Int32} (h : fJ13_bitCount_95d88 p0 = v) : Met l yJ13_bitCount_95d88 wsJ13_bitCount_95d88 ({ frames := 0, cells := 0, slots := 0, locals := 0 } : Room) (PCm z D K [.long p0] σ) (qsI v) 0 0 (fun _ => False) := by
  refine mt_enter (cc := cJ13_bitCount_95d88) (maxL := 2) (ret := (some .int)) (own := RJ13) (lv := [(0, .long p0)]) (by decide) rfl rfl (Nat.le_of_ble_eq_true rfl) rfl ?_
  intro p e s m below meth c ls hC hx hb hown hts hK hr hlocks hnm hz hM hS hl
  unfold fJ13_bitCount_95d88 at h
  refine lv_lload_n hx hb dJ13_bitCount_95d88_0 rfl (lv_at hl 0 rfl) ?_
  refine lv_lload_n hx hb dJ13_bitCount_95d88_1 rfl (lv_at hl 0 rfl) ?_
  refine lv_iconst (v := 1) hx hb dJ13_bitCount_95d88_2 (by decide) ?_
  refine lv_lushr (v := (ushrL p0 1)) hx hb dJ13_bitCount_95d88_3 rfl ?_
  refine lv_ldc2 (v := 6148914691236517205) hx hb hown (hts _ l_J13_bitCount_95d88_0) dJ13_bitCount_95d88_4 ?_
  refine lv_land hx hb dJ13_bitCount_95d88_7 ?_
  refine lv_lsub hx hb dJ13_bitCount_95d88_8 ?_
  refine lv_topl (fun v1 ev1 => ?_)
  replace h := bnd_at ev1 h
  refine lv_lstore_n (lv' := [(0, .long v1)]) hx hb dJ13_bitCount_95d88_9 rfl hl (by decide) rfl (fun ls hl => ?_)
  refine lv_lload_n hx hb dJ13_bitCount_95d88_10 rfl (lv_at hl 0 rfl) ?_
  refine lv_ldc2 (v := 3689348814741910323) hx hb hown (hts _ l_J13_bitCount_95d88_1) dJ13_bitCount_95d88_11 ?_
  refine lv_land hx hb dJ13_bitCount_95d88_14 ?_
  refine lv_lload_n hx hb dJ13_bitCount_95d88_15 rfl (lv_at hl 0 rfl) ?_
  refine lv_iconst (v := 2) hx hb dJ13_bitCount_95d88_16 (by decide) ?_
  refine lv_lushr (v := (ushrL v1 2)) hx hb dJ13_bitCount_95d88_17 rfl ?_
  refine lv_ldc2 (v := 3689348814741910323) hx hb hown (hts _ l_J13_bitCount_95d88_1) dJ13_bitCount_95d88_18 ?_
  refine lv_land hx hb dJ13_bitCount_95d88_21 ?_
  refine lv_ladd hx hb dJ13_bitCount_95d88_22 ?_
  refine lv_topl (fun v2 ev2 => ?_)
  replace h := bnd_at ev2 h
  refine lv_lstore_n (lv' := [(0, .long v2)]) hx hb dJ13_bitCount_95d88_23 rfl hl (by decide) rfl (fun ls hl => ?_)
  refine lv_lload_n hx hb dJ13_bitCount_95d88_24 rfl (lv_at hl 0 rfl) ?_
  refine lv_lload_n hx hb dJ13_bitCount_95d88_25 rfl (lv_at hl 0 rfl) ?_
  refine lv_iconst (v := 4) hx hb dJ13_bitCount_95d88_26 (by decide) ?_
  refine lv_lushr (v := (ushrL v2 4)) hx hb dJ13_bitCount_95d88_27 rfl ?_
  refine lv_ladd hx hb dJ13_bitCount_95d88_28 ?_
  refine lv_ldc2 (v := 1085102592571150095) hx hb hown (hts _ l_J13_bitCount_95d88_2) dJ13_bitCount_95d88_29 ?_
  refine lv_land hx hb dJ13_bitCount_95d88_32 ?_
  refine lv_topl (fun v3 ev3 => ?_)
  replace h := bnd_at ev3 h
  refine lv_lstore_n (lv' := [(0, .long v3)]) hx hb dJ13_bitCount_95d88_33 rfl hl (by decide) rfl (fun ls hl => ?_)
  refine lv_lload_n hx hb dJ13_bitCount_95d88_34 rfl (lv_at hl 0 rfl) ?_
  refine lv_lload_n hx hb dJ13_bitCount_95d88_35 rfl (lv_at hl 0 rfl) ?_
  refine lv_bipush (v := 8) hx hb dJ13_bitCount_95d88_36 (by decide) ?_
  refine lv_lushr (v := (ushrL v3 8)) hx hb dJ13_bitCount_95d88_38 rfl ?_
  refine lv_ladd hx hb dJ13_bitCount_95d88_39 ?_
  refine lv_lstore_n (lv' := [(0, .long (v3 + (ushrL v3 8)))]) hx hb dJ13_bitCount_95d88_40 rfl hl (by decide) rfl (fun ls hl => ?_)
  refine lv_lload_n hx hb dJ13_bitCount_95d88_41 rfl (lv_at hl 0 rfl) ?_
  refine lv_lload_n hx hb dJ13_bitCount_95d88_42 rfl (lv_at hl 0 rfl) ?_
  refine lv_bipush (v := 16) hx hb dJ13_bitCount_95d88_43 (by decide) ?_
  refine lv_lushr (v := (ushrL (v3 + (ushrL v3 8)) 16)) hx hb dJ13_bitCount_95d88_45 rfl ?_
  refine lv_ladd hx hb dJ13_bitCount_95d88_46 ?_
  refine lv_topl (fun v4 ev4 => ?_)
  replace h := bnd_at ev4 h
  refine lv_lstore_n (lv' := [(0, .long v4)]) hx hb dJ13_bitCount_95d88_47 rfl hl (by decide) rfl (fun ls hl => ?_)
  refine lv_lload_n hx hb dJ13_bitCount_95d88_48 rfl (lv_at hl 0 rfl) ?_
  refine lv_lload_n hx hb dJ13_bitCount_95d88_49 rfl (lv_at hl 0 rfl) ?_
  refine lv_bipush (v := 32) hx hb dJ13_bitCount_95d88_50 (by decide) ?_
  refine lv_lushr (v := (ushrL v4 32)) hx hb dJ13_bitCount_95d88_52 rfl ?_
  refine lv_ladd hx hb dJ13_bitCount_95d88_53 ?_
  refine lv_lstore_n (lv' := [(0, .long (v4 + (ushrL v4 32)))]) hx hb dJ13_bitCount_95d88_54 rfl hl (by decide) rfl (fun ls hl => ?_)
  refine lv_lload_n hx hb dJ13_bitCount_95d88_55 rfl (lv_at hl 0 rfl) ?_
  refine lv_l2i hx hb dJ13_bitCount_95d88_56 rfl ?_
  refine lv_bipush (v := 127) hx hb dJ13_bitCount_95d88_57 (by decide) ?_
  refine lv_iand hx hb dJ13_bitCount_95d88_59 ?_
  subst h
  exact W.iret hx hb hr (fun t ht hW => ⟨_, rfl, rfl, ht⟩) (fun _ h9 => by cases h9) dJ13_bitCount_95d88_60 hlocks
theorem q_X8_in : yX8_in.cls ≠ "java/lang/invoke/MethodHandle" ∧ yX8_in.cls ≠ "java/lang/invoke/VarHandle" ∧ (parseMethodDescriptor yX8_in.desc).map (fun d => d.parameters.length) = some 3 := by decide +kernel
def fX8_in (p0 : Int64) (p1 : Int64) (p2 : Int64) : Bool := if p0 < p1 then ((false)) else (if p2 < p0 then ((false)) else ((true)))
set_option maxHeartbeats 4000000 in
set_option maxRecDepth 100000 in
theorem c_X8_in {l : Launch} {z : Nat} {D : va_G} {K : Nat → ClassId} {σ : mwm} {p0 : Int64} {p1 : Int64} {p2 : Int64} {v : Bool} (h : fX8_in p0 p1 p2 = v) : Met l yX8_in wsX8_in ({ frames := 0, cells := 0, slots := 0, locals := 0 } : Room) (PCm z D K [.long p0, .long p1, .long p2] σ) (qsI (b2i v)) 0 0 (fun _ => False) := by
  refine mt_enter (cc := cX8_in) (maxL := 6) (ret := (some .boolean)) (own := RX8) (lv := [(0, .long p0), (2, .long p1), (4, .long p2)]) (by decide) rfl rfl (Nat.le_of_ble_eq_true rfl) rfl ?_
  intro p e s m below meth c ls hC hx hb hown hts hK hr hlocks hnm hz hM hS hl
  unfold fX8_in at h
  refine lv_lload_n hx hb dX8_in_0 rfl (lv_at hl 0 rfl) ?_
  refine lv_lload_n hx hb dX8_in_1 rfl (lv_at hl 1 rfl) ?_
  refine W.lcmp hx hb dX8_in_2 ?_
  refine lv_if_lt (tgt := 17) hx hb dX8_in_3 (by decide) (fun c1 => ?_) (fun c1 => ?_)
  · replace c1 := (lg_cmp_lt _ _).mp c1
    replace h := it_pos c1 h
    refine lv_iconst (v := 0) hx hb dX8_in_17 (by decide) ?_
    subst h
    exact W.zret (ty := .boolean) (v := b2i false) hx hb hr (b2i_nar _) (fun t ht hW => ⟨_, rfl, rfl, ht⟩) (fun _ h9 => by cases h9) dX8_in_18 hlocks
  · replace c1 := mt (lg_cmp_lt _ _).mpr c1
    replace h := it_neg c1 h
    refine lv_lload_n hx hb dX8_in_6 rfl (lv_at hl 0 rfl) ?_
    refine lv_lload hx hb dX8_in_7 (lv_at hl 2 rfl) ?_
    refine W.lcmp hx hb dX8_in_9 ?_
    refine lv_if_gt (tgt := 17) hx hb dX8_in_10 (by decide) (fun c2 => ?_) (fun c2 => ?_)
    · replace c2 := (lg_cmp_gt _ _).mp c2
      replace h := it_pos c2 h
      refine lv_iconst (v := 0) hx hb dX8_in_17 (by decide) ?_
      subst h
      exact W.zret (ty := .boolean) (v := b2i false) hx hb hr (b2i_nar _) (fun t ht hW => ⟨_, rfl, rfl, ht⟩) (fun _ h9 => by cases h9) dX8_in_18 hlocks
    · replace c2 := mt (lg_cmp_gt _ _).mpr c2
      replace h := it_neg c2 h
      refine lv_iconst (v := 1) hx hb dX8_in_13 (by decide) ?_
      refine lv_goto (tgt := 18) hx hb dX8_in_14 (by decide) ?_
      subst h
      exact W.zret (ty := .boolean) (v := b2i true) hx hb hr (b2i_nar _) (fun t ht hW => ⟨_, rfl, rfl, ht⟩) (fun _ h9 => by cases h9) dX8_in_18 hlocks
theorem q_X8_has : yX8_has.cls ≠ "java/lang/invoke/MethodHandle" ∧ yX8_has.cls ≠ "java/lang/invoke/VarHandle" ∧ (parseMethodDescriptor yX8_has.desc).map (fun d => d.parameters.length) = some 2 := by decide +kernel
def fX8_has (p0 : Int64) (p1 : Int32) : Bool := if ((ushrL p0 p1) &&& 1) = 1 then ((true)) else ((false))
set_option maxHeartbeats 4000000 in
set_option maxRecDepth 100000 in
theorem c_X8_has {l : Launch} {z : Nat} {D : va_G} {K : Nat → ClassId} {σ : mwm} {p0 : Int64} {p1 : Int32} {v : Bool} (h : fX8_has p0 p1 = v) : Met l yX8_has wsX8_has ({ frames := 0, cells := 0, slots := 0, locals := 0 } : Room) (PCm z D K [.long p0, .int p1] σ) (qsI (b2i v)) 0 0 (fun _ => False) := by
  refine mt_enter (cc := cX8_has) (maxL := 3) (ret := (some .boolean)) (own := RX8) (lv := [(0, .long p0), (2, .int p1)]) (by decide) rfl rfl (Nat.le_of_ble_eq_true rfl) rfl ?_
  intro p e s m below meth c ls hC hx hb hown hts hK hr hlocks hnm hz hM hS hl
  unfold fX8_has at h
  refine lv_lload_n hx hb dX8_has_0 rfl (lv_at hl 0 rfl) ?_
  refine lv_iload_n hx hb dX8_has_1 rfl (lv_at hl 1 rfl) ?_
  refine lv_lushr (v := (ushrL p0 p1)) hx hb dX8_has_2 rfl ?_
  refine lv_lconst (v := 1) hx hb dX8_has_3 (by decide) ?_
  refine lv_land hx hb dX8_has_4 ?_
  refine lv_lconst (v := 1) hx hb dX8_has_5 (by decide) ?_
  refine W.lcmp hx hb dX8_has_6 ?_
  refine lv_if_ne (tgt := 14) hx hb dX8_has_7 (by decide) (fun c1 => ?_) (fun c1 => ?_)
  · replace c1 := mt (lg_cmp_eq _ _).mpr c1
    replace h := it_neg c1 h
    refine lv_iconst (v := 0) hx hb dX8_has_14 (by decide) ?_
    subst h
    exact W.zret (ty := .boolean) (v := b2i false) hx hb hr (b2i_nar _) (fun t ht hW => ⟨_, rfl, rfl, ht⟩) (fun _ h9 => by cases h9) dX8_has_15 hlocks
  · replace c1 := (lg_cmp_eq _ _).mp c1
    replace h := it_pos c1 h
    refine lv_iconst (v := 1) hx hb dX8_has_10 (by decide) ?_
    refine lv_goto (tgt := 15) hx hb dX8_has_11 (by decide) ?_
    subst h
    exact W.zret (ty := .boolean) (v := b2i true) hx hb hr (b2i_nar _) (fun t ht hW => ⟨_, rfl, rfl, ht⟩) (fun _ h9 => by cases h9) dX8_has_15 hlocks
theorem q_X8_bits : yX8_bits.cls ≠ "java/lang/invoke/MethodHandle" ∧ yX8_bits.cls ≠ "java/lang/invoke/VarHandle" ∧ (parseMethodDescriptor yX8_bits.desc).map (fun d => d.parameters.length) = some 1 := by decide +kernel
def fX8_bits_4 (p0 : Int64) : Nat → Int32 → Int32 → Option (Int32)
  | 0, _, _ => none
  | fu + 1, x2, x3 => if 49 ≤ x3 then (some (x2)) else (if (fX8_has p0 x3) = true then (fX8_bits_4 p0 fu (x2 + 1) (x3 + 1)) else (fX8_bits_4 p0 fu (x2 + 0) (x3 + 1)))
def fX8_bits (p0 : Int64) : Option (Int32) := fX8_bits_4 p0 5000 0 0 
set_option maxHeartbeats 4000000 in
set_option maxRecDepth 100000 in
theorem c_X8_bits {l : Launch} {z : Nat} {D : va_G} {K : Nat → ClassId} {σ : mwm} {p0 : Int64} {v : Int32} (h : fX8_bits p0 = some v) : Met l yX8_bits wsX8_bits ({ frames := 1, cells := 0, slots := 0, locals := 22 } : Room) (PCm z D K [.long p0] σ) (qsI v) 0 0 (fun _ => False) := by
  refine mt_enter (cc := cX8_bits) (maxL := 4) (ret := (some .int)) (own := RX8) (lv := [(0, .long p0)]) (by decide) rfl rfl (Nat.le_of_ble_eq_true rfl) rfl ?_
  intro p e s m below meth c ls hC hx hb hown hts hK hr hlocks hnm hz hM hS hl
  unfold fX8_bits at h
  refine lv_iconst (v := 0) hx hb dX8_bits_0 (by decide) ?_
  refine lv_istore_n (lv' := [(2, .int 0), (0, .long p0)]) hx hb dX8_bits_1 rfl hl (by decide) rfl (fun ls hl => ?_)
  refine lv_iconst (v := 0) hx hb dX8_bits_2 (by decide) ?_
  refine lv_istore_n (lv' := [(3, .int 0), (2, .int 0), (0, .long p0)]) hx hb dX8_bits_3 rfl hl (by decide) rfl (fun ls hl => ?_)
  have L4 : ∀ (fu0 : Nat) (x2 : Int32) (x3 : Int32), fX8_bits_4 p0 fu0 x2 x3 = some v → ∀ ls : Array Slot, lv_has ls 4 [(3, .int x3), (2, .int x2), (0, .long p0)] → W p l e ({ frames := 1, cells := 0, slots := 0, locals := 22 } : Room) s m ([.long p0] : List Value).toArray below meth c s.heap [] 0 0 (MQ below (qsI v) ([.long p0] : List Value).toArray s 0 0 (fun _ => False)) (F0 m 4 ls []) := by
    intro fu0
    induction fu0 with
    | zero =>
      intro x2 x3 h
      unfold fX8_bits_4 at h
      cases h
    | succ fu0 ih0 =>
      intro x2 x3 h ls hl
      unfold fX8_bits_4 at h
      refine lv_iload_n hx hb dX8_bits_4 rfl (lv_at hl 0 rfl) ?_
      refine lv_bipush (v := 49) hx hb dX8_bits_5 (by decide) ?_
      refine lv_icmp_ge (tgt := 32) hx hb dX8_bits_7 (by decide) (fun c1 => ?_) (fun c1 => ?_)
      · replace h := it_pos c1 h
        refine lv_iload_n hx hb dX8_bits_32 rfl (lv_at hl 1 rfl) ?_
        cases h
        exact W.iret hx hb hr (fun t ht hW => ⟨_, rfl, rfl, ht⟩) (fun _ h9 => by cases h9) dX8_bits_33 hlocks
      · replace h := it_neg c1 h
        refine lv_iload_n hx hb dX8_bits_10 rfl (lv_at hl 1 rfl) ?_
        refine lv_lload_n hx hb dX8_bits_11 rfl (lv_at hl 2 rfl) ?_
        refine lv_iload_n hx hb dX8_bits_12 rfl (lv_at hl 0 rfl) ?_
        refine mw_ci (mw_runS (As := [.long p0, .int x3]) (rest := [.int x2]) hC hM hS (c_X8_has (p0 := p0) (p1 := x3) (v := (fX8_has p0 x3)) rfl) gX8_bits_X8_has rfl rfl rfl q_X8_has ⟨Nat.le_of_ble_eq_true rfl, Nat.le_of_ble_eq_true rfl⟩ rfl rfl (Nat.le_of_ble_eq_true rfl) hl.1 dX8_bits_13 ⟨Nat.le_of_ble_eq_true rfl, Nat.le_of_ble_eq_true rfl⟩) ?_
        refine lv_if_eq (tgt := 23) hx hb dX8_bits_16 (by decide) (fun c2 => ?_) (fun c2 => ?_)
        · replace c2 := b2i_eq0.mp c2
          replace h := it_neg c2 h
          refine lv_iconst (v := 0) hx hb dX8_bits_23 (by decide) ?_
          refine lv_iadd hx hb dX8_bits_24 ?_
          refine lv_istore_n (lv' := [(2, .int (x2 + 0)), (3, .int x3), (0, .long p0)]) hx hb dX8_bits_25 rfl hl (by decide) rfl (fun ls hl => ?_)
          refine lv_iinc (v := (x3 + 1)) (lv' := [(3, .int (x3 + 1)), (2, .int (x2 + 0)), (0, .long p0)]) hx hb dX8_bits_26 hl (k := 1) rfl rfl (by decide) rfl (fun ls hl => ?_)
          refine lv_goto (tgt := 4) hx hb dX8_bits_29 (by decide) ?_
          exact ih0 (x2 + 0) (x3 + 1) h ls (lv_sub hl [0, 1, 2] rfl)
        · replace c2 := b2i_ne0.mp c2
          replace h := it_pos c2 h
          refine lv_iconst (v := 1) hx hb dX8_bits_19 (by decide) ?_
          refine lv_goto (tgt := 24) hx hb dX8_bits_20 (by decide) ?_
          refine lv_iadd hx hb dX8_bits_24 ?_
          refine lv_istore_n (lv' := [(2, .int (x2 + 1)), (3, .int x3), (0, .long p0)]) hx hb dX8_bits_25 rfl hl (by decide) rfl (fun ls hl => ?_)
          refine lv_iinc (v := (x3 + 1)) (lv' := [(3, .int (x3 + 1)), (2, .int (x2 + 1)), (0, .long p0)]) hx hb dX8_bits_26 hl (k := 1) rfl rfl (by decide) rfl (fun ls hl => ?_)
          refine lv_goto (tgt := 4) hx hb dX8_bits_29 (by decide) ?_
          exact ih0 (x2 + 1) (x3 + 1) h ls (lv_sub hl [0, 1, 2] rfl)
  exact L4 5000 0 0  h ls (lv_sub hl [0, 1, 2] rfl)
theorem q_X8_lowest : yX8_lowest.cls ≠ "java/lang/invoke/MethodHandle" ∧ yX8_lowest.cls ≠ "java/lang/invoke/VarHandle" ∧ (parseMethodDescriptor yX8_lowest.desc).map (fun d => d.parameters.length) = some 1 := by decide +kernel
def fX8_lowest_2 (p0 : Int64) : Nat → Int32 → Option (Int32)
  | 0, _ => none
  | fu + 1, x2 => if (fX8_has p0 x2) = true then (some (x2)) else (fX8_lowest_2 p0 fu (x2 + 1))
def fX8_lowest (p0 : Int64) : Option (Int32) := fX8_lowest_2 p0 5000 0 
set_option maxHeartbeats 4000000 in
set_option maxRecDepth 100000 in
theorem c_X8_lowest {l : Launch} {z : Nat} {D : va_G} {K : Nat → ClassId} {σ : mwm} {p0 : Int64} {v : Int32} (h : fX8_lowest p0 = some v) : Met l yX8_lowest wsX8_lowest ({ frames := 1, cells := 0, slots := 0, locals := 22 } : Room) (PCm z D K [.long p0] σ) (qsI v) 0 0 (fun _ => False) := by
  refine mt_enter (cc := cX8_lowest) (maxL := 3) (ret := (some .int)) (own := RX8) (lv := [(0, .long p0)]) (by decide) rfl rfl (Nat.le_of_ble_eq_true rfl) rfl ?_
  intro p e s m below meth c ls hC hx hb hown hts hK hr hlocks hnm hz hM hS hl
  unfold fX8_lowest at h
  refine lv_iconst (v := 0) hx hb dX8_lowest_0 (by decide) ?_
  refine lv_istore_n (lv' := [(2, .int 0), (0, .long p0)]) hx hb dX8_lowest_1 rfl hl (by decide) rfl (fun ls hl => ?_)
  have L2 : ∀ (fu0 : Nat) (x2 : Int32), fX8_lowest_2 p0 fu0 x2 = some v → ∀ ls : Array Slot, lv_has ls 3 [(2, .int x2), (0, .long p0)] → W p l e ({ frames := 1, cells := 0, slots := 0, locals := 22 } : Room) s m ([.long p0] : List Value).toArray below meth c s.heap [] 0 0 (MQ below (qsI v) ([.long p0] : List Value).toArray s 0 0 (fun _ => False)) (F0 m 2 ls []) := by
    intro fu0
    induction fu0 with
    | zero =>
      intro x2 h
      unfold fX8_lowest_2 at h
      cases h
    | succ fu0 ih0 =>
      intro x2 h ls hl
      unfold fX8_lowest_2 at h
      refine lv_lload_n hx hb dX8_lowest_2 rfl (lv_at hl 1 rfl) ?_
      refine lv_iload_n hx hb dX8_lowest_3 rfl (lv_at hl 0 rfl) ?_
      refine mw_ci (mw_runS (As := [.long p0, .int x2]) (rest := []) hC hM hS (c_X8_has (p0 := p0) (p1 := x2) (v := (fX8_has p0 x2)) rfl) gX8_lowest_X8_has rfl rfl rfl q_X8_has ⟨Nat.le_of_ble_eq_true rfl, Nat.le_of_ble_eq_true rfl⟩ rfl rfl (Nat.le_of_ble_eq_true rfl) hl.1 dX8_lowest_4 ⟨Nat.le_of_ble_eq_true rfl, Nat.le_of_ble_eq_true rfl⟩) ?_
      refine lv_if_ne (tgt := 16) hx hb dX8_lowest_7 (by decide) (fun c1 => ?_) (fun c1 => ?_)
      · replace c1 := b2i_ne0.mp c1
        replace h := it_pos c1 h
        refine lv_iload_n hx hb dX8_lowest_16 rfl (lv_at hl 0 rfl) ?_
        cases h
        exact W.iret hx hb hr (fun t ht hW => ⟨_, rfl, rfl, ht⟩) (fun _ h9 => by cases h9) dX8_lowest_17 hlocks
      · replace c1 := b2i_eq0.mp c1
        replace h := it_neg c1 h
        refine lv_iinc (v := (x2 + 1)) (lv' := [(2, .int (x2 + 1)), (0, .long p0)]) hx hb dX8_lowest_10 hl (k := 0) rfl rfl (by decide) rfl (fun ls hl => ?_)
        refine lv_goto (tgt := 2) hx hb dX8_lowest_13 (by decide) ?_
        exact ih0 (x2 + 1) h ls (lv_sub hl [0, 1] rfl)
  exact L2 5000 0  h ls (lv_sub hl [0, 1] rfl)
theorem q_X8_column : yX8_column.cls ≠ "java/lang/invoke/MethodHandle" ∧ yX8_column.cls ≠ "java/lang/invoke/VarHandle" ∧ (parseMethodDescriptor yX8_column.desc).map (fun d => d.parameters.length) = some 2 := by decide +kernel
def fX8_column_5 (p0 : Int32) (p1 : Int32) : Nat → Int64 → Int32 → Option (Int64)
  | 0, _, _ => none
  | fu + 1, x2, x4 => if p0 ≤ x4 then (some (x2)) else (bnd (x2 ||| (shlL 1 ((x4 * p0) + p1))) fun v2 => fX8_column_5 p0 p1 fu v2 (x4 + 1))
def fX8_column (p0 : Int32) (p1 : Int32) : Option (Int64) := fX8_column_5 p0 p1 5000 0 0 
set_option maxHeartbeats 4000000 in
set_option maxRecDepth 100000 in
theorem c_X8_column {l : Launch} {z : Nat} {D : va_G} {K : Nat → ClassId} {σ : mwm} {p0 : Int32} {p1 : Int32} {v : Int64} (h : fX8_column p0 p1 = some v) : Met l yX8_column wsX8_column ({ frames := 0, cells := 0, slots := 0, locals := 0 } : Room) (PCm z D K [.int p0, .int p1] σ) (qsL v) 0 0 (fun _ => False) := by
  refine mt_enter (cc := cX8_column) (maxL := 5) (ret := (some .long)) (own := RX8) (lv := [(0, .int p0), (1, .int p1)]) (by decide) rfl rfl (Nat.le_of_ble_eq_true rfl) rfl ?_
  intro p e s m below meth c ls hC hx hb hown hts hK hr hlocks hnm hz hM hS hl
  unfold fX8_column at h
  refine lv_lconst (v := 0) hx hb dX8_column_0 (by decide) ?_
  refine lv_lstore_n (lv' := [(2, .long 0), (0, .int p0), (1, .int p1)]) hx hb dX8_column_1 rfl hl (by decide) rfl (fun ls hl => ?_)
  refine lv_iconst (v := 0) hx hb dX8_column_2 (by decide) ?_
  refine lv_istore (lv' := [(4, .int 0), (2, .long 0), (0, .int p0), (1, .int p1)]) hx hb dX8_column_3 hl (by decide) rfl (fun ls hl => ?_)
  have L5 : ∀ (fu0 : Nat) (x2 : Int64) (x4 : Int32), fX8_column_5 p0 p1 fu0 x2 x4 = some v → ∀ ls : Array Slot, lv_has ls 5 [(4, .int x4), (2, .long x2), (0, .int p0), (1, .int p1)] → W p l e ({ frames := 0, cells := 0, slots := 0, locals := 0 } : Room) s m ([.int p0, .int p1] : List Value).toArray below meth c s.heap [] 0 0 (MQ below (qsL v) ([.int p0, .int p1] : List Value).toArray s 0 0 (fun _ => False)) (F0 m 5 ls []) := by
    intro fu0
    induction fu0 with
    | zero =>
      intro x2 x4 h
      unfold fX8_column_5 at h
      cases h
    | succ fu0 ih0 =>
      intro x2 x4 h ls hl
      unfold fX8_column_5 at h
      refine lv_iload hx hb dX8_column_5 (lv_at hl 0 rfl) ?_
      refine lv_iload_n hx hb dX8_column_7 rfl (lv_at hl 2 rfl) ?_
      refine lv_icmp_ge (tgt := 28) hx hb dX8_column_8 (by decide) (fun c1 => ?_) (fun c1 => ?_)
      · replace h := it_pos c1 h
        refine lv_lload_n hx hb dX8_column_28 rfl (lv_at hl 1 rfl) ?_
        cases h
        exact W.lret hx hb hr (fun t ht hW => ⟨_, rfl, rfl, ht⟩) (fun _ h9 => by cases h9) dX8_column_29 hlocks
      · replace h := it_neg c1 h
        refine lv_lload_n hx hb dX8_column_11 rfl (lv_at hl 1 rfl) ?_
        refine lv_lconst (v := 1) hx hb dX8_column_12 (by decide) ?_
        refine lv_iload hx hb dX8_column_13 (lv_at hl 0 rfl) ?_
        refine lv_iload_n hx hb dX8_column_15 rfl (lv_at hl 2 rfl) ?_
        refine lv_imul hx hb dX8_column_16 ?_
        refine lv_iload_n hx hb dX8_column_17 rfl (lv_at hl 3 rfl) ?_
        refine lv_iadd hx hb dX8_column_18 ?_
        refine lv_lshl (v := (shlL 1 ((x4 * p0) + p1))) hx hb dX8_column_19 rfl ?_
        refine lv_lor hx hb dX8_column_20 ?_
        refine lv_topl (fun v2 ev2 => ?_)
        replace h := bnd_at ev2 h
        refine lv_lstore_n (lv' := [(2, .long v2), (4, .int x4), (0, .int p0), (1, .int p1)]) hx hb dX8_column_21 rfl hl (by decide) rfl (fun ls hl => ?_)
        refine lv_iinc (v := (x4 + 1)) (lv' := [(4, .int (x4 + 1)), (2, .long v2), (0, .int p0), (1, .int p1)]) hx hb dX8_column_22 hl (k := 1) rfl rfl (by decide) rfl (fun ls hl => ?_)
        refine lv_goto (tgt := 5) hx hb dX8_column_25 (by decide) ?_
        exact ih0 v2 (x4 + 1) h ls (lv_sub hl [0, 1, 2, 3] rfl)
  exact L5 5000 0 0  h ls (lv_sub hl [0, 1, 2, 3] rfl)
theorem l_X2_has_0 : Cond.fieldLink RX2 15 "CornerStones$Grid" "points" "I" ∈ wsX2_has := (List.mem_cons_of_mem _ (List.mem_append_left _ (List.mem_of_getElem? (i := 0) rfl)))
theorem i_X2_has_X2 : ∀ w ∈ wsX20, w ∈ wsX2_has := fun _ h => (List.mem_cons_of_mem _ (List.mem_append_right _ h))
theorem q_X2_has : yX2_has.cls ≠ "java/lang/invoke/MethodHandle" ∧ yX2_has.cls ≠ "java/lang/invoke/VarHandle" ∧ (parseMethodDescriptor yX2_has.desc).map (fun d => d.parameters.length) = some 1 := by decide +kernel
def fX2_has (w_t : Int32 × Int32 × Int64 × Int64 × Int64) (p0 : Int32) : Bool := if p0 < 0 then ((false)) else (if w_t.2.1 ≤ p0 then ((false)) else ((true)))
set_option maxHeartbeats 4000000 in
set_option maxRecDepth 100000 in
theorem c_X2_has {l : Launch} {z : Nat} {D : va_G} {K : Nat → ClassId} {σ : mwm} {a_t : Nat} {w_t : Int32 × Int32 × Int64 × Int64 × Int64} {p0 : Int32} (hc_t : σ a_t = some (cl2  w_t)) {v : Bool} (h : fX2_has w_t p0 = v) : Met l yX2_has wsX2_has ({ frames := 0, cells := 0, slots := 0, locals := 0 } : Room) (PCm z D K [.ref a_t, .int p0] σ) (qsI (b2i v)) 0 0 (fun _ => False) := by
  refine mt_enter (cc := cX2_has) (maxL := 2) (ret := (some .boolean)) (own := RX2) (lv := [(0, .ref a_t), (1, .int p0)]) (by decide) rfl rfl (Nat.le_of_ble_eq_true rfl) rfl ?_
  intro p e s m below meth c ls hC hx hb hown hts hK hr hlocks hnm hz hM hS hl
  unfold fX2_has at h
  refine lv_iload_n hx hb dX2_has_0 rfl (lv_at hl 1 rfl) ?_
  refine lv_if_lt (tgt := 16) hx hb dX2_has_1 (by decide) (fun c1 => ?_) (fun c1 => ?_)
  · replace h := it_pos c1 h
    refine lv_iconst (v := 0) hx hb dX2_has_16 (by decide) ?_
    subst h
    exact W.zret (ty := .boolean) (v := b2i false) hx hb hr (b2i_nar _) (fun t ht hW => ⟨_, rfl, rfl, ht⟩) (fun _ h9 => by cases h9) dX2_has_17 hlocks
  · replace h := it_neg c1 h
    refine lv_iload_n hx hb dX2_has_4 rfl (lv_at hl 1 rfl) ?_
    refine lv_aload_n hx hb dX2_has_5 rfl (lv_at hl 0 rfl) ?_
    refine mw_get (ci := 2) (C := RX2) (T := TX2) (N := 5) (v := .int w_t.2.1) hC i_X2_has_X2 hM hc_t rfl 1 (by decide) l_X2_has_0 rfl rfl dX2_has_6 ?_
    refine lv_icmp_ge (tgt := 16) hx hb dX2_has_9 (by decide) (fun c2 => ?_) (fun c2 => ?_)
    · replace h := it_pos c2 h
      refine lv_iconst (v := 0) hx hb dX2_has_16 (by decide) ?_
      subst h
      exact W.zret (ty := .boolean) (v := b2i false) hx hb hr (b2i_nar _) (fun t ht hW => ⟨_, rfl, rfl, ht⟩) (fun _ h9 => by cases h9) dX2_has_17 hlocks
    · replace h := it_neg c2 h
      refine lv_iconst (v := 1) hx hb dX2_has_12 (by decide) ?_
      refine lv_goto (tgt := 17) hx hb dX2_has_13 (by decide) ?_
      subst h
      exact W.zret (ty := .boolean) (v := b2i true) hx hb hr (b2i_nar _) (fun t ht hW => ⟨_, rfl, rfl, ht⟩) (fun _ h9 => by cases h9) dX2_has_17 hlocks
theorem l_X2_around_0 : Cond.fieldLink RX2 24 "CornerStones$Grid" "notFirst" "J" ∈ wsX2_around := (List.mem_cons_of_mem _ (List.mem_append_left _ (List.mem_of_getElem? (i := 0) rfl)))
theorem i_X2_around_X2 : ∀ w ∈ wsX20, w ∈ wsX2_around := fun _ h => (List.mem_cons_of_mem _ (List.mem_append_right _ h))
theorem l_X2_around_2 : Cond.fieldLink RX2 27 "CornerStones$Grid" "notLast" "J" ∈ wsX2_around := (List.mem_cons_of_mem _ (List.mem_append_left _ (List.mem_of_getElem? (i := 1) rfl)))
theorem l_X2_around_3 : Cond.fieldLink RX2 9 "CornerStones$Grid" "rows" "I" ∈ wsX2_around := (List.mem_cons_of_mem _ (List.mem_append_left _ (List.mem_of_getElem? (i := 2) rfl)))
theorem l_X2_around_4 : Cond.fieldLink RX2 18 "CornerStones$Grid" "all" "J" ∈ wsX2_around := (List.mem_cons_of_mem _ (List.mem_append_left _ (List.mem_of_getElem? (i := 3) rfl)))
theorem q_X2_around : yX2_around.cls ≠ "java/lang/invoke/MethodHandle" ∧ yX2_around.cls ≠ "java/lang/invoke/VarHandle" ∧ (parseMethodDescriptor yX2_around.desc).map (fun d => d.parameters.length) = some 1 := by decide +kernel
def fX2_around (w_t : Int32 × Int32 × Int64 × Int64 × Int64) (p0 : Int64) : Int64 := (((((shlL p0 1) &&& w_t.2.2.2.1) ||| ((ushrL p0 1) &&& w_t.2.2.2.2)) ||| (((shlL p0 w_t.1) ||| (ushrL p0 w_t.1)) &&& w_t.2.2.1)))
set_option maxHeartbeats 4000000 in
set_option maxRecDepth 100000 in
theorem c_X2_around {l : Launch} {z : Nat} {D : va_G} {K : Nat → ClassId} {σ : mwm} {a_t : Nat} {w_t : Int32 × Int32 × Int64 × Int64 × Int64} {p0 : Int64} (hc_t : σ a_t = some (cl2  w_t)) {v : Int64} (h : fX2_around w_t p0 = v) : Met l yX2_around wsX2_around ({ frames := 0, cells := 0, slots := 0, locals := 0 } : Room) (PCm z D K [.ref a_t, .long p0] σ) (qsL v) 0 0 (fun _ => False) := by
  refine mt_enter (cc := cX2_around) (maxL := 3) (ret := (some .long)) (own := RX2) (lv := [(0, .ref a_t), (1, .long p0)]) (by decide) rfl rfl (Nat.le_of_ble_eq_true rfl) rfl ?_
  intro p e s m below meth c ls hC hx hb hown hts hK hr hlocks hnm hz hM hS hl
  unfold fX2_around at h
  refine lv_lload_n hx hb dX2_around_0 rfl (lv_at hl 1 rfl) ?_
  refine lv_iconst (v := 1) hx hb dX2_around_1 (by decide) ?_
  refine lv_lshl (v := (shlL p0 1)) hx hb dX2_around_2 rfl ?_
  refine lv_aload_n hx hb dX2_around_3 rfl (lv_at hl 0 rfl) ?_
  refine mw_get (ci := 2) (C := RX2) (T := TX2) (N := 5) (v := .long w_t.2.2.2.1) hC i_X2_around_X2 hM hc_t rfl 3 (by decide) l_X2_around_0 rfl rfl dX2_around_4 ?_
  refine lv_land hx hb dX2_around_7 ?_
  refine lv_lload_n hx hb dX2_around_8 rfl (lv_at hl 1 rfl) ?_
  refine lv_iconst (v := 1) hx hb dX2_around_9 (by decide) ?_
  refine lv_lushr (v := (ushrL p0 1)) hx hb dX2_around_10 rfl ?_
  refine lv_aload_n hx hb dX2_around_11 rfl (lv_at hl 0 rfl) ?_
  refine mw_get (ci := 2) (C := RX2) (T := TX2) (N := 5) (v := .long w_t.2.2.2.2) hC i_X2_around_X2 hM hc_t rfl 4 (by decide) l_X2_around_2 rfl rfl dX2_around_12 ?_
  refine lv_land hx hb dX2_around_15 ?_
  refine lv_lor hx hb dX2_around_16 ?_
  refine lv_lload_n hx hb dX2_around_17 rfl (lv_at hl 1 rfl) ?_
  refine lv_aload_n hx hb dX2_around_18 rfl (lv_at hl 0 rfl) ?_
  refine mw_get (ci := 2) (C := RX2) (T := TX2) (N := 5) (v := .int w_t.1) hC i_X2_around_X2 hM hc_t rfl 0 (by decide) l_X2_around_3 rfl rfl dX2_around_19 ?_
  refine lv_lshl (v := (shlL p0 w_t.1)) hx hb dX2_around_22 rfl ?_
  refine lv_lload_n hx hb dX2_around_23 rfl (lv_at hl 1 rfl) ?_
  refine lv_aload_n hx hb dX2_around_24 rfl (lv_at hl 0 rfl) ?_
  refine mw_get (ci := 2) (C := RX2) (T := TX2) (N := 5) (v := .int w_t.1) hC i_X2_around_X2 hM hc_t rfl 0 (by decide) l_X2_around_3 rfl rfl dX2_around_25 ?_
  refine lv_lushr (v := (ushrL p0 w_t.1)) hx hb dX2_around_28 rfl ?_
  refine lv_lor hx hb dX2_around_29 ?_
  refine lv_aload_n hx hb dX2_around_30 rfl (lv_at hl 0 rfl) ?_
  refine mw_get (ci := 2) (C := RX2) (T := TX2) (N := 5) (v := .long w_t.2.2.1) hC i_X2_around_X2 hM hc_t rfl 2 (by decide) l_X2_around_4 rfl rfl dX2_around_31 ?_
  refine lv_land hx hb dX2_around_34 ?_
  refine lv_lor hx hb dX2_around_35 ?_
  subst h
  exact W.lret hx hb hr (fun t ht hW => ⟨_, rfl, rfl, ht⟩) (fun _ h9 => by cases h9) dX2_around_36 hlocks
theorem l_X2_across_0 : Cond.fieldLink RX2 9 "CornerStones$Grid" "rows" "I" ∈ wsX2_across := (List.mem_cons_of_mem _ (List.mem_append_left _ (List.mem_of_getElem? (i := 0) rfl)))
theorem i_X2_across_X2 : ∀ w ∈ wsX20, w ∈ wsX2_across := fun _ h => (List.mem_cons_of_mem _ (List.mem_append_right _ h))
theorem l_X2_across_2 : Cond.fieldLink RX2 18 "CornerStones$Grid" "all" "J" ∈ wsX2_across := (List.mem_cons_of_mem _ (List.mem_append_left _ (List.mem_of_getElem? (i := 1) rfl)))
theorem l_X2_across_3 : Cond.fieldLink RX2 24 "CornerStones$Grid" "notFirst" "J" ∈ wsX2_across := (List.mem_cons_of_mem _ (List.mem_append_left _ (List.mem_of_getElem? (i := 2) rfl)))
theorem l_X2_across_4 : Cond.fieldLink RX2 27 "CornerStones$Grid" "notLast" "J" ∈ wsX2_across := (List.mem_cons_of_mem _ (List.mem_append_left _ (List.mem_of_getElem? (i := 3) rfl)))
theorem q_X2_across : yX2_across.cls ≠ "java/lang/invoke/MethodHandle" ∧ yX2_across.cls ≠ "java/lang/invoke/VarHandle" ∧ (parseMethodDescriptor yX2_across.desc).map (fun d => d.parameters.length) = some 1 := by decide +kernel
def fX2_across (w_t : Int32 × Int32 × Int64 × Int64 × Int64) (p0 : Int64) : Int64 := bnd (((shlL p0 w_t.1) ||| (ushrL p0 w_t.1)) &&& w_t.2.2.1) fun v1 => ((((shlL v1 1) &&& w_t.2.2.2.1) ||| ((ushrL v1 1) &&& w_t.2.2.2.2)))
set_option maxHeartbeats 4000000 in
set_option maxRecDepth 100000 in
theorem c_X2_across {l : Launch} {z : Nat} {D : va_G} {K : Nat → ClassId} {σ : mwm} {a_t : Nat} {w_t : Int32 × Int32 × Int64 × Int64 × Int64} {p0 : Int64} (hc_t : σ a_t = some (cl2  w_t)) {v : Int64} (h : fX2_across w_t p0 = v) : Met l yX2_across wsX2_across ({ frames := 0, cells := 0, slots := 0, locals := 0 } : Room) (PCm z D K [.ref a_t, .long p0] σ) (qsL v) 0 0 (fun _ => False) := by
  refine mt_enter (cc := cX2_across) (maxL := 5) (ret := (some .long)) (own := RX2) (lv := [(0, .ref a_t), (1, .long p0)]) (by decide) rfl rfl (Nat.le_of_ble_eq_true rfl) rfl ?_
  intro p e s m below meth c ls hC hx hb hown hts hK hr hlocks hnm hz hM hS hl
  unfold fX2_across at h
  refine lv_lload_n hx hb dX2_across_0 rfl (lv_at hl 1 rfl) ?_
  refine lv_aload_n hx hb dX2_across_1 rfl (lv_at hl 0 rfl) ?_
  refine mw_get (ci := 2) (C := RX2) (T := TX2) (N := 5) (v := .int w_t.1) hC i_X2_across_X2 hM hc_t rfl 0 (by decide) l_X2_across_0 rfl rfl dX2_across_2 ?_
  refine lv_lshl (v := (shlL p0 w_t.1)) hx hb dX2_across_5 rfl ?_
  refine lv_lload_n hx hb dX2_across_6 rfl (lv_at hl 1 rfl) ?_
  refine lv_aload_n hx hb dX2_across_7 rfl (lv_at hl 0 rfl) ?_
  refine mw_get (ci := 2) (C := RX2) (T := TX2) (N := 5) (v := .int w_t.1) hC i_X2_across_X2 hM hc_t rfl 0 (by decide) l_X2_across_0 rfl rfl dX2_across_8 ?_
  refine lv_lushr (v := (ushrL p0 w_t.1)) hx hb dX2_across_11 rfl ?_
  refine lv_lor hx hb dX2_across_12 ?_
  refine lv_aload_n hx hb dX2_across_13 rfl (lv_at hl 0 rfl) ?_
  refine mw_get (ci := 2) (C := RX2) (T := TX2) (N := 5) (v := .long w_t.2.2.1) hC i_X2_across_X2 hM hc_t rfl 2 (by decide) l_X2_across_2 rfl rfl dX2_across_14 ?_
  refine lv_land hx hb dX2_across_17 ?_
  refine lv_topl (fun v1 ev1 => ?_)
  replace h := bnd_at ev1 h
  refine lv_lstore_n (lv' := [(3, .long v1), (0, .ref a_t), (1, .long p0)]) hx hb dX2_across_18 rfl hl (by decide) rfl (fun ls hl => ?_)
  refine lv_lload_n hx hb dX2_across_19 rfl (lv_at hl 0 rfl) ?_
  refine lv_iconst (v := 1) hx hb dX2_across_20 (by decide) ?_
  refine lv_lshl (v := (shlL v1 1)) hx hb dX2_across_21 rfl ?_
  refine lv_aload_n hx hb dX2_across_22 rfl (lv_at hl 1 rfl) ?_
  refine mw_get (ci := 2) (C := RX2) (T := TX2) (N := 5) (v := .long w_t.2.2.2.1) hC i_X2_across_X2 hM hc_t rfl 3 (by decide) l_X2_across_3 rfl rfl dX2_across_23 ?_
  refine lv_land hx hb dX2_across_26 ?_
  refine lv_lload_n hx hb dX2_across_27 rfl (lv_at hl 0 rfl) ?_
  refine lv_iconst (v := 1) hx hb dX2_across_28 (by decide) ?_
  refine lv_lushr (v := (ushrL v1 1)) hx hb dX2_across_29 rfl ?_
  refine lv_aload_n hx hb dX2_across_30 rfl (lv_at hl 1 rfl) ?_
  refine mw_get (ci := 2) (C := RX2) (T := TX2) (N := 5) (v := .long w_t.2.2.2.2) hC i_X2_across_X2 hM hc_t rfl 4 (by decide) l_X2_across_4 rfl rfl dX2_across_31 ?_
  refine lv_land hx hb dX2_across_34 ?_
  refine lv_lor hx hb dX2_across_35 ?_
  subst h
  exact W.lret hx hb hr (fun t ht hW => ⟨_, rfl, rfl, ht⟩) (fun _ h9 => by cases h9) dX2_across_36 hlocks
theorem q_X2_connected : yX2_connected.cls ≠ "java/lang/invoke/MethodHandle" ∧ yX2_connected.cls ≠ "java/lang/invoke/VarHandle" ∧ (parseMethodDescriptor yX2_connected.desc).map (fun d => d.parameters.length) = some 2 := by decide +kernel
def fX2_connected_8 (w_t : Int32 × Int32 × Int64 × Int64 × Int64) (p0 : Int64) (p1 : Int64) : Nat → Int64 → Int32 → Option (Int64)
  | 0, _, _ => none
  | fu + 1, x5, x7 => if 49 ≤ x7 then (some (x5)) else (bnd (x5 ||| ((fX2_around w_t x5) &&& p0)) fun v2 => if v2 = x5 then (some (x5)) else (fX2_connected_8 w_t p0 p1 fu v2 (x7 + 1)))
def fX2_connected (w_t : Int32 × Int32 × Int64 × Int64 × Int64) (p0 : Int64) (p1 : Int64) : Option (Int64) := fX2_connected_8 w_t p0 p1 5000 (p1 &&& p0) 0 
set_option maxHeartbeats 4000000 in
set_option maxRecDepth 100000 in
theorem c_X2_connected {l : Launch} {z : Nat} {D : va_G} {K : Nat → ClassId} {σ : mwm} {a_t : Nat} {w_t : Int32 × Int32 × Int64 × Int64 × Int64} {p0 : Int64} {p1 : Int64} (hc_t : σ a_t = some (cl2  w_t)) {v : Int64} (h : fX2_connected w_t p0 p1 = some v) : Met l yX2_connected wsX2_connected ({ frames := 1, cells := 0, slots := 0, locals := 22 } : Room) (PCm z D K [.ref a_t, .long p0, .long p1] σ) (qsL v) 0 0 (fun _ => False) := by
  refine mt_enter (cc := cX2_connected) (maxL := 10) (ret := (some .long)) (own := RX2) (lv := [(0, .ref a_t), (1, .long p0), (3, .long p1)]) (by decide) rfl rfl (Nat.le_of_ble_eq_true rfl) rfl ?_
  intro p e s m below meth c ls hC hx hb hown hts hK hr hlocks hnm hz hM hS hl
  unfold fX2_connected at h
  refine lv_lload_n hx hb dX2_connected_0 rfl (lv_at hl 2 rfl) ?_
  refine lv_lload_n hx hb dX2_connected_1 rfl (lv_at hl 1 rfl) ?_
  refine lv_land hx hb dX2_connected_2 ?_
  refine lv_lstore (lv' := [(5, .long (p1 &&& p0)), (0, .ref a_t), (1, .long p0), (3, .long p1)]) hx hb dX2_connected_3 hl (by decide) rfl (fun ls hl => ?_)
  refine lv_iconst (v := 0) hx hb dX2_connected_5 (by decide) ?_
  refine lv_istore (lv' := [(7, .int 0), (5, .long (p1 &&& p0)), (0, .ref a_t), (1, .long p0), (3, .long p1)]) hx hb dX2_connected_6 hl (by decide) rfl (fun ls hl => ?_)
  have L8 : ∀ (fu0 : Nat) (x5 : Int64) (x7 : Int32), fX2_connected_8 w_t p0 p1 fu0 x5 x7 = some v → ∀ ls : Array Slot, lv_has ls 10 [(7, .int x7), (5, .long x5), (0, .ref a_t), (1, .long p0)] → W p l e ({ frames := 1, cells := 0, slots := 0, locals := 22 } : Room) s m ([.ref a_t, .long p0, .long p1] : List Value).toArray below meth c s.heap [] 0 0 (MQ below (qsL v) ([.ref a_t, .long p0, .long p1] : List Value).toArray s 0 0 (fun _ => False)) (F0 m 8 ls []) := by
    intro fu0
    induction fu0 with
    | zero =>
      intro x5 x7 h
      unfold fX2_connected_8 at h
      cases h
    | succ fu0 ih0 =>
      intro x5 x7 h ls hl
      unfold fX2_connected_8 at h
      refine lv_iload hx hb dX2_connected_8 (lv_at hl 0 rfl) ?_
      refine lv_bipush (v := 49) hx hb dX2_connected_10 (by decide) ?_
      refine lv_icmp_ge (tgt := 49) hx hb dX2_connected_12 (by decide) (fun c1 => ?_) (fun c1 => ?_)
      · replace h := it_pos c1 h
        refine lv_lload hx hb dX2_connected_49 (lv_at hl 1 rfl) ?_
        cases h
        exact W.lret hx hb hr (fun t ht hW => ⟨_, rfl, rfl, ht⟩) (fun _ h9 => by cases h9) dX2_connected_51 hlocks
      · replace h := it_neg c1 h
        refine lv_lload hx hb dX2_connected_15 (lv_at hl 1 rfl) ?_
        refine lv_aload_n hx hb dX2_connected_17 rfl (lv_at hl 2 rfl) ?_
        refine lv_lload hx hb dX2_connected_18 (lv_at hl 1 rfl) ?_
        refine mw_cl (mw_runV (As := [.long x5]) (rest := [.long x5]) (ci := 2) (C := RX2) (T := TX2) (N := 5) hC hM hS hc_t rfl (c_X2_around (a_t := a_t) (w_t := w_t) (p0 := x5) (hc_t := hc_t) (v := (fX2_around w_t x5)) rfl) gX2_connected_X2_around rfl rfl rfl rfl q_X2_around ⟨Nat.le_of_ble_eq_true rfl, Nat.le_of_ble_eq_true rfl⟩ rfl rfl (Nat.le_of_ble_eq_true rfl) hl.1 dX2_connected_20 ⟨Nat.le_of_ble_eq_true rfl, Nat.le_of_ble_eq_true rfl⟩) ?_
        refine lv_lload_n hx hb dX2_connected_23 rfl (lv_at hl 3 rfl) ?_
        refine lv_land hx hb dX2_connected_24 ?_
        refine lv_lor hx hb dX2_connected_25 ?_
        refine lv_topl (fun v2 ev2 => ?_)
        replace h := bnd_at ev2 h
        refine lv_lstore (lv' := [(8, .long v2), (7, .int x7), (5, .long x5), (0, .ref a_t), (1, .long p0)]) hx hb dX2_connected_26 hl (by decide) rfl (fun ls hl => ?_)
        refine lv_lload hx hb dX2_connected_28 (lv_at hl 0 rfl) ?_
        refine lv_lload hx hb dX2_connected_30 (lv_at hl 2 rfl) ?_
        refine W.lcmp hx hb dX2_connected_32 ?_
        refine lv_if_ne (tgt := 39) hx hb dX2_connected_33 (by decide) (fun c3 => ?_) (fun c3 => ?_)
        · replace c3 := mt (lg_cmp_eq _ _).mpr c3
          replace h := it_neg c3 h
          refine lv_lload hx hb dX2_connected_39 (lv_at hl 0 rfl) ?_
          refine lv_lstore (lv' := [(5, .long v2), (8, .long v2), (7, .int x7), (0, .ref a_t), (1, .long p0)]) hx hb dX2_connected_41 hl (by decide) rfl (fun ls hl => ?_)
          refine lv_iinc (v := (x7 + 1)) (lv' := [(7, .int (x7 + 1)), (5, .long v2), (8, .long v2), (0, .ref a_t), (1, .long p0)]) hx hb dX2_connected_43 hl (k := 2) rfl rfl (by decide) rfl (fun ls hl => ?_)
          refine lv_goto (tgt := 8) hx hb dX2_connected_46 (by decide) ?_
          exact ih0 v2 (x7 + 1) h ls (lv_sub hl [0, 1, 3, 4] rfl)
        · replace c3 := (lg_cmp_eq _ _).mp c3
          replace h := it_pos c3 h
          refine lv_lload hx hb dX2_connected_36 (lv_at hl 2 rfl) ?_
          cases h
          exact W.lret hx hb hr (fun t ht hW => ⟨_, rfl, rfl, ht⟩) (fun _ h9 => by cases h9) dX2_connected_38 hlocks
  exact L8 5000 (p1 &&& p0) 0  h ls (lv_sub hl [0, 1, 2, 3] rfl)
