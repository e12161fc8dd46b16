theorem q_L_count : yL_count.cls ≠ "java/lang/invoke/MethodHandle" ∧ yL_count.cls ≠ "java/lang/invoke/VarHandle" ∧ (parseMethodDescriptor yL_count.desc).map (fun d => d.parameters.length) = some 1 := by decide +kernel
def fL_count_4 (p0 : Int64) (k1 : Int32 → Option (Int32)) : Nat → Int32 → Int64 → Option (Int32)
  | 0, _, _ => none
  | fu0 + 1, x2, x3 => if x3 = 0 then (k1 x2) else ((fL_count_4 p0 k1 fu0) (x2 + 1) (x3 &&& (x3 - 1)))
def fL_count (p0 : Int64) : Option (Int32) := bnd (fun (x1_l2 : Int32) => some x1_l2) fun k1 => fL_count_4 p0 k1 70 (0 : Int32) p0
set_option maxHeartbeats 8000000 in
set_option maxRecDepth 100000 in
theorem c_L_count {l : Launch} {z : Nat} {D : va_G} {K : Nat → ClassId} {σ : mwm} {p0 : Int64} {v : Int32} (h : fL_count p0 = some v) : Met l yL_count wsL_count ({ frames := 0, cells := 0, slots := 0, locals := 0 } : Room) (PCm z D K [.long p0] σ) (qsI v) 0 0 (fun _ => False) := by
  refine mt_enter (cc := cL_count) (maxL := 5) (ret := (some .int)) (own := RL) (lv := [(0, .long p0)]) (by decide) rfl rfl (Nat.le_of_ble_eq_true rfl) rfl ?_
  intro p e s m below meth c ls hC hx hb hown hts hK hr hlocks hnm hz hM hS hl
  unfold fL_count at h
  refine lv_iconst (v := 0) hx hb dL_count_0 (by decide) ?_
  refine lv_istore_n (lv' := [(2, .int 0), (0, .long p0)]) hx hb dL_count_1 rfl hl (by decide) rfl (fun ls hl => ?_)
  refine lv_lload_n hx hb dL_count_2 rfl (lv_at hl 1 rfl) ?_
  refine lv_lstore_n (lv' := [(3, .long p0), (2, .int 0), (0, .long p0)]) hx hb dL_count_3 rfl hl (by decide) rfl (fun ls hl => ?_)
  obtain ⟨k1, ek1, h⟩ := bnd_ex h
  have J1 : ∀ (x1_l2 : Int32), k1 x1_l2 = some v → ∀ ls : Array Slot, lv_has ls 5 [(2, .int x1_l2)] → W p l e ({ frames := 0, cells := 0, slots := 0, locals := 0 } : Room) s m ([.long p0] : List Value).toArray below meth c s.heap [] 0 0 (MQ below (qsI v) ([.long p0] : List Value).toArray s 0 0 (fun _ => False)) (F0 m 22 ls []) := by
    intro x1_l2 h ls hl
    rw [ek1] at h
    refine lv_iload_n hx hb dL_count_22 rfl (lv_at hl 0 rfl) ?_
    replace h := Option.some.inj h
    subst h
    exact W.iret hx hb hr (fun t ht hW => ⟨_, rfl, rfl, ht⟩) (fun _ h9 => by cases h9) dL_count_23 hlocks
  have L4 : ∀ (fu0 : Nat) (x2 : Int32) (x3 : Int64), fL_count_4 p0 k1 fu0 x2 x3 = some v → ∀ ls : Array Slot, lv_has ls 5 [(2, .int x2), (3, .long x3)] → W p l e ({ frames := 0, cells := 0, slots := 0, locals := 0 } : Room) s m ([.long p0] : List Value).toArray below meth c s.heap [] 0 0 (MQ below (qsI v) ([.long p0] : List Value).toArray s 0 0 (fun _ => False)) (F0 m 4 ls []) := by
    intro fu0
    induction fu0 with
    | zero =>
      intro x2 x3 h
      unfold fL_count_4 at h
      cases h
    | succ fu0 ih0 =>
      intro x2 x3 h ls hl
      unfold fL_count_4 at h
      refine lv_lload_n hx hb dL_count_4 rfl (lv_at hl 1 rfl) ?_
      refine lv_lconst (v := 0) hx hb dL_count_5 (by decide) ?_
      refine W.lcmp hx hb dL_count_6 ?_
      refine lv_if_eq (tgt := 22) hx hb dL_count_7 (by decide) (fun c2 => ?_) (fun c2 => ?_)
      · replace c2 := (lg_cmp_eq _ _).mp c2
        replace h := it_pos c2 h
        exact J1 x2  h ls (lv_sub hl [0] rfl)
      · replace c2 := mt (lg_cmp_eq _ _).mpr c2
        replace h := it_neg c2 h
        refine lv_iinc (v := (x2 + 1)) (lv' := [(2, .int (x2 + 1)), (3, .long x3)]) hx hb dL_count_10 hl (k := 0) rfl rfl (by decide) rfl (fun ls hl => ?_)
        refine lv_lload_n hx hb dL_count_13 rfl (lv_at hl 1 rfl) ?_
        refine lv_lload_n hx hb dL_count_14 rfl (lv_at hl 1 rfl) ?_
        refine lv_lconst (v := 1) hx hb dL_count_15 (by decide) ?_
        refine lv_lsub hx hb dL_count_16 ?_
        refine lv_land hx hb dL_count_17 ?_
        refine lv_lstore_n (lv' := [(3, .long (x3 &&& (x3 - 1))), (2, .int (x2 + 1))]) hx hb dL_count_18 rfl hl (by decide) rfl (fun ls hl => ?_)
        refine lv_goto (tgt := 4) hx hb dL_count_19 (by decide) ?_
        exact ih0 (x2 + 1) (x3 &&& (x3 - 1))  h ls (lv_sub hl [1, 0] rfl)
  exact L4  70 (0 : Int32) p0  h ls (lv_sub hl [1, 0] rfl)
theorem q_L_beside : yL_beside.cls ≠ "java/lang/invoke/MethodHandle" ∧ yL_beside.cls ≠ "java/lang/invoke/VarHandle" ∧ (parseMethodDescriptor yL_beside.desc).map (fun d => d.parameters.length) = some 2 := by decide +kernel
def fL_beside (p0 : Int32) (p1 : Int32) : Option (Int64) := bnd (fun (x1_0 : Int64) => bnd (fun (x2_0 : Int64) => if p0 = 0 then none else bnd (fun (x4_0 : Int64) => if p0 = 0 then none else bnd (fun (x6_0 : Int64) => some (((x1_0 ||| x2_0) ||| x4_0) ||| x6_0)) fun k6 => if (p0 - 1) ≤ (p1 - p1 / p0 * p0) then (k6 (0 : Int64)) else (k6 (shlL 1 (p1 + 1)))) fun k4 => if (p1 - p1 / p0 * p0) ≤ 0 then (k4 (0 : Int64)) else (k4 (shlL 1 (p1 - 1)))) fun k2 => if ((p0 * p0) - p0) ≤ p1 then (k2 (0 : Int64)) else (k2 (shlL 1 (p1 + p0)))) fun k1 => if p1 < p0 then (k1 (0 : Int64)) else (k1 (shlL 1 (p1 - p0)))
set_option maxHeartbeats 8000000 in
set_option maxRecDepth 100000 in
theorem c_L_beside {l : Launch} {z : Nat} {D : va_G} {K : Nat → ClassId} {σ : mwm} {p0 : Int32} {p1 : Int32} {v : Int64} (h : fL_beside p0 p1 = some v) : Met l yL_beside wsL_beside ({ frames := 0, cells := 0, slots := 0, locals := 0 } : Room) (PCm z D K [.int p0, .int p1] σ) (qsL v) 0 0 (fun _ => False) := by
  refine mt_enter (cc := cL_beside) (maxL := 2) (ret := (some .long)) (own := RL) (lv := [(0, .int p0), (1, .int p1)]) (by decide) rfl rfl (Nat.le_of_ble_eq_true rfl) rfl ?_
  intro p e s m below meth c ls hC hx hb hown hts hK hr hlocks hnm hz hM hS hl
  unfold fL_beside at h
  refine lv_iload_n hx hb dL_beside_0 rfl (lv_at hl 1 rfl) ?_
  refine lv_iload_n hx hb dL_beside_1 rfl (lv_at hl 0 rfl) ?_
  obtain ⟨k1, ek1, h⟩ := bnd_ex h
  have J1 : ∀ (x1_0 : Int64), k1 x1_0 = some v → ∀ ls : Array Slot, lv_has ls 2 [(0, .int p0), (1, .int p1)] → W p l e ({ frames := 0, cells := 0, slots := 0, locals := 0 } : Room) s m ([.int p0, .int p1] : List Value).toArray below meth c s.heap [] 0 0 (MQ below (qsL v) ([.int p0, .int p1] : List Value).toArray s 0 0 (fun _ => False)) (F0 m 14 ls [.long x1_0]) := by
    intro x1_0 h ls hl
    rw [ek1] at h
    refine lv_iload_n hx hb dL_beside_14 rfl (lv_at hl 1 rfl) ?_
    refine lv_iload_n hx hb dL_beside_15 rfl (lv_at hl 0 rfl) ?_
    refine lv_iload_n hx hb dL_beside_16 rfl (lv_at hl 0 rfl) ?_
    refine lv_imul hx hb dL_beside_17 ?_
    refine lv_iload_n hx hb dL_beside_18 rfl (lv_at hl 0 rfl) ?_
    refine lv_isub hx hb dL_beside_19 ?_
    obtain ⟨k2, ek2, h⟩ := bnd_ex h
    have J2 : ∀ (x2_0 : Int64), k2 x2_0 = some v → ∀ ls : Array Slot, lv_has ls 2 [(0, .int p0), (1, .int p1)] → W p l e ({ frames := 0, cells := 0, slots := 0, locals := 0 } : Room) s m ([.int p0, .int p1] : List Value).toArray below meth c s.heap [] 0 0 (MQ below (qsL v) ([.int p0, .int p1] : List Value).toArray s 0 0 (fun _ => False)) (F0 m 32 ls [.long x2_0, .long x1_0]) := by
      intro x2_0 h ls hl
      rw [ek2] at h
      refine lv_lor hx hb dL_beside_32 ?_
      refine lv_iload_n hx hb dL_beside_33 rfl (lv_at hl 1 rfl) ?_
      refine lv_iload_n hx hb dL_beside_34 rfl (lv_at hl 0 rfl) ?_
      by_cases c3 : p0 = 0
      · replace h := it_pos c3 h; cases h
      replace h := it_neg c3 h
      refine lv_irem hx hb dL_beside_35 c3 ?_
      obtain ⟨k4, ek4, h⟩ := bnd_ex h
      have J4 : ∀ (x4_0 : Int64), k4 x4_0 = some v → ∀ ls : Array Slot, lv_has ls 2 [(0, .int p0), (1, .int p1)] → W p l e ({ frames := 0, cells := 0, slots := 0, locals := 0 } : Room) s m ([.int p0, .int p1] : List Value).toArray below meth c s.heap [] 0 0 (MQ below (qsL v) ([.int p0, .int p1] : List Value).toArray s 0 0 (fun _ => False)) (F0 m 48 ls [.long x4_0, .long (x1_0 ||| x2_0)]) := by
        intro x4_0 h ls hl
        rw [ek4] at h
        refine lv_lor hx hb dL_beside_48 ?_
        refine lv_iload_n hx hb dL_beside_49 rfl (lv_at hl 1 rfl) ?_
        refine lv_iload_n hx hb dL_beside_50 rfl (lv_at hl 0 rfl) ?_
        by_cases c5 : p0 = 0
        · replace h := it_pos c5 h; cases h
        replace h := it_neg c5 h
        refine lv_irem hx hb dL_beside_51 c5 ?_
        refine lv_iload_n hx hb dL_beside_52 rfl (lv_at hl 0 rfl) ?_
        refine lv_iconst (v := 1) hx hb dL_beside_53 (by decide) ?_
        refine lv_isub hx hb dL_beside_54 ?_
        obtain ⟨k6, ek6, h⟩ := bnd_ex h
        have J6 : ∀ (x6_0 : Int64), k6 x6_0 = some v → ∀ ls : Array Slot, lv_has ls 2 [] → W p l e ({ frames := 0, cells := 0, slots := 0, locals := 0 } : Room) s m ([.int p0, .int p1] : List Value).toArray below meth c s.heap [] 0 0 (MQ below (qsL v) ([.int p0, .int p1] : List Value).toArray s 0 0 (fun _ => False)) (F0 m 67 ls [.long x6_0, .long ((x1_0 ||| x2_0) ||| x4_0)]) := by
          intro x6_0 h ls hl
          rw [ek6] at h
          refine lv_lor hx hb dL_beside_67 ?_
          replace h := Option.some.inj h
          subst h
          exact W.lret hx hb hr (fun t ht hW => ⟨_, rfl, rfl, ht⟩) (fun _ h9 => by cases h9) dL_beside_68 hlocks
        refine lv_icmp_ge (tgt := 66) hx hb dL_beside_55 (by decide) (fun c7 => ?_) (fun c7 => ?_)
        · replace h := it_pos c7 h
          refine lv_lconst (v := 0) hx hb dL_beside_66 (by decide) ?_
          refine W.eq (g2 := F0 m 67 ls [.long (0 : Int64), .long ((x1_0 ||| x2_0) ||| x4_0)]) rfl ?_
          exact J6 (0 : Int64)  h ls (lv_sub hl [] rfl)
        · replace h := it_neg c7 h
          refine lv_lconst (v := 1) hx hb dL_beside_58 (by decide) ?_
          refine lv_iload_n hx hb dL_beside_59 rfl (lv_at hl 1 rfl) ?_
          refine lv_iconst (v := 1) hx hb dL_beside_60 (by decide) ?_
          refine lv_iadd hx hb dL_beside_61 ?_
          refine lv_lshl (v := (shlL 1 (p1 + 1))) hx hb dL_beside_62 rfl ?_
          refine lv_goto (tgt := 67) hx hb dL_beside_63 (by decide) ?_
          exact J6 (shlL 1 (p1 + 1))  h ls (lv_sub hl [] rfl)
      refine lv_if_le (tgt := 47) hx hb dL_beside_36 (by decide) (fun c8 => ?_) (fun c8 => ?_)
      · replace h := it_pos c8 h
        refine lv_lconst (v := 0) hx hb dL_beside_47 (by decide) ?_
        refine W.eq (g2 := F0 m 48 ls [.long (0 : Int64), .long (x1_0 ||| x2_0)]) rfl ?_
        exact J4 (0 : Int64)  h ls (lv_sub hl [0, 1] rfl)
      · replace h := it_neg c8 h
        refine lv_lconst (v := 1) hx hb dL_beside_39 (by decide) ?_
        refine lv_iload_n hx hb dL_beside_40 rfl (lv_at hl 1 rfl) ?_
        refine lv_iconst (v := 1) hx hb dL_beside_41 (by decide) ?_
        refine lv_isub hx hb dL_beside_42 ?_
        refine lv_lshl (v := (shlL 1 (p1 - 1))) hx hb dL_beside_43 rfl ?_
        refine lv_goto (tgt := 48) hx hb dL_beside_44 (by decide) ?_
        exact J4 (shlL 1 (p1 - 1))  h ls (lv_sub hl [0, 1] rfl)
    refine lv_icmp_ge (tgt := 31) hx hb dL_beside_20 (by decide) (fun c9 => ?_) (fun c9 => ?_)
    · replace h := it_pos c9 h
      refine lv_lconst (v := 0) hx hb dL_beside_31 (by decide) ?_
      refine W.eq (g2 := F0 m 32 ls [.long (0 : Int64), .long x1_0]) rfl ?_
      exact J2 (0 : Int64)  h ls (lv_sub hl [0, 1] rfl)
    · replace h := it_neg c9 h
      refine lv_lconst (v := 1) hx hb dL_beside_23 (by decide) ?_
      refine lv_iload_n hx hb dL_beside_24 rfl (lv_at hl 1 rfl) ?_
      refine lv_iload_n hx hb dL_beside_25 rfl (lv_at hl 0 rfl) ?_
      refine lv_iadd hx hb dL_beside_26 ?_
      refine lv_lshl (v := (shlL 1 (p1 + p0))) hx hb dL_beside_27 rfl ?_
      refine lv_goto (tgt := 32) hx hb dL_beside_28 (by decide) ?_
      exact J2 (shlL 1 (p1 + p0))  h ls (lv_sub hl [0, 1] rfl)
  refine lv_icmp_lt (tgt := 13) hx hb dL_beside_2 (by decide) (fun c10 => ?_) (fun c10 => ?_)
  · replace h := it_pos c10 h
    refine lv_lconst (v := 0) hx hb dL_beside_13 (by decide) ?_
    refine W.eq (g2 := F0 m 14 ls [.long (0 : Int64)]) rfl ?_
    exact J1 (0 : Int64)  h ls (lv_sub hl [0, 1] rfl)
  · replace h := it_neg c10 h
    refine lv_lconst (v := 1) hx hb dL_beside_5 (by decide) ?_
    refine lv_iload_n hx hb dL_beside_6 rfl (lv_at hl 1 rfl) ?_
    refine lv_iload_n hx hb dL_beside_7 rfl (lv_at hl 0 rfl) ?_
    refine lv_isub hx hb dL_beside_8 ?_
    refine lv_lshl (v := (shlL 1 (p1 - p0))) hx hb dL_beside_9 rfl ?_
    refine lv_goto (tgt := 14) hx hb dL_beside_10 (by decide) ?_
    exact J1 (shlL 1 (p1 - p0))  h ls (lv_sub hl [0, 1] rfl)
theorem q_L_thrown : yL_thrown.cls ≠ "java/lang/invoke/MethodHandle" ∧ yL_thrown.cls ≠ "java/lang/invoke/VarHandle" ∧ (parseMethodDescriptor yL_thrown.desc).map (fun d => d.parameters.length) = some 1 := by decide +kernel
theorem l_L_thrown_0 : Cond.constant RL 52 (-9999001) ∈ wsL_thrown := (List.mem_cons_of_mem _ (List.mem_of_getElem? (i := 0) rfl))
theorem l_L_thrown_1 : Cond.constant RL 29 (-9999002) ∈ wsL_thrown := (List.mem_cons_of_mem _ (List.mem_of_getElem? (i := 1) rfl))
theorem l_L_thrown_2 : Cond.constant RL 40 (-9999003) ∈ wsL_thrown := (List.mem_cons_of_mem _ (List.mem_of_getElem? (i := 2) rfl))
def fL_thrown (p0 : Int32) : Option (Bool) := bnd (fun (x1_0 : Bool) => some x1_0) fun k1 => if p0 = (-9999001) then (k1 true) else (if p0 = (-9999002) then (k1 true) else (if p0 = (-9999003) then (k1 true) else (k1 false)))
set_option maxHeartbeats 8000000 in
set_option maxRecDepth 100000 in
theorem c_L_thrown {l : Launch} {z : Nat} {D : va_G} {K : Nat → ClassId} {σ : mwm} {p0 : Int32} {v : Bool} (h : fL_thrown p0 = some v) : Met l yL_thrown wsL_thrown ({ frames := 0, cells := 0, slots := 0, locals := 0 } : Room) (PCm z D K [.int p0] σ) (qsI (b2i v)) 0 0 (fun _ => False) := by
  refine mt_enter (cc := cL_thrown) (maxL := 1) (ret := (some .boolean)) (own := RL) (lv := [(0, .int p0)]) (by decide) rfl rfl (Nat.le_of_ble_eq_true rfl) rfl ?_
  intro p e s m below meth c ls hC hx hb hown hts hK hr hlocks hnm hz hM hS hl
  unfold fL_thrown at h
  refine lv_iload_n hx hb dL_thrown_0 rfl (lv_at hl 0 rfl) ?_
  refine lv_ldc (v := -9999001) hx hb hown (hts _ l_L_thrown_0) dL_thrown_1 ?_
  obtain ⟨k1, ek1, h⟩ := bnd_ex h
  have J1 : ∀ (x1_0 : Bool), k1 x1_0 = some v → ∀ ls : Array Slot, lv_has ls 1 [] → W p l e ({ frames := 0, cells := 0, slots := 0, locals := 0 } : Room) s m ([.int p0] : List Value).toArray below meth c s.heap [] 0 0 (MQ below (qsI (b2i v)) ([.int p0] : List Value).toArray s 0 0 (fun _ => False)) (F0 m 23 ls [.int (b2i x1_0)]) := by
    intro x1_0 h ls hl
    rw [ek1] at h
    replace h := Option.some.inj h
    subst h
    exact W.zret (ty := .boolean) (v := b2i x1_0) hx hb hr (b2i_nar _) (fun t ht hW => ⟨_, rfl, rfl, ht⟩) (fun _ h9 => by cases h9) dL_thrown_23 hlocks
  refine lv_icmp_eq (tgt := 18) hx hb dL_thrown_3 (by decide) (fun c2 => ?_) (fun c2 => ?_)
  · replace h := it_pos c2 h
    refine lv_iconst (v := 1) hx hb dL_thrown_18 (by decide) ?_
    refine lv_goto (tgt := 23) hx hb dL_thrown_19 (by decide) ?_
    refine W.eq (g2 := F0 m 23 ls [.int (b2i true)]) rfl ?_
    exact J1 true  h ls (lv_sub hl [] rfl)
  · replace h := it_neg c2 h
    refine lv_iload_n hx hb dL_thrown_6 rfl (lv_at hl 0 rfl) ?_
    refine lv_ldc (v := -9999002) hx hb hown (hts _ l_L_thrown_1) dL_thrown_7 ?_
    refine lv_icmp_eq (tgt := 18) hx hb dL_thrown_9 (by decide) (fun c3 => ?_) (fun c3 => ?_)
    · replace h := it_pos c3 h
      refine lv_iconst (v := 1) hx hb dL_thrown_18 (by decide) ?_
      refine lv_goto (tgt := 23) hx hb dL_thrown_19 (by decide) ?_
      refine W.eq (g2 := F0 m 23 ls [.int (b2i true)]) rfl ?_
      exact J1 true  h ls (lv_sub hl [] rfl)
    · replace h := it_neg c3 h
      refine lv_iload_n hx hb dL_thrown_12 rfl (lv_at hl 0 rfl) ?_
      refine lv_ldc (v := -9999003) hx hb hown (hts _ l_L_thrown_2) dL_thrown_13 ?_
      refine lv_icmp_ne (tgt := 22) hx hb dL_thrown_15 (by decide) (fun c4 => ?_) (fun c4 => ?_)
      · replace h := it_neg c4 h
        refine lv_iconst (v := 0) hx hb dL_thrown_22 (by decide) ?_
        refine W.eq (g2 := F0 m 23 ls [.int (b2i false)]) rfl ?_
        exact J1 false  h ls (lv_sub hl [] rfl)
      · replace h := it_pos c4 h
        refine lv_iconst (v := 1) hx hb dL_thrown_18 (by decide) ?_
        refine lv_goto (tgt := 23) hx hb dL_thrown_19 (by decide) ?_
        refine W.eq (g2 := F0 m 23 ls [.int (b2i true)]) rfl ?_
        exact J1 true  h ls (lv_sub hl [] rfl)
theorem q_L_refuses : yL_refuses.cls ≠ "java/lang/invoke/MethodHandle" ∧ yL_refuses.cls ≠ "java/lang/invoke/VarHandle" ∧ (parseMethodDescriptor yL_refuses.desc).map (fun d => d.parameters.length) = some 2 := by decide +kernel
theorem l_L_refuses_0 : Cond.constant RL 29 (-9999002) ∈ wsL_refuses := (List.mem_cons_of_mem _ (List.mem_append_left _ (List.mem_append_left _ (List.mem_append_left _ (List.mem_append_left _ (List.mem_append_left _ (List.mem_of_getElem? (i := 12) rfl)))))))
theorem l_L_refuses_1 : Cond.constantLong RL 15 (-9999001) ∈ wsL_refuses := (List.mem_cons_of_mem _ (List.mem_append_left _ (List.mem_append_left _ (List.mem_append_left _ (List.mem_append_left _ (List.mem_append_left _ (List.mem_of_getElem? (i := 13) rfl)))))))
theorem l_L_refuses_2 : Cond.constant RL 52 (-9999001) ∈ wsL_refuses := (List.mem_cons_of_mem _ (List.mem_append_left _ (List.mem_append_left _ (List.mem_append_left _ (List.mem_append_left _ (List.mem_append_left _ (List.mem_of_getElem? (i := 14) rfl)))))))
theorem l_L_refuses_3 : Cond.constantLong RL 23 (-9999002) ∈ wsL_refuses := (List.mem_cons_of_mem _ (List.mem_append_left _ (List.mem_append_left _ (List.mem_append_left _ (List.mem_append_left _ (List.mem_append_left _ (List.mem_of_getElem? (i := 15) rfl)))))))
theorem l_L_refuses_4 : Cond.constantLong RL 160 (10000) ∈ wsL_refuses := (List.mem_cons_of_mem _ (List.mem_append_left _ (List.mem_append_left _ (List.mem_append_left _ (List.mem_append_left _ (List.mem_append_left _ (List.mem_of_getElem? (i := 16) rfl)))))))
def fL_refuses (s_p0 : OSt) (p1 : Int32) : Option (Bool × OSt) := (fL_call_2 s_p0 (0 : Int32) (0 : Int32) (0 : Int32)).bind fun r1 => bnd (fun (x4_0 : Int32) => bnd (fun (x5_0 : Int32) => (fL_call_0 s_p0 x5_0 (0 : Int32) (0 : Int32)).bind fun r6 => bnd (fun (x10_0 : Bool) (t10_p0 : OSt) => some (x10_0, t10_p0)) fun k10 => if r6.1 = (-9999002) then ((fL_call_2 r6.2 (8 + (p1 - p1 / 50 * 50)) (0 : Int32) (0 : Int32)).bind fun r12 => if r12 = (-9999002) then ((fL_has r6.2 (2 + (p1 - p1 / 9 * 9))).bind fun r17 => if r17 = (-9999001) then ((fL_call_3 r6.2 (2 + (p1 - p1 / 9 * 9)) (9 : Int32) (0 : Int32)).bind fun r22 => if r22 = (-9999001) then ((fL_call_3 r6.2 (p1 - p1 / 2 * 2) (6 + (p1 - p1 / 9 * 9)) (0 : Int32)).bind fun r27 => if r27 = (-9999002) then ((fL_call_4 r6.2 x4_0 (9 : Int32) (0 : Int32)).bind fun r32 => if r32 = (-9999001) then (if (r1 * r1) = 0 then none else (fL_call_4 r6.2 (p1 - p1 / (r1 * r1) * (r1 * r1)) (6 + (p1 - p1 / 9 * 9)) (0 : Int32)).bind fun r38 => if r38 = (-9999002) then ((fL_groups r6.2 x4_0 (9 : Int32)).bind fun r43 => if r43 = (-9999001) then (if (r1 * r1) = 0 then none else (fL_groups r6.2 (p1 - p1 / (r1 * r1) * (r1 * r1)) (2 + (p1 - p1 / 9 * 9))).bind fun r49 => if r49 = (-9999002) then ((fL_call_5 r6.2 x4_0 (0 : Int32) (0 : Int32)).bind fun r54 => if r54 = (-9999001) then (bnd (fun (x59_0 : Int32) => (fL_call_6 r6.2 x59_0 (0 : Int32) (0 : Int32)).bind fun r60 => if r60.1 = (-9999002) then ((fL_call_7 r60.2 x4_0 (0 : Int32) (0 : Int32)).bind fun r65 => if r65.1 = (-9999001) then (bnd (fun (x70_0 : Int32) => (fL_call_9 r65.2 x70_0 (0 : Int32) (0 : Int32)).bind fun r71 => if r71.1 = (-9999002) then ((fL_call_11 r71.2 x4_0 (9 : Int32) (0 : Int32)).bind fun r76 => if r76 = (-9999001) then (if (r1 * r1) = 0 then none else (fL_call_11 r71.2 (p1 - p1 / (r1 * r1) * (r1 * r1)) (4 + (p1 - p1 / 9 * 9)) (0 : Int32)).bind fun r82 => if r82 = (-9999002) then ((fL_call_12 r71.2 x4_0 (9 : Int32) (0 : Int32)).bind fun r87 => if r87 = (-9999001) then (if (r1 * r1) = 0 then none else (fL_call_12 r71.2 (p1 - p1 / (r1 * r1) * (r1 * r1)) (2 + (p1 - p1 / 9 * 9)) (0 : Int32)).bind fun r93 => if r93 = (-9999002) then ((fL_call_13 r71.2 x4_0 (0 : Int32) (0 : Int32)).bind fun r98 => if r98 = (-9999001) then ((fL_call_14 r71.2 (2 + (p1 - p1 / 50 * 50)) (0 : Int32) (0 : Int32)).bind fun r103 => if r103.1 = (-9999001) then ((fL_call_15 r103.2 ((-1) - (p1 - p1 / 9 * 9)) (0 : Int32) (0 : Int32)).bind fun r108 => if r108.1 = (-9999001) then ((fL_doScript r108.2 (0 : Int32) (0 : Int64)).bind fun r113 => if r113.1 = (-9999002) then ((fL_doScript r113.2 (1 : Int32) (10000 + p1.toInt64)).bind fun r118 => if r118.1 = (-9999002) then ((fL_doSimulate r118.2 p1.toInt64 (101 + (p1 - p1 / 9 * 9))).bind fun r123 => if r123.1 = (-9999002) then (k10 true r123.2) else (k10 false r123.2)) else (k10 false r118.2)) else (k10 false r113.2)) else (k10 false r108.2)) else (k10 false r103.2)) else (k10 false r71.2)) else (k10 false r71.2)) else (k10 false r71.2)) else (k10 false r71.2)) else (k10 false r71.2)) else (k10 false r71.2)) fun k70 => if (p1 - p1 / 2 * 2) = 0 then (k70 ((-1) - (p1 - p1 / 9 * 9))) else (k70 (2 + (p1 - p1 / 9 * 9)))) else (k10 false r65.2)) else (k10 false r60.2)) fun k59 => if (p1 - p1 / 2 * 2) = 0 then (k59 (2 - (p1 - p1 / 9 * 9))) else (k59 (8 + (p1 - p1 / 9 * 9)))) else (k10 false r6.2)) else (k10 false r6.2)) else (k10 false r6.2)) else (k10 false r6.2)) else (k10 false r6.2)) else (k10 false r6.2)) else (k10 false r6.2)) else (k10 false r6.2)) else (k10 false r6.2)) else (k10 false r6.2)) fun k5 => if (p1 - p1 / 2 * 2) = 0 then (k5 ((-1) - (p1 - p1 / 9 * 9))) else (k5 (256 + (p1 - p1 / 9 * 9)))) fun k4 => if (p1 - p1 / 2 * 2) = 0 then (k4 ((-1) - (p1 - p1 / 99 * 99))) else (k4 ((r1 * r1) + (p1 - p1 / 99 * 99)))
set_option maxHeartbeats 8000000 in
set_option maxRecDepth 100000 in
theorem c_L_refuses {l : Launch} {z : Nat} {D : va_G} {K : Nat → ClassId} {σ : mwm} {ad_p0 : Nat → Nat} {s_p0 : OSt} {p1 : Int32} (hO_p0 : OB K ad_p0 σ s_p0) (hlt : l.stackTraces = false) {v : Bool × OSt} (h : fL_refuses s_p0 p1 = some v) : Met l yL_refuses wsL_refuses ({ frames := 75, cells := 24, slots := 144, locals := 3131 } : Room) (PCx z D K [.ref (ad_p0 0), .int p1] σ) (qwI z D (fun r σ2 => r = b2i v.1 ∧ OB K ad_p0 σ2 v.2 ∧ KEO ad_p0 σ σ2)) 24 144 (zA z) := by
  refine my_enter (cc := cL_refuses) (maxL := 5) (ret := (some .boolean)) (own := RL) (lv := [(0, .ref (ad_p0 0)), (1, .int p1)]) (by decide) rfl rfl (Nat.le_of_ble_eq_true rfl) rfl ?_
  intro p e s m below meth c ls hC hx hb hown hts hK hr hlocks hnm hz hM hS hl hX
  unfold fL_refuses at h
  refine lv_aload_n hx hb dL_refuses_0 rfl (lv_at hl 0 rfl) ?_
  refine lv_iconst (v := 2) hx hb dL_refuses_1 (by decide) ?_
  refine lv_iconst (v := 0) hx hb dL_refuses_2 (by decide) ?_
  refine lv_iconst (v := 0) hx hb dL_refuses_3 (by decide) ?_
  refine lv_iconst (v := 0) hx hb dL_refuses_4 (by decide) ?_
  obtain ⟨r1, hr1, h⟩ := ob_some h
  refine mw_wi (my_runS (As := [.ref (ad_p0 0), .int 2, .int 0, .int 0, .int 0]) (rest := []) hC hX hM hS (c_L_call_2 (ad_p0 := ad_p0) (s_p0 := s_p0) (hO_p0 := hO_p0) (hlt := hlt) (v := r1) hr1) gL_refuses_L_call rfl rfl rfl q_L_call ⟨(Nat.le_of_ble_eq_true rfl), (Nat.le_of_ble_eq_true rfl)⟩ rfl rfl (Nat.le_of_ble_eq_true rfl) hl.1 dL_refuses_5 ⟨(Nat.le_of_ble_eq_true rfl), (Nat.le_of_ble_eq_true rfl)⟩) hS (fun r9 H locs σ1 hp2 hM hS => ?_)
  obtain ⟨hr9, hO9, hk3⟩ := hp2
  replace hr9 := hr9.symm
  subst hr9
  replace hO_p0 := hO9
  refine W.eq (g2 := F0 m 8 ls [.int r1]) rfl ?_
  refine lv_istore_n (lv' := [(2, .int r1), (0, .ref (ad_p0 0)), (1, .int p1)]) hx hb dL_refuses_8 rfl hl (by decide) rfl (fun ls hl => ?_)
  refine lv_iload_n hx hb dL_refuses_9 rfl (lv_at hl 0 rfl) ?_
  refine lv_iload_n hx hb dL_refuses_10 rfl (lv_at hl 0 rfl) ?_
  refine lv_imul hx hb dL_refuses_11 ?_
  refine lv_istore_n (lv' := [(3, .int (r1 * r1)), (2, .int r1), (0, .ref (ad_p0 0)), (1, .int p1)]) hx hb dL_refuses_12 rfl hl (by decide) rfl (fun ls hl => ?_)
  refine lv_iload_n hx hb dL_refuses_13 rfl (lv_at hl 3 rfl) ?_
  refine lv_iconst (v := 2) hx hb dL_refuses_14 (by decide) ?_
  refine lv_irem hx hb dL_refuses_15 (by decide) ?_
  obtain ⟨k4, ek4, h⟩ := bnd_ex h
  have J4 : ∀ (x4_0 : Int32) (H : Heap) (locs : List Loc) (σ1 : mwm), MW z D σ1 H → va_S (zA z) s.heap H locs → OB K ad_p0 σ1 s_p0 → KEO ad_p0 σ σ1 → k4 x4_0 = some v → ∀ ls : Array Slot, lv_has ls 5 [(0, .ref (ad_p0 0)), (1, .int p1), (3, .int (r1 * r1))] → W p l e ({ frames := 75, cells := 24, slots := 144, locals := 3131 } : Room) s m ([.ref (ad_p0 0), .int p1] : List Value).toArray below meth c H locs 1 6 (MQ below (qwI z D (fun r σ2 => r = b2i v.1 ∧ OB K ad_p0 σ2 v.2 ∧ KEO ad_p0 σ σ2)) ([.ref (ad_p0 0), .int p1] : List Value).toArray s 24 144 (zA z)) (F0 m 34 ls [.int x4_0]) := by
    intro x4_0 H locs σ1 hM hS hO_p0 hk h ls hl
    rw [ek4] at h
    refine lv_istore (lv' := [(4, .int x4_0), (0, .ref (ad_p0 0)), (1, .int p1), (3, .int (r1 * r1))]) hx hb dL_refuses_34 hl (by decide) rfl (fun ls hl => ?_)
    refine lv_aload_n hx hb dL_refuses_36 rfl (lv_at hl 1 rfl) ?_
    refine lv_iconst (v := 0) hx hb dL_refuses_37 (by decide) ?_
    refine lv_iload_n hx hb dL_refuses_38 rfl (lv_at hl 2 rfl) ?_
    refine lv_iconst (v := 2) hx hb dL_refuses_39 (by decide) ?_
    refine lv_irem hx hb dL_refuses_40 (by decide) ?_
    obtain ⟨k5, ek5, h⟩ := bnd_ex h
    have J5 : ∀ (x5_0 : Int32) (H : Heap) (locs : List Loc) (σ1 : mwm), MW z D σ1 H → va_S (zA z) s.heap H locs → OB K ad_p0 σ1 s_p0 → KEO ad_p0 σ σ1 → k5 x5_0 = some v → ∀ ls : Array Slot, lv_has ls 5 [(0, .ref (ad_p0 0)), (1, .int p1), (3, .int (r1 * r1)), (4, .int x4_0)] → W p l e ({ frames := 75, cells := 24, slots := 144, locals := 3131 } : Room) s m ([.ref (ad_p0 0), .int p1] : List Value).toArray below meth c H locs 1 6 (MQ below (qwI z D (fun r σ2 => r = b2i v.1 ∧ OB K ad_p0 σ2 v.2 ∧ KEO ad_p0 σ σ2)) ([.ref (ad_p0 0), .int p1] : List Value).toArray s 24 144 (zA z)) (F0 m 61 ls [.int x5_0, .int 0, .ref (ad_p0 0)]) := by
      intro x5_0 H locs σ1 hM hS hO_p0 hk h ls hl
      rw [ek5] at h
      refine lv_iconst (v := 0) hx hb dL_refuses_61 (by decide) ?_
      refine lv_iconst (v := 0) hx hb dL_refuses_62 (by decide) ?_
      obtain ⟨r6, hr6, h⟩ := ob_some h
      refine mw_wi (my_runS (As := [.ref (ad_p0 0), .int 0, .int x5_0, .int 0, .int 0]) (rest := []) hC hX hM hS (c_L_call_0 (ad_p0 := ad_p0) (s_p0 := s_p0) (hO_p0 := hO_p0) (hlt := hlt) (v := r6) hr6) gL_refuses_L_call rfl rfl rfl q_L_call ⟨(Nat.le_of_ble_eq_true rfl), (Nat.le_of_ble_eq_true rfl)⟩ rfl rfl (Nat.le_of_ble_eq_true rfl) hl.1 dL_refuses_63 ⟨(Nat.le_of_ble_eq_true rfl), (Nat.le_of_ble_eq_true rfl)⟩) hS (fun r9 H locs σ1 hp7 hM hS => ?_)
      obtain ⟨hr9, hO9, hk8⟩ := hp7
      replace hr9 := hr9.symm
      subst hr9
      replace hO_p0 := hO9
      have hk9 := KEO.tr hk hk8
      refine W.eq (g2 := F0 m 66 ls [.int r6.1]) rfl ?_
      refine lv_ldc (v := -9999002) hx hb hown (hts _ l_L_refuses_0) dL_refuses_66 ?_
      obtain ⟨k10, ek10, h⟩ := bnd_ex h
      have J10 : ∀ (x10_0 : Bool) (t10_p0 : OSt) (H : Heap) (locs : List Loc) (σ1 : mwm), MW z D σ1 H → va_S (zA z) s.heap H locs → OB K ad_p0 σ1 t10_p0 → KEO ad_p0 σ σ1 → k10 x10_0 t10_p0 = some v → ∀ ls : Array Slot, lv_has ls 5 [] → W p l e ({ frames := 75, cells := 24, slots := 144, locals := 3131 } : Room) s m ([.ref (ad_p0 0), .int p1] : List Value).toArray below meth c H locs 24 144 (MQ below (qwI z D (fun r σ2 => r = b2i v.1 ∧ OB K ad_p0 σ2 v.2 ∧ KEO ad_p0 σ σ2)) ([.ref (ad_p0 0), .int p1] : List Value).toArray s 24 144 (zA z)) (F0 m 493 ls [.int (b2i x10_0)]) := by
        intro x10_0 t10_p0 H locs σ1 hM hS hO_p0 hk h ls hl
        rw [ek10] at h
        replace h := Option.some.inj h
        subst h
        exact W.zret (ty := .boolean) (v := b2i x10_0) hx hb hr (b2i_nar _) (fun t ht hW => ⟨⟨_, _, rfl, ⟨rfl, hO_p0, hk⟩, by show MW z D _ t.heap; rw [ht]; exact hM⟩, hS.F ht⟩) hS.2.2 dL_refuses_493 hlocks
      refine lv_icmp_ne (tgt := 492) hx hb dL_refuses_68 (by decide) (fun c11 => ?_) (fun c11 => ?_)
      · replace h := it_neg c11 h
        refine lv_iconst (v := 0) hx hb dL_refuses_492 (by decide) ?_
        refine W.widen (k := 24) (n := 144) (Nat.le_of_ble_eq_true rfl) (Nat.le_of_ble_eq_true rfl) ?_
        refine W.eq (g2 := F0 m 493 ls [.int (b2i false)]) rfl ?_
        exact J10 false r6.2 _ _ _ hM hS hO_p0 hk9 h ls (lv_sub hl [] rfl)
      · replace h := it_pos c11 h
        refine lv_aload_n hx hb dL_refuses_71 rfl (lv_at hl 0 rfl) ?_
        refine lv_iconst (v := 2) hx hb dL_refuses_72 (by decide) ?_
        refine lv_bipush (v := 8) hx hb dL_refuses_73 (by decide) ?_
        refine lv_iload_n hx hb dL_refuses_75 rfl (lv_at hl 1 rfl) ?_
        refine lv_bipush (v := 50) hx hb dL_refuses_76 (by decide) ?_
        refine lv_irem hx hb dL_refuses_78 (by decide) ?_
        refine lv_iadd hx hb dL_refuses_79 ?_
        refine lv_iconst (v := 0) hx hb dL_refuses_80 (by decide) ?_
        refine lv_iconst (v := 0) hx hb dL_refuses_81 (by decide) ?_
        obtain ⟨r12, hr12, h⟩ := ob_some h
        refine mw_wi (my_runS (As := [.ref (ad_p0 0), .int 2, .int (8 + (p1 - p1 / 50 * 50)), .int 0, .int 0]) (rest := []) hC hX hM hS (c_L_call_2 (ad_p0 := ad_p0) (s_p0 := r6.2) (hO_p0 := hO_p0) (hlt := hlt) (v := r12) hr12) gL_refuses_L_call rfl rfl rfl q_L_call ⟨(Nat.le_of_ble_eq_true rfl), (Nat.le_of_ble_eq_true rfl)⟩ rfl rfl (Nat.le_of_ble_eq_true rfl) hl.1 dL_refuses_82 ⟨(Nat.le_of_ble_eq_true rfl), (Nat.le_of_ble_eq_true rfl)⟩) hS (fun r9 H locs σ1 hp13 hM hS => ?_)
        obtain ⟨hr9, hO9, hk14⟩ := hp13
        replace hr9 := hr9.symm
        subst hr9
        replace hO_p0 := hO9
        have hk15 := KEO.tr hk9 hk14
        refine W.eq (g2 := F0 m 85 ls [.int r12]) rfl ?_
        refine lv_ldc (v := -9999002) hx hb hown (hts _ l_L_refuses_0) dL_refuses_85 ?_
        refine lv_icmp_ne (tgt := 492) hx hb dL_refuses_87 (by decide) (fun c16 => ?_) (fun c16 => ?_)
        · replace h := it_neg c16 h
          refine lv_iconst (v := 0) hx hb dL_refuses_492 (by decide) ?_
          refine W.widen (k := 24) (n := 144) (Nat.le_of_ble_eq_true rfl) (Nat.le_of_ble_eq_true rfl) ?_
          refine W.eq (g2 := F0 m 493 ls [.int (b2i false)]) rfl ?_
          exact J10 false r6.2 _ _ _ hM hS hO_p0 hk15 h ls (lv_sub hl [] rfl)
        · replace h := it_pos c16 h
          refine lv_aload_n hx hb dL_refuses_90 rfl (lv_at hl 0 rfl) ?_
          refine lv_iconst (v := 2) hx hb dL_refuses_91 (by decide) ?_
          refine lv_iload_n hx hb dL_refuses_92 rfl (lv_at hl 1 rfl) ?_
          refine lv_bipush (v := 9) hx hb dL_refuses_93 (by decide) ?_
          refine lv_irem hx hb dL_refuses_95 (by decide) ?_
          refine lv_iadd hx hb dL_refuses_96 ?_
          obtain ⟨r17, hr17, h⟩ := ob_some h
          refine mw_wl (mw_runSW (As := [.ref (ad_p0 0), .int (2 + (p1 - p1 / 9 * 9))]) (rest := []) hC hX hM hS (c_L_has (ad_p0 := ad_p0) (s_p0 := r6.2) (hO_p0 := hO_p0) (hlt := hlt) (v := r17) hr17) gL_refuses_L_has rfl rfl rfl q_L_has ⟨(Nat.le_of_ble_eq_true rfl), (Nat.le_of_ble_eq_true rfl)⟩ rfl rfl (Nat.le_of_ble_eq_true rfl) hl.1 dL_refuses_97 ⟨(Nat.le_of_ble_eq_true rfl), (Nat.le_of_ble_eq_true rfl)⟩) hS (fun r9 H locs σ1 hp18 hM hS => ?_)
          obtain ⟨hr9, hO9, hk19⟩ := hp18
          replace hr9 := hr9.symm
          subst hr9
          replace hO_p0 := hO9
          have hk20 := KEO.tr hk15 hk19
          refine W.eq (g2 := F0 m 100 ls [.long r17]) rfl ?_
          refine lv_ldc2 (v := -9999001) hx hb hown (hts _ l_L_refuses_1) dL_refuses_100 ?_
          refine W.lcmp hx hb dL_refuses_103 ?_
          refine lv_if_ne (tgt := 492) hx hb dL_refuses_104 (by decide) (fun c21 => ?_) (fun c21 => ?_)
          · replace c21 := mt (lg_cmp_eq _ _).mpr c21
            replace h := it_neg c21 h
            refine lv_iconst (v := 0) hx hb dL_refuses_492 (by decide) ?_
            refine W.widen (k := 24) (n := 144) (Nat.le_of_ble_eq_true rfl) (Nat.le_of_ble_eq_true rfl) ?_
            refine W.eq (g2 := F0 m 493 ls [.int (b2i false)]) rfl ?_
            exact J10 false r6.2 _ _ _ hM hS hO_p0 hk20 h ls (lv_sub hl [] rfl)
          · replace c21 := (lg_cmp_eq _ _).mp c21
            replace h := it_pos c21 h
            refine lv_aload_n hx hb dL_refuses_107 rfl (lv_at hl 0 rfl) ?_
            refine lv_iconst (v := 3) hx hb dL_refuses_108 (by decide) ?_
            refine lv_iconst (v := 2) hx hb dL_refuses_109 (by decide) ?_
            refine lv_iload_n hx hb dL_refuses_110 rfl (lv_at hl 1 rfl) ?_
            refine lv_bipush (v := 9) hx hb dL_refuses_111 (by decide) ?_
            refine lv_irem hx hb dL_refuses_113 (by decide) ?_
            refine lv_iadd hx hb dL_refuses_114 ?_
            refine lv_bipush (v := 9) hx hb dL_refuses_115 (by decide) ?_
            refine lv_iconst (v := 0) hx hb dL_refuses_117 (by decide) ?_
            obtain ⟨r22, hr22, h⟩ := ob_some h
            refine mw_wi (my_runS (As := [.ref (ad_p0 0), .int 3, .int (2 + (p1 - p1 / 9 * 9)), .int 9, .int 0]) (rest := []) hC hX hM hS (c_L_call_3 (ad_p0 := ad_p0) (s_p0 := r6.2) (hO_p0 := hO_p0) (hlt := hlt) (v := r22) hr22) gL_refuses_L_call rfl rfl rfl q_L_call ⟨(Nat.le_of_ble_eq_true rfl), (Nat.le_of_ble_eq_true rfl)⟩ rfl rfl (Nat.le_of_ble_eq_true rfl) hl.1 dL_refuses_118 ⟨(Nat.le_of_ble_eq_true rfl), (Nat.le_of_ble_eq_true rfl)⟩) hS (fun r9 H locs σ1 hp23 hM hS => ?_)
            obtain ⟨hr9, hO9, hk24⟩ := hp23
            replace hr9 := hr9.symm
            subst hr9
            replace hO_p0 := hO9
            have hk25 := KEO.tr hk20 hk24
            refine W.eq (g2 := F0 m 121 ls [.int r22]) rfl ?_
            refine lv_ldc (v := -9999001) hx hb hown (hts _ l_L_refuses_2) dL_refuses_121 ?_
            refine lv_icmp_ne (tgt := 492) hx hb dL_refuses_123 (by decide) (fun c26 => ?_) (fun c26 => ?_)
            · replace h := it_neg c26 h
              refine lv_iconst (v := 0) hx hb dL_refuses_492 (by decide) ?_
              refine W.widen (k := 24) (n := 144) (Nat.le_of_ble_eq_true rfl) (Nat.le_of_ble_eq_true rfl) ?_
              refine W.eq (g2 := F0 m 493 ls [.int (b2i false)]) rfl ?_
              exact J10 false r6.2 _ _ _ hM hS hO_p0 hk25 h ls (lv_sub hl [] rfl)
            · replace h := it_pos c26 h
              refine lv_aload_n hx hb dL_refuses_126 rfl (lv_at hl 0 rfl) ?_
              refine lv_iconst (v := 3) hx hb dL_refuses_127 (by decide) ?_
              refine lv_iload_n hx hb dL_refuses_128 rfl (lv_at hl 1 rfl) ?_
              refine lv_iconst (v := 2) hx hb dL_refuses_129 (by decide) ?_
              refine lv_irem hx hb dL_refuses_130 (by decide) ?_
              refine lv_bipush (v := 6) hx hb dL_refuses_131 (by decide) ?_
              refine lv_iload_n hx hb dL_refuses_133 rfl (lv_at hl 1 rfl) ?_
              refine lv_bipush (v := 9) hx hb dL_refuses_134 (by decide) ?_
              refine lv_irem hx hb dL_refuses_136 (by decide) ?_
              refine lv_iadd hx hb dL_refuses_137 ?_
              refine lv_iconst (v := 0) hx hb dL_refuses_138 (by decide) ?_
              obtain ⟨r27, hr27, h⟩ := ob_some h
              refine mw_wi (my_runS (As := [.ref (ad_p0 0), .int 3, .int (p1 - p1 / 2 * 2), .int (6 + (p1 - p1 / 9 * 9)), .int 0]) (rest := []) hC hX hM hS (c_L_call_3 (ad_p0 := ad_p0) (s_p0 := r6.2) (hO_p0 := hO_p0) (hlt := hlt) (v := r27) hr27) gL_refuses_L_call rfl rfl rfl q_L_call ⟨(Nat.le_of_ble_eq_true rfl), (Nat.le_of_ble_eq_true rfl)⟩ rfl rfl (Nat.le_of_ble_eq_true rfl) hl.1 dL_refuses_139 ⟨(Nat.le_of_ble_eq_true rfl), (Nat.le_of_ble_eq_true rfl)⟩) hS (fun r9 H locs σ1 hp28 hM hS => ?_)
              obtain ⟨hr9, hO9, hk29⟩ := hp28
              replace hr9 := hr9.symm
              subst hr9
              replace hO_p0 := hO9
              have hk30 := KEO.tr hk25 hk29
              refine W.eq (g2 := F0 m 142 ls [.int r27]) rfl ?_
              refine lv_ldc (v := -9999002) hx hb hown (hts _ l_L_refuses_0) dL_refuses_142 ?_
              refine lv_icmp_ne (tgt := 492) hx hb dL_refuses_144 (by decide) (fun c31 => ?_) (fun c31 => ?_)
              · replace h := it_neg c31 h
                refine lv_iconst (v := 0) hx hb dL_refuses_492 (by decide) ?_
                refine W.widen (k := 24) (n := 144) (Nat.le_of_ble_eq_true rfl) (Nat.le_of_ble_eq_true rfl) ?_
                refine W.eq (g2 := F0 m 493 ls [.int (b2i false)]) rfl ?_
                exact J10 false r6.2 _ _ _ hM hS hO_p0 hk30 h ls (lv_sub hl [] rfl)
              · replace h := it_pos c31 h
                refine lv_aload_n hx hb dL_refuses_147 rfl (lv_at hl 0 rfl) ?_
                refine lv_iconst (v := 4) hx hb dL_refuses_148 (by decide) ?_
                refine lv_iload hx hb dL_refuses_149 (lv_at hl 3 rfl) ?_
                refine lv_bipush (v := 9) hx hb dL_refuses_151 (by decide) ?_
                refine lv_iconst (v := 0) hx hb dL_refuses_153 (by decide) ?_
                obtain ⟨r32, hr32, h⟩ := ob_some h
                refine mw_wi (my_runS (As := [.ref (ad_p0 0), .int 4, .int x4_0, .int 9, .int 0]) (rest := []) hC hX hM hS (c_L_call_4 (ad_p0 := ad_p0) (s_p0 := r6.2) (hO_p0 := hO_p0) (hlt := hlt) (v := r32) hr32) gL_refuses_L_call rfl rfl rfl q_L_call ⟨(Nat.le_of_ble_eq_true rfl), (Nat.le_of_ble_eq_true rfl)⟩ rfl rfl (Nat.le_of_ble_eq_true rfl) hl.1 dL_refuses_154 ⟨(Nat.le_of_ble_eq_true rfl), (Nat.le_of_ble_eq_true rfl)⟩) hS (fun r9 H locs σ1 hp33 hM hS => ?_)
                obtain ⟨hr9, hO9, hk34⟩ := hp33
                replace hr9 := hr9.symm
                subst hr9
                replace hO_p0 := hO9
                have hk35 := KEO.tr hk30 hk34
                refine W.eq (g2 := F0 m 157 ls [.int r32]) rfl ?_
                refine lv_ldc (v := -9999001) hx hb hown (hts _ l_L_refuses_2) dL_refuses_157 ?_
                refine lv_icmp_ne (tgt := 492) hx hb dL_refuses_159 (by decide) (fun c36 => ?_) (fun c36 => ?_)
                · replace h := it_neg c36 h
                  refine lv_iconst (v := 0) hx hb dL_refuses_492 (by decide) ?_
                  refine W.widen (k := 24) (n := 144) (Nat.le_of_ble_eq_true rfl) (Nat.le_of_ble_eq_true rfl) ?_
                  refine W.eq (g2 := F0 m 493 ls [.int (b2i false)]) rfl ?_
                  exact J10 false r6.2 _ _ _ hM hS hO_p0 hk35 h ls (lv_sub hl [] rfl)
                · replace h := it_pos c36 h
                  refine lv_aload_n hx hb dL_refuses_162 rfl (lv_at hl 0 rfl) ?_
                  refine lv_iconst (v := 4) hx hb dL_refuses_163 (by decide) ?_
                  refine lv_iload_n hx hb dL_refuses_164 rfl (lv_at hl 1 rfl) ?_
                  refine lv_iload_n hx hb dL_refuses_165 rfl (lv_at hl 2 rfl) ?_
                  by_cases c37 : (r1 * r1) = 0
                  · replace h := it_pos c37 h; cases h
                  replace h := it_neg c37 h
                  refine lv_irem hx hb dL_refuses_166 c37 ?_
                  refine lv_bipush (v := 6) hx hb dL_refuses_167 (by decide) ?_
                  refine lv_iload_n hx hb dL_refuses_169 rfl (lv_at hl 1 rfl) ?_
                  refine lv_bipush (v := 9) hx hb dL_refuses_170 (by decide) ?_
                  refine lv_irem hx hb dL_refuses_172 (by decide) ?_
                  refine lv_iadd hx hb dL_refuses_173 ?_
                  refine lv_iconst (v := 0) hx hb dL_refuses_174 (by decide) ?_
                  obtain ⟨r38, hr38, h⟩ := ob_some h
                  refine mw_wi (my_runS (As := [.ref (ad_p0 0), .int 4, .int (p1 - p1 / (r1 * r1) * (r1 * r1)), .int (6 + (p1 - p1 / 9 * 9)), .int 0]) (rest := []) hC hX hM hS (c_L_call_4 (ad_p0 := ad_p0) (s_p0 := r6.2) (hO_p0 := hO_p0) (hlt := hlt) (v := r38) hr38) gL_refuses_L_call rfl rfl rfl q_L_call ⟨(Nat.le_of_ble_eq_true rfl), (Nat.le_of_ble_eq_true rfl)⟩ rfl rfl (Nat.le_of_ble_eq_true rfl) hl.1 dL_refuses_175 ⟨(Nat.le_of_ble_eq_true rfl), (Nat.le_of_ble_eq_true rfl)⟩) hS (fun r9 H locs σ1 hp39 hM hS => ?_)
                  obtain ⟨hr9, hO9, hk40⟩ := hp39
                  replace hr9 := hr9.symm
                  subst hr9
                  replace hO_p0 := hO9
                  have hk41 := KEO.tr hk35 hk40
                  refine W.eq (g2 := F0 m 178 ls [.int r38]) rfl ?_
                  refine lv_ldc (v := -9999002) hx hb hown (hts _ l_L_refuses_0) dL_refuses_178 ?_
                  refine lv_icmp_ne (tgt := 492) hx hb dL_refuses_180 (by decide) (fun c42 => ?_) (fun c42 => ?_)
                  · replace h := it_neg c42 h
                    refine lv_iconst (v := 0) hx hb dL_refuses_492 (by decide) ?_
                    refine W.widen (k := 24) (n := 144) (Nat.le_of_ble_eq_true rfl) (Nat.le_of_ble_eq_true rfl) ?_
                    refine W.eq (g2 := F0 m 493 ls [.int (b2i false)]) rfl ?_
                    exact J10 false r6.2 _ _ _ hM hS hO_p0 hk41 h ls (lv_sub hl [] rfl)
                  · replace h := it_pos c42 h
                    refine lv_aload_n hx hb dL_refuses_183 rfl (lv_at hl 0 rfl) ?_
                    refine lv_iload hx hb dL_refuses_184 (lv_at hl 3 rfl) ?_
                    refine lv_bipush (v := 9) hx hb dL_refuses_186 (by decide) ?_
                    obtain ⟨r43, hr43, h⟩ := ob_some h
                    refine mw_wl (mw_runSW (As := [.ref (ad_p0 0), .int x4_0, .int 9]) (rest := []) hC hX hM hS (c_L_groups (ad_p0 := ad_p0) (s_p0 := r6.2) (hO_p0 := hO_p0) (hlt := hlt) (v := r43) hr43) gL_refuses_L_groups rfl rfl rfl q_L_groups ⟨(Nat.le_of_ble_eq_true rfl), (Nat.le_of_ble_eq_true rfl)⟩ rfl rfl (Nat.le_of_ble_eq_true rfl) hl.1 dL_refuses_188 ⟨(Nat.le_of_ble_eq_true rfl), (Nat.le_of_ble_eq_true rfl)⟩) hS (fun r9 H locs σ1 hp44 hM hS => ?_)
                    obtain ⟨hr9, hO9, hk45⟩ := hp44
                    replace hr9 := hr9.symm
                    subst hr9
                    replace hO_p0 := hO9
                    have hk46 := KEO.tr hk41 hk45
                    refine W.eq (g2 := F0 m 191 ls [.long r43]) rfl ?_
                    refine lv_ldc2 (v := -9999001) hx hb hown (hts _ l_L_refuses_1) dL_refuses_191 ?_
                    refine W.lcmp hx hb dL_refuses_194 ?_
                    refine lv_if_ne (tgt := 492) hx hb dL_refuses_195 (by decide) (fun c47 => ?_) (fun c47 => ?_)
                    · replace c47 := mt (lg_cmp_eq _ _).mpr c47
                      replace h := it_neg c47 h
                      refine lv_iconst (v := 0) hx hb dL_refuses_492 (by decide) ?_
                      refine W.widen (k := 24) (n := 144) (Nat.le_of_ble_eq_true rfl) (Nat.le_of_ble_eq_true rfl) ?_
                      refine W.eq (g2 := F0 m 493 ls [.int (b2i false)]) rfl ?_
                      exact J10 false r6.2 _ _ _ hM hS hO_p0 hk46 h ls (lv_sub hl [] rfl)
                    · replace c47 := (lg_cmp_eq _ _).mp c47
                      replace h := it_pos c47 h
                      refine lv_aload_n hx hb dL_refuses_198 rfl (lv_at hl 0 rfl) ?_
                      refine lv_iload_n hx hb dL_refuses_199 rfl (lv_at hl 1 rfl) ?_
                      refine lv_iload_n hx hb dL_refuses_200 rfl (lv_at hl 2 rfl) ?_
                      by_cases c48 : (r1 * r1) = 0
                      · replace h := it_pos c48 h; cases h
                      replace h := it_neg c48 h
                      refine lv_irem hx hb dL_refuses_201 c48 ?_
                      refine lv_iconst (v := 2) hx hb dL_refuses_202 (by decide) ?_
                      refine lv_iload_n hx hb dL_refuses_203 rfl (lv_at hl 1 rfl) ?_
                      refine lv_bipush (v := 9) hx hb dL_refuses_204 (by decide) ?_
                      refine lv_irem hx hb dL_refuses_206 (by decide) ?_
                      refine lv_iadd hx hb dL_refuses_207 ?_
                      obtain ⟨r49, hr49, h⟩ := ob_some h
                      refine mw_wl (mw_runSW (As := [.ref (ad_p0 0), .int (p1 - p1 / (r1 * r1) * (r1 * r1)), .int (2 + (p1 - p1 / 9 * 9))]) (rest := []) hC hX hM hS (c_L_groups (ad_p0 := ad_p0) (s_p0 := r6.2) (hO_p0 := hO_p0) (hlt := hlt) (v := r49) hr49) gL_refuses_L_groups rfl rfl rfl q_L_groups ⟨(Nat.le_of_ble_eq_true rfl), (Nat.le_of_ble_eq_true rfl)⟩ rfl rfl (Nat.le_of_ble_eq_true rfl) hl.1 dL_refuses_208 ⟨(Nat.le_of_ble_eq_true rfl), (Nat.le_of_ble_eq_true rfl)⟩) hS (fun r9 H locs σ1 hp50 hM hS => ?_)
                      obtain ⟨hr9, hO9, hk51⟩ := hp50
                      replace hr9 := hr9.symm
                      subst hr9
                      replace hO_p0 := hO9
                      have hk52 := KEO.tr hk46 hk51
                      refine W.eq (g2 := F0 m 211 ls [.long r49]) rfl ?_
                      refine lv_ldc2 (v := -9999002) hx hb hown (hts _ l_L_refuses_3) dL_refuses_211 ?_
                      refine W.lcmp hx hb dL_refuses_214 ?_
                      refine lv_if_ne (tgt := 492) hx hb dL_refuses_215 (by decide) (fun c53 => ?_) (fun c53 => ?_)
                      · replace c53 := mt (lg_cmp_eq _ _).mpr c53
                        replace h := it_neg c53 h
                        refine lv_iconst (v := 0) hx hb dL_refuses_492 (by decide) ?_
                        refine W.widen (k := 24) (n := 144) (Nat.le_of_ble_eq_true rfl) (Nat.le_of_ble_eq_true rfl) ?_
                        refine W.eq (g2 := F0 m 493 ls [.int (b2i false)]) rfl ?_
                        exact J10 false r6.2 _ _ _ hM hS hO_p0 hk52 h ls (lv_sub hl [] rfl)
                      · replace c53 := (lg_cmp_eq _ _).mp c53
                        replace h := it_pos c53 h
                        refine lv_aload_n hx hb dL_refuses_218 rfl (lv_at hl 0 rfl) ?_
                        refine lv_iconst (v := 5) hx hb dL_refuses_219 (by decide) ?_
                        refine lv_iload hx hb dL_refuses_220 (lv_at hl 3 rfl) ?_
                        refine lv_iconst (v := 0) hx hb dL_refuses_222 (by decide) ?_
                        refine lv_iconst (v := 0) hx hb dL_refuses_223 (by decide) ?_
                        obtain ⟨r54, hr54, h⟩ := ob_some h
                        refine mw_wi (my_runS (As := [.ref (ad_p0 0), .int 5, .int x4_0, .int 0, .int 0]) (rest := []) hC hX hM hS (c_L_call_5 (ad_p0 := ad_p0) (s_p0 := r6.2) (hO_p0 := hO_p0) (hlt := hlt) (v := r54) hr54) gL_refuses_L_call rfl rfl rfl q_L_call ⟨(Nat.le_of_ble_eq_true rfl), (Nat.le_of_ble_eq_true rfl)⟩ rfl rfl (Nat.le_of_ble_eq_true rfl) hl.1 dL_refuses_224 ⟨(Nat.le_of_ble_eq_true rfl), (Nat.le_of_ble_eq_true rfl)⟩) hS (fun r9 H locs σ1 hp55 hM hS => ?_)
                        obtain ⟨hr9, hO9, hk56⟩ := hp55
                        replace hr9 := hr9.symm
                        subst hr9
                        replace hO_p0 := hO9
                        have hk57 := KEO.tr hk52 hk56
                        refine W.eq (g2 := F0 m 227 ls [.int r54]) rfl ?_
                        refine lv_ldc (v := -9999001) hx hb hown (hts _ l_L_refuses_2) dL_refuses_227 ?_
                        refine lv_icmp_ne (tgt := 492) hx hb dL_refuses_229 (by decide) (fun c58 => ?_) (fun c58 => ?_)
                        · replace h := it_neg c58 h
                          refine lv_iconst (v := 0) hx hb dL_refuses_492 (by decide) ?_
                          refine W.widen (k := 24) (n := 144) (Nat.le_of_ble_eq_true rfl) (Nat.le_of_ble_eq_true rfl) ?_
                          refine W.eq (g2 := F0 m 493 ls [.int (b2i false)]) rfl ?_
                          exact J10 false r6.2 _ _ _ hM hS hO_p0 hk57 h ls (lv_sub hl [] rfl)
                        · replace h := it_pos c58 h
                          refine lv_aload_n hx hb dL_refuses_232 rfl (lv_at hl 0 rfl) ?_
                          refine lv_bipush (v := 6) hx hb dL_refuses_233 (by decide) ?_
                          refine lv_iload_n hx hb dL_refuses_235 rfl (lv_at hl 1 rfl) ?_
                          refine lv_iconst (v := 2) hx hb dL_refuses_236 (by decide) ?_
                          refine lv_irem hx hb dL_refuses_237 (by decide) ?_
                          obtain ⟨k59, ek59, h⟩ := bnd_ex h
                          have J59 : ∀ (x59_0 : Int32) (H : Heap) (locs : List Loc) (σ1 : mwm), MW z D σ1 H → va_S (zA z) s.heap H locs → OB K ad_p0 σ1 r6.2 → KEO ad_p0 σ σ1 → k59 x59_0 = some v → ∀ ls : Array Slot, lv_has ls 5 [(0, .ref (ad_p0 0)), (1, .int p1), (3, .int (r1 * r1)), (4, .int x4_0)] → W p l e ({ frames := 75, cells := 24, slots := 144, locals := 3131 } : Room) s m ([.ref (ad_p0 0), .int p1] : List Value).toArray below meth c H locs 11 66 (MQ below (qwI z D (fun r σ2 => r = b2i v.1 ∧ OB K ad_p0 σ2 v.2 ∧ KEO ad_p0 σ σ2)) ([.ref (ad_p0 0), .int p1] : List Value).toArray s 24 144 (zA z)) (F0 m 257 ls [.int x59_0, .int 6, .ref (ad_p0 0)]) := by
                            intro x59_0 H locs σ1 hM hS hO_p0 hk h ls hl
                            rw [ek59] at h
                            refine lv_iconst (v := 0) hx hb dL_refuses_257 (by decide) ?_
                            refine lv_iconst (v := 0) hx hb dL_refuses_258 (by decide) ?_
                            obtain ⟨r60, hr60, h⟩ := ob_some h
                            refine mw_wi (my_runS (As := [.ref (ad_p0 0), .int 6, .int x59_0, .int 0, .int 0]) (rest := []) hC hX hM hS (c_L_call_6 (ad_p0 := ad_p0) (s_p0 := r6.2) (hO_p0 := hO_p0) (hlt := hlt) (v := r60) hr60) gL_refuses_L_call rfl rfl rfl q_L_call ⟨(Nat.le_of_ble_eq_true rfl), (Nat.le_of_ble_eq_true rfl)⟩ rfl rfl (Nat.le_of_ble_eq_true rfl) hl.1 dL_refuses_259 ⟨(Nat.le_of_ble_eq_true rfl), (Nat.le_of_ble_eq_true rfl)⟩) hS (fun r9 H locs σ1 hp61 hM hS => ?_)
                            obtain ⟨hr9, hO9, hk62⟩ := hp61
                            replace hr9 := hr9.symm
                            subst hr9
                            replace hO_p0 := hO9
                            have hk63 := KEO.tr hk hk62
                            refine W.eq (g2 := F0 m 262 ls [.int r60.1]) rfl ?_
                            refine lv_ldc (v := -9999002) hx hb hown (hts _ l_L_refuses_0) dL_refuses_262 ?_
                            refine lv_icmp_ne (tgt := 492) hx hb dL_refuses_264 (by decide) (fun c64 => ?_) (fun c64 => ?_)
                            · replace h := it_neg c64 h
                              refine lv_iconst (v := 0) hx hb dL_refuses_492 (by decide) ?_
                              refine W.widen (k := 24) (n := 144) (Nat.le_of_ble_eq_true rfl) (Nat.le_of_ble_eq_true rfl) ?_
                              refine W.eq (g2 := F0 m 493 ls [.int (b2i false)]) rfl ?_
                              exact J10 false r60.2 _ _ _ hM hS hO_p0 hk63 h ls (lv_sub hl [] rfl)
                            · replace h := it_pos c64 h
                              refine lv_aload_n hx hb dL_refuses_267 rfl (lv_at hl 0 rfl) ?_
                              refine lv_bipush (v := 7) hx hb dL_refuses_268 (by decide) ?_
                              refine lv_iload hx hb dL_refuses_270 (lv_at hl 3 rfl) ?_
                              refine lv_iconst (v := 0) hx hb dL_refuses_272 (by decide) ?_
                              refine lv_iconst (v := 0) hx hb dL_refuses_273 (by decide) ?_
                              obtain ⟨r65, hr65, h⟩ := ob_some h
                              refine mw_wi (my_runS (As := [.ref (ad_p0 0), .int 7, .int x4_0, .int 0, .int 0]) (rest := []) hC hX hM hS (c_L_call_7 (ad_p0 := ad_p0) (s_p0 := r60.2) (hO_p0 := hO_p0) (hlt := hlt) (v := r65) hr65) gL_refuses_L_call rfl rfl rfl q_L_call ⟨(Nat.le_of_ble_eq_true rfl), (Nat.le_of_ble_eq_true rfl)⟩ rfl rfl (Nat.le_of_ble_eq_true rfl) hl.1 dL_refuses_274 ⟨(Nat.le_of_ble_eq_true rfl), (Nat.le_of_ble_eq_true rfl)⟩) hS (fun r9 H locs σ1 hp66 hM hS => ?_)
                              obtain ⟨hr9, hO9, hk67⟩ := hp66
                              replace hr9 := hr9.symm
                              subst hr9
                              replace hO_p0 := hO9
                              have hk68 := KEO.tr hk63 hk67
                              refine W.eq (g2 := F0 m 277 ls [.int r65.1]) rfl ?_
                              refine lv_ldc (v := -9999001) hx hb hown (hts _ l_L_refuses_2) dL_refuses_277 ?_
                              refine lv_icmp_ne (tgt := 492) hx hb dL_refuses_279 (by decide) (fun c69 => ?_) (fun c69 => ?_)
                              · replace h := it_neg c69 h
                                refine lv_iconst (v := 0) hx hb dL_refuses_492 (by decide) ?_
                                refine W.widen (k := 24) (n := 144) (Nat.le_of_ble_eq_true rfl) (Nat.le_of_ble_eq_true rfl) ?_
                                refine W.eq (g2 := F0 m 493 ls [.int (b2i false)]) rfl ?_
                                exact J10 false r65.2 _ _ _ hM hS hO_p0 hk68 h ls (lv_sub hl [] rfl)
                              · replace h := it_pos c69 h
                                refine lv_aload_n hx hb dL_refuses_282 rfl (lv_at hl 0 rfl) ?_
                                refine lv_bipush (v := 9) hx hb dL_refuses_283 (by decide) ?_
                                refine lv_iload_n hx hb dL_refuses_285 rfl (lv_at hl 1 rfl) ?_
                                refine lv_iconst (v := 2) hx hb dL_refuses_286 (by decide) ?_
                                refine lv_irem hx hb dL_refuses_287 (by decide) ?_
                                obtain ⟨k70, ek70, h⟩ := bnd_ex h
                                have J70 : ∀ (x70_0 : Int32) (H : Heap) (locs : List Loc) (σ1 : mwm), MW z D σ1 H → va_S (zA z) s.heap H locs → OB K ad_p0 σ1 r65.2 → KEO ad_p0 σ σ1 → k70 x70_0 = some v → ∀ ls : Array Slot, lv_has ls 5 [(0, .ref (ad_p0 0)), (1, .int p1), (3, .int (r1 * r1)), (4, .int x4_0)] → W p l e ({ frames := 75, cells := 24, slots := 144, locals := 3131 } : Room) s m ([.ref (ad_p0 0), .int p1] : List Value).toArray below meth c H locs 13 78 (MQ below (qwI z D (fun r σ2 => r = b2i v.1 ∧ OB K ad_p0 σ2 v.2 ∧ KEO ad_p0 σ σ2)) ([.ref (ad_p0 0), .int p1] : List Value).toArray s 24 144 (zA z)) (F0 m 306 ls [.int x70_0, .int 9, .ref (ad_p0 0)]) := by
                                  intro x70_0 H locs σ1 hM hS hO_p0 hk h ls hl
                                  rw [ek70] at h
                                  refine lv_iconst (v := 0) hx hb dL_refuses_306 (by decide) ?_
                                  refine lv_iconst (v := 0) hx hb dL_refuses_307 (by decide) ?_
                                  obtain ⟨r71, hr71, h⟩ := ob_some h
                                  refine mw_wi (my_runS (As := [.ref (ad_p0 0), .int 9, .int x70_0, .int 0, .int 0]) (rest := []) hC hX hM hS (c_L_call_9 (ad_p0 := ad_p0) (s_p0 := r65.2) (hO_p0 := hO_p0) (hlt := hlt) (v := r71) hr71) gL_refuses_L_call rfl rfl rfl q_L_call ⟨(Nat.le_of_ble_eq_true rfl), (Nat.le_of_ble_eq_true rfl)⟩ rfl rfl (Nat.le_of_ble_eq_true rfl) hl.1 dL_refuses_308 ⟨(Nat.le_of_ble_eq_true rfl), (Nat.le_of_ble_eq_true rfl)⟩) hS (fun r9 H locs σ1 hp72 hM hS => ?_)
                                  obtain ⟨hr9, hO9, hk73⟩ := hp72
                                  replace hr9 := hr9.symm
                                  subst hr9
                                  replace hO_p0 := hO9
                                  have hk74 := KEO.tr hk hk73
                                  refine W.eq (g2 := F0 m 311 ls [.int r71.1]) rfl ?_
                                  refine lv_ldc (v := -9999002) hx hb hown (hts _ l_L_refuses_0) dL_refuses_311 ?_
                                  refine lv_icmp_ne (tgt := 492) hx hb dL_refuses_313 (by decide) (fun c75 => ?_) (fun c75 => ?_)
                                  · replace h := it_neg c75 h
                                    refine lv_iconst (v := 0) hx hb dL_refuses_492 (by decide) ?_
                                    refine W.widen (k := 24) (n := 144) (Nat.le_of_ble_eq_true rfl) (Nat.le_of_ble_eq_true rfl) ?_
                                    refine W.eq (g2 := F0 m 493 ls [.int (b2i false)]) rfl ?_
                                    exact J10 false r71.2 _ _ _ hM hS hO_p0 hk74 h ls (lv_sub hl [] rfl)
                                  · replace h := it_pos c75 h
                                    refine lv_aload_n hx hb dL_refuses_316 rfl (lv_at hl 0 rfl) ?_
                                    refine lv_bipush (v := 11) hx hb dL_refuses_317 (by decide) ?_
                                    refine lv_iload hx hb dL_refuses_319 (lv_at hl 3 rfl) ?_
                                    refine lv_bipush (v := 9) hx hb dL_refuses_321 (by decide) ?_
                                    refine lv_iconst (v := 0) hx hb dL_refuses_323 (by decide) ?_
                                    obtain ⟨r76, hr76, h⟩ := ob_some h
                                    refine mw_wi (my_runS (As := [.ref (ad_p0 0), .int 11, .int x4_0, .int 9, .int 0]) (rest := []) hC hX hM hS (c_L_call_11 (ad_p0 := ad_p0) (s_p0 := r71.2) (hO_p0 := hO_p0) (hlt := hlt) (v := r76) hr76) gL_refuses_L_call rfl rfl rfl q_L_call ⟨(Nat.le_of_ble_eq_true rfl), (Nat.le_of_ble_eq_true rfl)⟩ rfl rfl (Nat.le_of_ble_eq_true rfl) hl.1 dL_refuses_324 ⟨(Nat.le_of_ble_eq_true rfl), (Nat.le_of_ble_eq_true rfl)⟩) hS (fun r9 H locs σ1 hp77 hM hS => ?_)
                                    obtain ⟨hr9, hO9, hk78⟩ := hp77
                                    replace hr9 := hr9.symm
                                    subst hr9
                                    replace hO_p0 := hO9
                                    have hk79 := KEO.tr hk74 hk78
                                    refine W.eq (g2 := F0 m 327 ls [.int r76]) rfl ?_
                                    refine lv_ldc (v := -9999001) hx hb hown (hts _ l_L_refuses_2) dL_refuses_327 ?_
                                    refine lv_icmp_ne (tgt := 492) hx hb dL_refuses_329 (by decide) (fun c80 => ?_) (fun c80 => ?_)
                                    · replace h := it_neg c80 h
                                      refine lv_iconst (v := 0) hx hb dL_refuses_492 (by decide) ?_
                                      refine W.widen (k := 24) (n := 144) (Nat.le_of_ble_eq_true rfl) (Nat.le_of_ble_eq_true rfl) ?_
                                      refine W.eq (g2 := F0 m 493 ls [.int (b2i false)]) rfl ?_
                                      exact J10 false r71.2 _ _ _ hM hS hO_p0 hk79 h ls (lv_sub hl [] rfl)
                                    · replace h := it_pos c80 h
                                      refine lv_aload_n hx hb dL_refuses_332 rfl (lv_at hl 0 rfl) ?_
                                      refine lv_bipush (v := 11) hx hb dL_refuses_333 (by decide) ?_
                                      refine lv_iload_n hx hb dL_refuses_335 rfl (lv_at hl 1 rfl) ?_
                                      refine lv_iload_n hx hb dL_refuses_336 rfl (lv_at hl 2 rfl) ?_
                                      by_cases c81 : (r1 * r1) = 0
                                      · replace h := it_pos c81 h; cases h
                                      replace h := it_neg c81 h
                                      refine lv_irem hx hb dL_refuses_337 c81 ?_
                                      refine lv_iconst (v := 4) hx hb dL_refuses_338 (by decide) ?_
                                      refine lv_iload_n hx hb dL_refuses_339 rfl (lv_at hl 1 rfl) ?_
                                      refine lv_bipush (v := 9) hx hb dL_refuses_340 (by decide) ?_
                                      refine lv_irem hx hb dL_refuses_342 (by decide) ?_
                                      refine lv_iadd hx hb dL_refuses_343 ?_
                                      refine lv_iconst (v := 0) hx hb dL_refuses_344 (by decide) ?_
                                      obtain ⟨r82, hr82, h⟩ := ob_some h
                                      refine mw_wi (my_runS (As := [.ref (ad_p0 0), .int 11, .int (p1 - p1 / (r1 * r1) * (r1 * r1)), .int (4 + (p1 - p1 / 9 * 9)), .int 0]) (rest := []) hC hX hM hS (c_L_call_11 (ad_p0 := ad_p0) (s_p0 := r71.2) (hO_p0 := hO_p0) (hlt := hlt) (v := r82) hr82) gL_refuses_L_call rfl rfl rfl q_L_call ⟨(Nat.le_of_ble_eq_true rfl), (Nat.le_of_ble_eq_true rfl)⟩ rfl rfl (Nat.le_of_ble_eq_true rfl) hl.1 dL_refuses_345 ⟨(Nat.le_of_ble_eq_true rfl), (Nat.le_of_ble_eq_true rfl)⟩) hS (fun r9 H locs σ1 hp83 hM hS => ?_)
                                      obtain ⟨hr9, hO9, hk84⟩ := hp83
                                      replace hr9 := hr9.symm
                                      subst hr9
                                      replace hO_p0 := hO9
                                      have hk85 := KEO.tr hk79 hk84
                                      refine W.eq (g2 := F0 m 348 ls [.int r82]) rfl ?_
                                      refine lv_ldc (v := -9999002) hx hb hown (hts _ l_L_refuses_0) dL_refuses_348 ?_
                                      refine lv_icmp_ne (tgt := 492) hx hb dL_refuses_350 (by decide) (fun c86 => ?_) (fun c86 => ?_)
                                      · replace h := it_neg c86 h
                                        refine lv_iconst (v := 0) hx hb dL_refuses_492 (by decide) ?_
                                        refine W.widen (k := 24) (n := 144) (Nat.le_of_ble_eq_true rfl) (Nat.le_of_ble_eq_true rfl) ?_
                                        refine W.eq (g2 := F0 m 493 ls [.int (b2i false)]) rfl ?_
                                        exact J10 false r71.2 _ _ _ hM hS hO_p0 hk85 h ls (lv_sub hl [] rfl)
                                      · replace h := it_pos c86 h
                                        refine lv_aload_n hx hb dL_refuses_353 rfl (lv_at hl 0 rfl) ?_
                                        refine lv_bipush (v := 12) hx hb dL_refuses_354 (by decide) ?_
                                        refine lv_iload hx hb dL_refuses_356 (lv_at hl 3 rfl) ?_
                                        refine lv_bipush (v := 9) hx hb dL_refuses_358 (by decide) ?_
                                        refine lv_iconst (v := 0) hx hb dL_refuses_360 (by decide) ?_
                                        obtain ⟨r87, hr87, h⟩ := ob_some h
                                        refine mw_wi (my_runS (As := [.ref (ad_p0 0), .int 12, .int x4_0, .int 9, .int 0]) (rest := []) hC hX hM hS (c_L_call_12 (ad_p0 := ad_p0) (s_p0 := r71.2) (hO_p0 := hO_p0) (hlt := hlt) (v := r87) hr87) gL_refuses_L_call rfl rfl rfl q_L_call ⟨(Nat.le_of_ble_eq_true rfl), (Nat.le_of_ble_eq_true rfl)⟩ rfl rfl (Nat.le_of_ble_eq_true rfl) hl.1 dL_refuses_361 ⟨(Nat.le_of_ble_eq_true rfl), (Nat.le_of_ble_eq_true rfl)⟩) hS (fun r9 H locs σ1 hp88 hM hS => ?_)
                                        obtain ⟨hr9, hO9, hk89⟩ := hp88
                                        replace hr9 := hr9.symm
                                        subst hr9
                                        replace hO_p0 := hO9
                                        have hk90 := KEO.tr hk85 hk89
                                        refine W.eq (g2 := F0 m 364 ls [.int r87]) rfl ?_
                                        refine lv_ldc (v := -9999001) hx hb hown (hts _ l_L_refuses_2) dL_refuses_364 ?_
                                        refine lv_icmp_ne (tgt := 492) hx hb dL_refuses_366 (by decide) (fun c91 => ?_) (fun c91 => ?_)
                                        · replace h := it_neg c91 h
                                          refine lv_iconst (v := 0) hx hb dL_refuses_492 (by decide) ?_
                                          refine W.widen (k := 24) (n := 144) (Nat.le_of_ble_eq_true rfl) (Nat.le_of_ble_eq_true rfl) ?_
                                          refine W.eq (g2 := F0 m 493 ls [.int (b2i false)]) rfl ?_
                                          exact J10 false r71.2 _ _ _ hM hS hO_p0 hk90 h ls (lv_sub hl [] rfl)
                                        · replace h := it_pos c91 h
                                          refine lv_aload_n hx hb dL_refuses_369 rfl (lv_at hl 0 rfl) ?_
                                          refine lv_bipush (v := 12) hx hb dL_refuses_370 (by decide) ?_
                                          refine lv_iload_n hx hb dL_refuses_372 rfl (lv_at hl 1 rfl) ?_
                                          refine lv_iload_n hx hb dL_refuses_373 rfl (lv_at hl 2 rfl) ?_
                                          by_cases c92 : (r1 * r1) = 0
                                          · replace h := it_pos c92 h; cases h
                                          replace h := it_neg c92 h
                                          refine lv_irem hx hb dL_refuses_374 c92 ?_
                                          refine lv_iconst (v := 2) hx hb dL_refuses_375 (by decide) ?_
                                          refine lv_iload_n hx hb dL_refuses_376 rfl (lv_at hl 1 rfl) ?_
                                          refine lv_bipush (v := 9) hx hb dL_refuses_377 (by decide) ?_
                                          refine lv_irem hx hb dL_refuses_379 (by decide) ?_
                                          refine lv_iadd hx hb dL_refuses_380 ?_
                                          refine lv_iconst (v := 0) hx hb dL_refuses_381 (by decide) ?_
                                          obtain ⟨r93, hr93, h⟩ := ob_some h
                                          refine mw_wi (my_runS (As := [.ref (ad_p0 0), .int 12, .int (p1 - p1 / (r1 * r1) * (r1 * r1)), .int (2 + (p1 - p1 / 9 * 9)), .int 0]) (rest := []) hC hX hM hS (c_L_call_12 (ad_p0 := ad_p0) (s_p0 := r71.2) (hO_p0 := hO_p0) (hlt := hlt) (v := r93) hr93) gL_refuses_L_call rfl rfl rfl q_L_call ⟨(Nat.le_of_ble_eq_true rfl), (Nat.le_of_ble_eq_true rfl)⟩ rfl rfl (Nat.le_of_ble_eq_true rfl) hl.1 dL_refuses_382 ⟨(Nat.le_of_ble_eq_true rfl), (Nat.le_of_ble_eq_true rfl)⟩) hS (fun r9 H locs σ1 hp94 hM hS => ?_)
                                          obtain ⟨hr9, hO9, hk95⟩ := hp94
                                          replace hr9 := hr9.symm
                                          subst hr9
                                          replace hO_p0 := hO9
                                          have hk96 := KEO.tr hk90 hk95
                                          refine W.eq (g2 := F0 m 385 ls [.int r93]) rfl ?_
                                          refine lv_ldc (v := -9999002) hx hb hown (hts _ l_L_refuses_0) dL_refuses_385 ?_
                                          refine lv_icmp_ne (tgt := 492) hx hb dL_refuses_387 (by decide) (fun c97 => ?_) (fun c97 => ?_)
                                          · replace h := it_neg c97 h
                                            refine lv_iconst (v := 0) hx hb dL_refuses_492 (by decide) ?_
                                            refine W.widen (k := 24) (n := 144) (Nat.le_of_ble_eq_true rfl) (Nat.le_of_ble_eq_true rfl) ?_
                                            refine W.eq (g2 := F0 m 493 ls [.int (b2i false)]) rfl ?_
                                            exact J10 false r71.2 _ _ _ hM hS hO_p0 hk96 h ls (lv_sub hl [] rfl)
                                          · replace h := it_pos c97 h
                                            refine lv_aload_n hx hb dL_refuses_390 rfl (lv_at hl 0 rfl) ?_
                                            refine lv_bipush (v := 13) hx hb dL_refuses_391 (by decide) ?_
                                            refine lv_iload hx hb dL_refuses_393 (lv_at hl 3 rfl) ?_
                                            refine lv_iconst (v := 0) hx hb dL_refuses_395 (by decide) ?_
                                            refine lv_iconst (v := 0) hx hb dL_refuses_396 (by decide) ?_
                                            obtain ⟨r98, hr98, h⟩ := ob_some h
                                            refine mw_wi (my_runS (As := [.ref (ad_p0 0), .int 13, .int x4_0, .int 0, .int 0]) (rest := []) hC hX hM hS (c_L_call_13 (ad_p0 := ad_p0) (s_p0 := r71.2) (hO_p0 := hO_p0) (hlt := hlt) (v := r98) hr98) gL_refuses_L_call rfl rfl rfl q_L_call ⟨(Nat.le_of_ble_eq_true rfl), (Nat.le_of_ble_eq_true rfl)⟩ rfl rfl (Nat.le_of_ble_eq_true rfl) hl.1 dL_refuses_397 ⟨(Nat.le_of_ble_eq_true rfl), (Nat.le_of_ble_eq_true rfl)⟩) hS (fun r9 H locs σ1 hp99 hM hS => ?_)
                                            obtain ⟨hr9, hO9, hk100⟩ := hp99
                                            replace hr9 := hr9.symm
                                            subst hr9
                                            replace hO_p0 := hO9
                                            have hk101 := KEO.tr hk96 hk100
                                            refine W.eq (g2 := F0 m 400 ls [.int r98]) rfl ?_
                                            refine lv_ldc (v := -9999001) hx hb hown (hts _ l_L_refuses_2) dL_refuses_400 ?_
                                            refine lv_icmp_ne (tgt := 492) hx hb dL_refuses_402 (by decide) (fun c102 => ?_) (fun c102 => ?_)
                                            · replace h := it_neg c102 h
                                              refine lv_iconst (v := 0) hx hb dL_refuses_492 (by decide) ?_
                                              refine W.widen (k := 24) (n := 144) (Nat.le_of_ble_eq_true rfl) (Nat.le_of_ble_eq_true rfl) ?_
                                              refine W.eq (g2 := F0 m 493 ls [.int (b2i false)]) rfl ?_
                                              exact J10 false r71.2 _ _ _ hM hS hO_p0 hk101 h ls (lv_sub hl [] rfl)
                                            · replace h := it_pos c102 h
                                              refine lv_aload_n hx hb dL_refuses_405 rfl (lv_at hl 0 rfl) ?_
                                              refine lv_bipush (v := 14) hx hb dL_refuses_406 (by decide) ?_
                                              refine lv_iconst (v := 2) hx hb dL_refuses_408 (by decide) ?_
                                              refine lv_iload_n hx hb dL_refuses_409 rfl (lv_at hl 1 rfl) ?_
                                              refine lv_bipush (v := 50) hx hb dL_refuses_410 (by decide) ?_
                                              refine lv_irem hx hb dL_refuses_412 (by decide) ?_
                                              refine lv_iadd hx hb dL_refuses_413 ?_
                                              refine lv_iconst (v := 0) hx hb dL_refuses_414 (by decide) ?_
                                              refine lv_iconst (v := 0) hx hb dL_refuses_415 (by decide) ?_
                                              obtain ⟨r103, hr103, h⟩ := ob_some h
                                              refine mw_wi (my_runS (As := [.ref (ad_p0 0), .int 14, .int (2 + (p1 - p1 / 50 * 50)), .int 0, .int 0]) (rest := []) hC hX hM hS (c_L_call_14 (ad_p0 := ad_p0) (s_p0 := r71.2) (hO_p0 := hO_p0) (hlt := hlt) (v := r103) hr103) gL_refuses_L_call rfl rfl rfl q_L_call ⟨(Nat.le_of_ble_eq_true rfl), (Nat.le_of_ble_eq_true rfl)⟩ rfl rfl (Nat.le_of_ble_eq_true rfl) hl.1 dL_refuses_416 ⟨(Nat.le_of_ble_eq_true rfl), (Nat.le_of_ble_eq_true rfl)⟩) hS (fun r9 H locs σ1 hp104 hM hS => ?_)
                                              obtain ⟨hr9, hO9, hk105⟩ := hp104
                                              replace hr9 := hr9.symm
                                              subst hr9
                                              replace hO_p0 := hO9
                                              have hk106 := KEO.tr hk101 hk105
                                              refine W.eq (g2 := F0 m 419 ls [.int r103.1]) rfl ?_
                                              refine lv_ldc (v := -9999001) hx hb hown (hts _ l_L_refuses_2) dL_refuses_419 ?_
                                              refine lv_icmp_ne (tgt := 492) hx hb dL_refuses_421 (by decide) (fun c107 => ?_) (fun c107 => ?_)
                                              · replace h := it_neg c107 h
                                                refine lv_iconst (v := 0) hx hb dL_refuses_492 (by decide) ?_
                                                refine W.widen (k := 24) (n := 144) (Nat.le_of_ble_eq_true rfl) (Nat.le_of_ble_eq_true rfl) ?_
                                                refine W.eq (g2 := F0 m 493 ls [.int (b2i false)]) rfl ?_
                                                exact J10 false r103.2 _ _ _ hM hS hO_p0 hk106 h ls (lv_sub hl [] rfl)
                                              · replace h := it_pos c107 h
                                                refine lv_aload_n hx hb dL_refuses_424 rfl (lv_at hl 0 rfl) ?_
                                                refine lv_bipush (v := 15) hx hb dL_refuses_425 (by decide) ?_
                                                refine lv_iconst (v := -1) hx hb dL_refuses_427 (by decide) ?_
                                                refine lv_iload_n hx hb dL_refuses_428 rfl (lv_at hl 1 rfl) ?_
                                                refine lv_bipush (v := 9) hx hb dL_refuses_429 (by decide) ?_
                                                refine lv_irem hx hb dL_refuses_431 (by decide) ?_
                                                refine lv_isub hx hb dL_refuses_432 ?_
                                                refine lv_iconst (v := 0) hx hb dL_refuses_433 (by decide) ?_
                                                refine lv_iconst (v := 0) hx hb dL_refuses_434 (by decide) ?_
                                                obtain ⟨r108, hr108, h⟩ := ob_some h
                                                refine mw_wi (my_runS (As := [.ref (ad_p0 0), .int 15, .int ((-1) - (p1 - p1 / 9 * 9)), .int 0, .int 0]) (rest := []) hC hX hM hS (c_L_call_15 (ad_p0 := ad_p0) (s_p0 := r103.2) (hO_p0 := hO_p0) (hlt := hlt) (v := r108) hr108) gL_refuses_L_call rfl rfl rfl q_L_call ⟨(Nat.le_of_ble_eq_true rfl), (Nat.le_of_ble_eq_true rfl)⟩ rfl rfl (Nat.le_of_ble_eq_true rfl) hl.1 dL_refuses_435 ⟨(Nat.le_of_ble_eq_true rfl), (Nat.le_of_ble_eq_true rfl)⟩) hS (fun r9 H locs σ1 hp109 hM hS => ?_)
                                                obtain ⟨hr9, hO9, hk110⟩ := hp109
                                                replace hr9 := hr9.symm
                                                subst hr9
                                                replace hO_p0 := hO9
                                                have hk111 := KEO.tr hk106 hk110
                                                refine W.eq (g2 := F0 m 438 ls [.int r108.1]) rfl ?_
                                                refine lv_ldc (v := -9999001) hx hb hown (hts _ l_L_refuses_2) dL_refuses_438 ?_
                                                refine lv_icmp_ne (tgt := 492) hx hb dL_refuses_440 (by decide) (fun c112 => ?_) (fun c112 => ?_)
                                                · replace h := it_neg c112 h
                                                  refine lv_iconst (v := 0) hx hb dL_refuses_492 (by decide) ?_
                                                  refine W.widen (k := 24) (n := 144) (Nat.le_of_ble_eq_true rfl) (Nat.le_of_ble_eq_true rfl) ?_
                                                  refine W.eq (g2 := F0 m 493 ls [.int (b2i false)]) rfl ?_
                                                  exact J10 false r108.2 _ _ _ hM hS hO_p0 hk111 h ls (lv_sub hl [] rfl)
                                                · replace h := it_pos c112 h
                                                  refine lv_aload_n hx hb dL_refuses_443 rfl (lv_at hl 0 rfl) ?_
                                                  refine lv_iconst (v := 0) hx hb dL_refuses_444 (by decide) ?_
                                                  refine lv_lconst (v := 0) hx hb dL_refuses_445 (by decide) ?_
                                                  obtain ⟨r113, hr113, h⟩ := ob_some h
                                                  refine mw_wi (mw_runSW (As := [.ref (ad_p0 0), .int 0, .long 0]) (rest := []) hC hX hM hS (c_L_doScript (ad_p0 := ad_p0) (s_p0 := r108.2) (hO_p0 := hO_p0) (hlt := hlt) (v := r113) hr113) gL_refuses_L_doScript rfl rfl rfl q_L_doScript ⟨(Nat.le_of_ble_eq_true rfl), (Nat.le_of_ble_eq_true rfl)⟩ rfl rfl (Nat.le_of_ble_eq_true rfl) hl.1 dL_refuses_446 ⟨(Nat.le_of_ble_eq_true rfl), (Nat.le_of_ble_eq_true rfl)⟩) hS (fun r9 H locs σ1 hp114 hM hS => ?_)
                                                  obtain ⟨hr9, hO9, hk115⟩ := hp114
                                                  replace hr9 := hr9.symm
                                                  subst hr9
                                                  replace hO_p0 := hO9
                                                  have hk116 := KEO.tr hk111 hk115
                                                  refine W.eq (g2 := F0 m 449 ls [.int r113.1]) rfl ?_
                                                  refine lv_ldc (v := -9999002) hx hb hown (hts _ l_L_refuses_0) dL_refuses_449 ?_
                                                  refine lv_icmp_ne (tgt := 492) hx hb dL_refuses_451 (by decide) (fun c117 => ?_) (fun c117 => ?_)
                                                  · replace h := it_neg c117 h
                                                    refine lv_iconst (v := 0) hx hb dL_refuses_492 (by decide) ?_
                                                    refine W.widen (k := 24) (n := 144) (Nat.le_of_ble_eq_true rfl) (Nat.le_of_ble_eq_true rfl) ?_
                                                    refine W.eq (g2 := F0 m 493 ls [.int (b2i false)]) rfl ?_
                                                    exact J10 false r113.2 _ _ _ hM hS hO_p0 hk116 h ls (lv_sub hl [] rfl)
                                                  · replace h := it_pos c117 h
                                                    refine lv_aload_n hx hb dL_refuses_454 rfl (lv_at hl 0 rfl) ?_
                                                    refine lv_iconst (v := 1) hx hb dL_refuses_455 (by decide) ?_
                                                    refine lv_ldc2 (v := 10000) hx hb hown (hts _ l_L_refuses_4) dL_refuses_456 ?_
                                                    refine lv_iload_n hx hb dL_refuses_459 rfl (lv_at hl 1 rfl) ?_
                                                    refine lv_i2l hx hb dL_refuses_460 rfl ?_
                                                    refine lv_ladd hx hb dL_refuses_461 ?_
                                                    obtain ⟨r118, hr118, h⟩ := ob_some h
                                                    refine mw_wi (mw_runSW (As := [.ref (ad_p0 0), .int 1, .long (10000 + p1.toInt64)]) (rest := []) hC hX hM hS (c_L_doScript (ad_p0 := ad_p0) (s_p0 := r113.2) (hO_p0 := hO_p0) (hlt := hlt) (v := r118) hr118) gL_refuses_L_doScript rfl rfl rfl q_L_doScript ⟨(Nat.le_of_ble_eq_true rfl), (Nat.le_of_ble_eq_true rfl)⟩ rfl rfl (Nat.le_of_ble_eq_true rfl) hl.1 dL_refuses_462 ⟨(Nat.le_of_ble_eq_true rfl), (Nat.le_of_ble_eq_true rfl)⟩) hS (fun r9 H locs σ1 hp119 hM hS => ?_)
                                                    obtain ⟨hr9, hO9, hk120⟩ := hp119
                                                    replace hr9 := hr9.symm
                                                    subst hr9
                                                    replace hO_p0 := hO9
                                                    have hk121 := KEO.tr hk116 hk120
                                                    refine W.eq (g2 := F0 m 465 ls [.int r118.1]) rfl ?_
                                                    refine lv_ldc (v := -9999002) hx hb hown (hts _ l_L_refuses_0) dL_refuses_465 ?_
                                                    refine lv_icmp_ne (tgt := 492) hx hb dL_refuses_467 (by decide) (fun c122 => ?_) (fun c122 => ?_)
                                                    · replace h := it_neg c122 h
                                                      refine lv_iconst (v := 0) hx hb dL_refuses_492 (by decide) ?_
                                                      refine W.widen (k := 24) (n := 144) (Nat.le_of_ble_eq_true rfl) (Nat.le_of_ble_eq_true rfl) ?_
                                                      refine W.eq (g2 := F0 m 493 ls [.int (b2i false)]) rfl ?_
                                                      exact J10 false r118.2 _ _ _ hM hS hO_p0 hk121 h ls (lv_sub hl [] rfl)
                                                    · replace h := it_pos c122 h
                                                      refine lv_aload_n hx hb dL_refuses_470 rfl (lv_at hl 0 rfl) ?_
                                                      refine lv_iload_n hx hb dL_refuses_471 rfl (lv_at hl 1 rfl) ?_
                                                      refine lv_i2l hx hb dL_refuses_472 rfl ?_
                                                      refine lv_bipush (v := 101) hx hb dL_refuses_473 (by decide) ?_
                                                      refine lv_iload_n hx hb dL_refuses_475 rfl (lv_at hl 1 rfl) ?_
                                                      refine lv_bipush (v := 9) hx hb dL_refuses_476 (by decide) ?_
                                                      refine lv_irem hx hb dL_refuses_478 (by decide) ?_
                                                      refine lv_iadd hx hb dL_refuses_479 ?_
                                                      obtain ⟨r123, hr123, h⟩ := ob_some h
                                                      refine mw_wi (mw_runSW (As := [.ref (ad_p0 0), .long p1.toInt64, .int (101 + (p1 - p1 / 9 * 9))]) (rest := []) hC hX hM hS (c_L_doSimulate (ad_p0 := ad_p0) (s_p0 := r118.2) (hO_p0 := hO_p0) (hlt := hlt) (v := r123) hr123) gL_refuses_L_doSimulate rfl rfl rfl q_L_doSimulate ⟨(Nat.le_of_ble_eq_true rfl), (Nat.le_of_ble_eq_true rfl)⟩ rfl rfl (Nat.le_of_ble_eq_true rfl) hl.1 dL_refuses_480 ⟨(Nat.le_of_ble_eq_true rfl), (Nat.le_of_ble_eq_true rfl)⟩) hS (fun r9 H locs σ1 hp124 hM hS => ?_)
                                                      obtain ⟨hr9, hO9, hk125⟩ := hp124
                                                      replace hr9 := hr9.symm
                                                      subst hr9
                                                      replace hO_p0 := hO9
                                                      have hk126 := KEO.tr hk121 hk125
                                                      refine W.eq (g2 := F0 m 483 ls [.int r123.1]) rfl ?_
                                                      refine lv_ldc (v := -9999002) hx hb hown (hts _ l_L_refuses_0) dL_refuses_483 ?_
                                                      refine lv_icmp_ne (tgt := 492) hx hb dL_refuses_485 (by decide) (fun c127 => ?_) (fun c127 => ?_)
                                                      · replace h := it_neg c127 h
                                                        refine lv_iconst (v := 0) hx hb dL_refuses_492 (by decide) ?_
                                                        refine W.eq (g2 := F0 m 493 ls [.int (b2i false)]) rfl ?_
                                                        exact J10 false r123.2 _ _ _ hM hS hO_p0 hk126 h ls (lv_sub hl [] rfl)
                                                      · replace h := it_pos c127 h
                                                        refine lv_iconst (v := 1) hx hb dL_refuses_488 (by decide) ?_
                                                        refine lv_goto (tgt := 493) hx hb dL_refuses_489 (by decide) ?_
                                                        refine W.eq (g2 := F0 m 493 ls [.int (b2i true)]) rfl ?_
                                                        exact J10 true r123.2 _ _ _ hM hS hO_p0 hk126 h ls (lv_sub hl [] rfl)
                                refine lv_if_ne (tgt := 300) hx hb dL_refuses_288 (by decide) (fun c128 => ?_) (fun c128 => ?_)
                                · replace h := it_neg c128 h
                                  refine lv_iconst (v := 2) hx hb dL_refuses_300 (by decide) ?_
                                  refine lv_iload_n hx hb dL_refuses_301 rfl (lv_at hl 1 rfl) ?_
                                  refine lv_bipush (v := 9) hx hb dL_refuses_302 (by decide) ?_
                                  refine lv_irem hx hb dL_refuses_304 (by decide) ?_
                                  refine lv_iadd hx hb dL_refuses_305 ?_
                                  exact J70 (2 + (p1 - p1 / 9 * 9)) _ _ _ hM hS hO_p0 hk68 h ls (lv_sub hl [0, 1, 2, 3] rfl)
                                · replace h := it_pos c128 h
                                  refine lv_iconst (v := -1) hx hb dL_refuses_291 (by decide) ?_
                                  refine lv_iload_n hx hb dL_refuses_292 rfl (lv_at hl 1 rfl) ?_
                                  refine lv_bipush (v := 9) hx hb dL_refuses_293 (by decide) ?_
                                  refine lv_irem hx hb dL_refuses_295 (by decide) ?_
                                  refine lv_isub hx hb dL_refuses_296 ?_
                                  refine lv_goto (tgt := 306) hx hb dL_refuses_297 (by decide) ?_
                                  exact J70 ((-1) - (p1 - p1 / 9 * 9)) _ _ _ hM hS hO_p0 hk68 h ls (lv_sub hl [0, 1, 2, 3] rfl)
                          refine lv_if_ne (tgt := 250) hx hb dL_refuses_238 (by decide) (fun c129 => ?_) (fun c129 => ?_)
                          · replace h := it_neg c129 h
                            refine lv_bipush (v := 8) hx hb dL_refuses_250 (by decide) ?_
                            refine lv_iload_n hx hb dL_refuses_252 rfl (lv_at hl 1 rfl) ?_
                            refine lv_bipush (v := 9) hx hb dL_refuses_253 (by decide) ?_
                            refine lv_irem hx hb dL_refuses_255 (by decide) ?_
                            refine lv_iadd hx hb dL_refuses_256 ?_
                            exact J59 (8 + (p1 - p1 / 9 * 9)) _ _ _ hM hS hO_p0 hk57 h ls (lv_sub hl [0, 1, 2, 3] rfl)
                          · replace h := it_pos c129 h
                            refine lv_iconst (v := 2) hx hb dL_refuses_241 (by decide) ?_
                            refine lv_iload_n hx hb dL_refuses_242 rfl (lv_at hl 1 rfl) ?_
                            refine lv_bipush (v := 9) hx hb dL_refuses_243 (by decide) ?_
                            refine lv_irem hx hb dL_refuses_245 (by decide) ?_
                            refine lv_isub hx hb dL_refuses_246 ?_
                            refine lv_goto (tgt := 257) hx hb dL_refuses_247 (by decide) ?_
                            exact J59 (2 - (p1 - p1 / 9 * 9)) _ _ _ hM hS hO_p0 hk57 h ls (lv_sub hl [0, 1, 2, 3] rfl)
    refine lv_if_ne (tgt := 53) hx hb dL_refuses_41 (by decide) (fun c130 => ?_) (fun c130 => ?_)
    · replace h := it_neg c130 h
      refine lv_sipush (v := 256) hx hb dL_refuses_53 (by decide) ?_
      refine lv_iload_n hx hb dL_refuses_56 rfl (lv_at hl 2 rfl) ?_
      refine lv_bipush (v := 9) hx hb dL_refuses_57 (by decide) ?_
      refine lv_irem hx hb dL_refuses_59 (by decide) ?_
      refine lv_iadd hx hb dL_refuses_60 ?_
      exact J5 (256 + (p1 - p1 / 9 * 9)) _ _ _ hM hS hO_p0 hk h ls (lv_sub hl [1, 2, 3, 0] rfl)
    · replace h := it_pos c130 h
      refine lv_iconst (v := -1) hx hb dL_refuses_44 (by decide) ?_
      refine lv_iload_n hx hb dL_refuses_45 rfl (lv_at hl 2 rfl) ?_
      refine lv_bipush (v := 9) hx hb dL_refuses_46 (by decide) ?_
      refine lv_irem hx hb dL_refuses_48 (by decide) ?_
      refine lv_isub hx hb dL_refuses_49 ?_
      refine lv_goto (tgt := 61) hx hb dL_refuses_50 (by decide) ?_
      exact J5 ((-1) - (p1 - p1 / 9 * 9)) _ _ _ hM hS hO_p0 hk h ls (lv_sub hl [1, 2, 3, 0] rfl)
  refine lv_if_ne (tgt := 28) hx hb dL_refuses_16 (by decide) (fun c131 => ?_) (fun c131 => ?_)
  · replace h := it_neg c131 h
    refine lv_iload_n hx hb dL_refuses_28 rfl (lv_at hl 0 rfl) ?_
    refine lv_iload_n hx hb dL_refuses_29 rfl (lv_at hl 3 rfl) ?_
    refine lv_bipush (v := 99) hx hb dL_refuses_30 (by decide) ?_
    refine lv_irem hx hb dL_refuses_32 (by decide) ?_
    refine lv_iadd hx hb dL_refuses_33 ?_
    exact J4 ((r1 * r1) + (p1 - p1 / 99 * 99)) _ _ _ hM hS hO_p0 hk3 h ls (lv_sub hl [2, 3, 0] rfl)
  · replace h := it_pos c131 h
    refine lv_iconst (v := -1) hx hb dL_refuses_19 (by decide) ?_
    refine lv_iload_n hx hb dL_refuses_20 rfl (lv_at hl 3 rfl) ?_
    refine lv_bipush (v := 99) hx hb dL_refuses_21 (by decide) ?_
    refine lv_irem hx hb dL_refuses_23 (by decide) ?_
    refine lv_isub hx hb dL_refuses_24 ?_
    refine lv_goto (tgt := 34) hx hb dL_refuses_25 (by decide) ?_
    exact J4 ((-1) - (p1 - p1 / 99 * 99)) _ _ _ hM hS hO_p0 hk3 h ls (lv_sub hl [2, 3, 0] rfl)
theorem q_L_act : yL_act.cls ≠ "java/lang/invoke/MethodHandle" ∧ yL_act.cls ≠ "java/lang/invoke/VarHandle" ∧ (parseMethodDescriptor yL_act.desc).map (fun d => d.parameters.length) = some 2 := by decide +kernel
def fL_act (s_p0 : OSt) (p1 : Int32) : Option (Int32 × OSt) := (fL_call_2 s_p0 (0 : Int32) (0 : Int32) (0 : Int32)).bind fun r1 => (fL_call_2 s_p0 (0 : Int32) (0 : Int32) (0 : Int32)).bind fun r4 => if (p1 - p1 / 16 * 16) = 0 then (bnd (fun (x9_0 : Int32) (t9_p0 : OSt) => some (x9_0, t9_p0)) fun k9 => if ((p1 / 16) - (p1 / 16) / 3 * 3) = 0 then ((fL_call_6 s_p0 (3 + (((p1 / 16) / 3) - ((p1 / 16) / 3) / 4 * 4)) (0 : Int32) (0 : Int32)).bind fun r15 => k9 r15.1 r15.2) else ((fL_call_8 s_p0 (0 : Int32) (0 : Int32) (0 : Int32)).bind fun r11 => k9 r11.1 r11.2)) else (if (p1 - p1 / 16 * 16) = 1 then ((fL_call_9 s_p0 ((p1 / 16) - (p1 / 16) / 2 * 2) (0 : Int32) (0 : Int32)).bind fun r20 => some (r20.1, r20.2)) else (if (p1 - p1 / 16 * 16) = 2 then ((fL_call_2 s_p0 (1 : Int32) (0 : Int32) (0 : Int32)).bind fun r25 => bnd (fun (x29_0 : Int32) (t29_p0 : OSt) => some (x29_0, t29_p0)) fun k29 => if 2 ≤ r25 then ((fL_call_10 s_p0 (0 : Int32) (0 : Int32) (0 : Int32)).bind fun r31 => k29 r31.1 r31.2) else (k29 ((-1) : Int32) s_p0)) else (if (p1 - p1 / 16 * 16) = 3 then (bnd (fun (x36_0 : Int32) (t36_p0 : OSt) => some (x36_0, t36_p0)) fun k36 => if ((p1 / 16) - (p1 / 16) / 2 * 2) = 0 then ((fL_call_14 s_p0 (((p1 / 16) / 2) - ((p1 / 16) / 2) / 2 * 2) (0 : Int32) (0 : Int32)).bind fun r42 => k36 r42.1 r42.2) else ((fL_call_15 s_p0 (((p1 / 16) / 2) - ((p1 / 16) / 2) / 2 * 2) (0 : Int32) (0 : Int32)).bind fun r38 => k36 r38.1 r38.2)) else (if (p1 - p1 / 16 * 16) = 4 then ((aBestTake s_p0).bind fun r47 => bnd (fun (x48_0 : Int32) (t48_p0 : OSt) => some (x48_0, t48_p0)) fun k48 => if r47 = (-1) then (k48 ((-1) : Int32) s_p0) else ((fL_call_7 s_p0 r47 (0 : Int32) (0 : Int32)).bind fun r50 => k48 r50.1 r50.2)) else (if (r1 * r4) = 0 then none else (fL_call_7 s_p0 ((p1 / 16) - (p1 / 16) / (r1 * r4) * (r1 * r4)) (0 : Int32) (0 : Int32)).bind fun r55 => some (r55.1, r55.2))))))
set_option maxHeartbeats 8000000 in
set_option maxRecDepth 100000 in
theorem c_L_act {l : Launch} {z : Nat} {D : va_G} {K : Nat → ClassId} {σ : mwm} {ad_p0 : Nat → Nat} {s_p0 : OSt} {p1 : Int32} (hO_p0 : OB K ad_p0 σ s_p0) (hlt : l.stackTraces = false) {v : Int32 × OSt} (h : fL_act s_p0 p1 = some v) : Met l yL_act wsL_act ({ frames := 9, cells := 4, slots := 24, locals := 194 } : Room) (PCx z D K [.ref (ad_p0 0), .int p1] σ) (qwI z D (fun r σ2 => r = v.1 ∧ OB K ad_p0 σ2 v.2 ∧ KEO ad_p0 σ σ2)) 4 24 (zA z) := by
  refine my_enter (cc := cL_act) (maxL := 5) (ret := (some .int)) (own := RL) (lv := [(0, .ref (ad_p0 0)), (1, .int p1)]) (by decide) rfl rfl (Nat.le_of_ble_eq_true rfl) rfl ?_
  intro p e s m below meth c ls hC hx hb hown hts hK hr hlocks hnm hz hM hS hl hX
  unfold fL_act at h
  refine lv_iload_n hx hb dL_act_0 rfl (lv_at hl 1 rfl) ?_
  refine lv_bipush (v := 16) hx hb dL_act_1 (by decide) ?_
  refine lv_idiv hx hb dL_act_3 (by decide) ?_
  refine lv_istore_n (lv' := [(2, .int (p1 / 16)), (0, .ref (ad_p0 0)), (1, .int p1)]) hx hb dL_act_4 rfl hl (by decide) rfl (fun ls hl => ?_)
  refine lv_aload_n hx hb dL_act_5 rfl (lv_at hl 1 rfl) ?_
  refine lv_iconst (v := 2) hx hb dL_act_6 (by decide) ?_
  refine lv_iconst (v := 0) hx hb dL_act_7 (by decide) ?_
  refine lv_iconst (v := 0) hx hb dL_act_8 (by decide) ?_
  refine lv_iconst (v := 0) hx hb dL_act_9 (by decide) ?_
  obtain ⟨r1, hr1, h⟩ := ob_some h
  refine mw_wi (my_runS (As := [.ref (ad_p0 0), .int 2, .int 0, .int 0, .int 0]) (rest := []) hC hX hM hS (c_L_call_2 (ad_p0 := ad_p0) (s_p0 := s_p0) (hO_p0 := hO_p0) (hlt := hlt) (v := r1) hr1) gL_act_L_call rfl rfl rfl q_L_call ⟨(Nat.le_of_ble_eq_true rfl), (Nat.le_of_ble_eq_true rfl)⟩ rfl rfl (Nat.le_of_ble_eq_true rfl) hl.1 dL_act_10 ⟨(Nat.le_of_ble_eq_true rfl), (Nat.le_of_ble_eq_true rfl)⟩) hS (fun r9 H locs σ1 hp2 hM hS => ?_)
  obtain ⟨hr9, hO9, hk3⟩ := hp2
  replace hr9 := hr9.symm
  subst hr9
  replace hO_p0 := hO9
  refine W.eq (g2 := F0 m 13 ls [.int r1]) rfl ?_
  refine lv_aload_n hx hb dL_act_13 rfl (lv_at hl 1 rfl) ?_
  refine lv_iconst (v := 2) hx hb dL_act_14 (by decide) ?_
  refine lv_iconst (v := 0) hx hb dL_act_15 (by decide) ?_
  refine lv_iconst (v := 0) hx hb dL_act_16 (by decide) ?_
  refine lv_iconst (v := 0) hx hb dL_act_17 (by decide) ?_
  obtain ⟨r4, hr4, h⟩ := ob_some h
  refine mw_wi (my_runS (As := [.ref (ad_p0 0), .int 2, .int 0, .int 0, .int 0]) (rest := [.int r1]) hC hX hM hS (c_L_call_2 (ad_p0 := ad_p0) (s_p0 := s_p0) (hO_p0 := hO_p0) (hlt := hlt) (v := r4) hr4) gL_act_L_call rfl rfl rfl q_L_call ⟨(Nat.le_of_ble_eq_true rfl), (Nat.le_of_ble_eq_true rfl)⟩ rfl rfl (Nat.le_of_ble_eq_true rfl) hl.1 dL_act_18 ⟨(Nat.le_of_ble_eq_true rfl), (Nat.le_of_ble_eq_true rfl)⟩) hS (fun r9 H locs σ1 hp5 hM hS => ?_)
  obtain ⟨hr9, hO9, hk6⟩ := hp5
  replace hr9 := hr9.symm
  subst hr9
  replace hO_p0 := hO9
  have hk7 := KEO.tr hk3 hk6
  refine W.eq (g2 := F0 m 21 ls [.int r4, .int r1]) rfl ?_
  refine lv_imul hx hb dL_act_21 ?_
  refine lv_istore_n (lv' := [(3, .int (r1 * r4)), (2, .int (p1 / 16)), (0, .ref (ad_p0 0)), (1, .int p1)]) hx hb dL_act_22 rfl hl (by decide) rfl (fun ls hl => ?_)
  refine lv_iload_n hx hb dL_act_23 rfl (lv_at hl 3 rfl) ?_
  refine lv_bipush (v := 16) hx hb dL_act_24 (by decide) ?_
  refine lv_irem hx hb dL_act_26 (by decide) ?_
  by_cases c8 : (p1 - p1 / 16 * 16) = 0
  · replace h := it_pos c8 h
    refine lv_tableIn (tgt := 60) hx hb dL_act_27 (by rw [c8]; decide) (by rw [c8]; decide) (by rw [c8]; rfl) (by decide) ?_
    refine lv_iload_n hx hb dL_act_60 rfl (lv_at hl 1 rfl) ?_
    refine lv_iconst (v := 3) hx hb dL_act_61 (by decide) ?_
    refine lv_irem hx hb dL_act_62 (by decide) ?_
    obtain ⟨k9, ek9, h⟩ := bnd_ex h
    have J9 : ∀ (x9_0 : Int32) (t9_p0 : OSt) (H : Heap) (locs : List Loc) (σ1 : mwm), MW z D σ1 H → va_S (zA z) s.heap H locs → OB K ad_p0 σ1 t9_p0 → KEO ad_p0 σ σ1 → k9 x9_0 t9_p0 = some v → ∀ ls : Array Slot, lv_has ls 5 [] → W p l e ({ frames := 9, cells := 4, slots := 24, locals := 194 } : Room) s m ([.ref (ad_p0 0), .int p1] : List Value).toArray below meth c H locs 3 18 (MQ below (qwI z D (fun r σ2 => r = v.1 ∧ OB K ad_p0 σ2 v.2 ∧ KEO ad_p0 σ σ2)) ([.ref (ad_p0 0), .int p1] : List Value).toArray s 4 24 (zA z)) (F0 m 93 ls [.int x9_0]) := by
      intro x9_0 t9_p0 H locs σ1 hM hS hO_p0 hk h ls hl
      rw [ek9] at h
      replace h := Option.some.inj h
      subst h
      refine W.widen (k := 4) (n := 24) (Nat.le_of_ble_eq_true rfl) (Nat.le_of_ble_eq_true rfl) ?_
      exact W.iret hx hb hr (fun t ht hW => ⟨⟨_, _, rfl, ⟨rfl, hO_p0, hk⟩, by show MW z D _ t.heap; rw [ht]; exact hM⟩, hS.F ht⟩) hS.2.2 dL_act_93 hlocks
    refine lv_if_ne (tgt := 84) hx hb dL_act_63 (by decide) (fun c10 => ?_) (fun c10 => ?_)
    · replace h := it_neg c10 h
      refine lv_aload_n hx hb dL_act_84 rfl (lv_at hl 2 rfl) ?_
      refine lv_bipush (v := 8) hx hb dL_act_85 (by decide) ?_
      refine lv_iconst (v := 0) hx hb dL_act_87 (by decide) ?_
      refine lv_iconst (v := 0) hx hb dL_act_88 (by decide) ?_
      refine lv_iconst (v := 0) hx hb dL_act_89 (by decide) ?_
      obtain ⟨r11, hr11, h⟩ := ob_some h
      refine mw_wi (my_runS (As := [.ref (ad_p0 0), .int 8, .int 0, .int 0, .int 0]) (rest := []) hC hX hM hS (c_L_call_8 (ad_p0 := ad_p0) (s_p0 := s_p0) (hO_p0 := hO_p0) (hlt := hlt) (v := r11) hr11) gL_act_L_call rfl rfl rfl q_L_call ⟨(Nat.le_of_ble_eq_true rfl), (Nat.le_of_ble_eq_true rfl)⟩ rfl rfl (Nat.le_of_ble_eq_true rfl) hl.1 dL_act_90 ⟨(Nat.le_of_ble_eq_true rfl), (Nat.le_of_ble_eq_true rfl)⟩) hS (fun r9 H locs σ1 hp12 hM hS => ?_)
      obtain ⟨hr9, hO9, hk13⟩ := hp12
      replace hr9 := hr9.symm
      subst hr9
      replace hO_p0 := hO9
      have hk14 := KEO.tr hk7 hk13
      refine W.eq (g2 := F0 m 93 ls [.int r11.1]) rfl ?_
      exact J9 r11.1 r11.2 _ _ _ hM hS hO_p0 hk14 h ls (lv_sub hl [] rfl)
    · replace h := it_pos c10 h
      refine lv_aload_n hx hb dL_act_66 rfl (lv_at hl 2 rfl) ?_
      refine lv_bipush (v := 6) hx hb dL_act_67 (by decide) ?_
      refine lv_iconst (v := 3) hx hb dL_act_69 (by decide) ?_
      refine lv_iload_n hx hb dL_act_70 rfl (lv_at hl 1 rfl) ?_
      refine lv_iconst (v := 3) hx hb dL_act_71 (by decide) ?_
      refine lv_idiv hx hb dL_act_72 (by decide) ?_
      refine lv_iconst (v := 4) hx hb dL_act_73 (by decide) ?_
      refine lv_irem hx hb dL_act_74 (by decide) ?_
      refine lv_iadd hx hb dL_act_75 ?_
      refine lv_iconst (v := 0) hx hb dL_act_76 (by decide) ?_
      refine lv_iconst (v := 0) hx hb dL_act_77 (by decide) ?_
      obtain ⟨r15, hr15, h⟩ := ob_some h
      refine mw_wi (my_runS (As := [.ref (ad_p0 0), .int 6, .int (3 + (((p1 / 16) / 3) - ((p1 / 16) / 3) / 4 * 4)), .int 0, .int 0]) (rest := []) hC hX hM hS (c_L_call_6 (ad_p0 := ad_p0) (s_p0 := s_p0) (hO_p0 := hO_p0) (hlt := hlt) (v := r15) hr15) gL_act_L_call rfl rfl rfl q_L_call ⟨(Nat.le_of_ble_eq_true rfl), (Nat.le_of_ble_eq_true rfl)⟩ rfl rfl (Nat.le_of_ble_eq_true rfl) hl.1 dL_act_78 ⟨(Nat.le_of_ble_eq_true rfl), (Nat.le_of_ble_eq_true rfl)⟩) hS (fun r9 H locs σ1 hp16 hM hS => ?_)
      obtain ⟨hr9, hO9, hk17⟩ := hp16
      replace hr9 := hr9.symm
      subst hr9
      replace hO_p0 := hO9
      have hk18 := KEO.tr hk7 hk17
      refine W.eq (g2 := F0 m 81 ls [.int r15.1]) rfl ?_
      refine lv_goto (tgt := 93) hx hb dL_act_81 (by decide) ?_
      exact J9 r15.1 r15.2 _ _ _ hM hS hO_p0 hk18 h ls (lv_sub hl [] rfl)
  replace h := it_neg c8 h
  by_cases c19 : (p1 - p1 / 16 * 16) = 1
  · replace h := it_pos c19 h
    refine lv_tableIn (tgt := 94) hx hb dL_act_27 (by rw [c19]; decide) (by rw [c19]; decide) (by rw [c19]; rfl) (by decide) ?_
    refine lv_aload_n hx hb dL_act_94 rfl (lv_at hl 2 rfl) ?_
    refine lv_bipush (v := 9) hx hb dL_act_95 (by decide) ?_
    refine lv_iload_n hx hb dL_act_97 rfl (lv_at hl 1 rfl) ?_
    refine lv_iconst (v := 2) hx hb dL_act_98 (by decide) ?_
    refine lv_irem hx hb dL_act_99 (by decide) ?_
    refine lv_iconst (v := 0) hx hb dL_act_100 (by decide) ?_
    refine lv_iconst (v := 0) hx hb dL_act_101 (by decide) ?_
    obtain ⟨r20, hr20, h⟩ := ob_some h
    refine mw_wi (my_runS (As := [.ref (ad_p0 0), .int 9, .int ((p1 / 16) - (p1 / 16) / 2 * 2), .int 0, .int 0]) (rest := []) hC hX hM hS (c_L_call_9 (ad_p0 := ad_p0) (s_p0 := s_p0) (hO_p0 := hO_p0) (hlt := hlt) (v := r20) hr20) gL_act_L_call rfl rfl rfl q_L_call ⟨(Nat.le_of_ble_eq_true rfl), (Nat.le_of_ble_eq_true rfl)⟩ rfl rfl (Nat.le_of_ble_eq_true rfl) hl.1 dL_act_102 ⟨(Nat.le_of_ble_eq_true rfl), (Nat.le_of_ble_eq_true rfl)⟩) hS (fun r9 H locs σ1 hp21 hM hS => ?_)
    obtain ⟨hr9, hO9, hk22⟩ := hp21
    replace hr9 := hr9.symm
    subst hr9
    replace hO_p0 := hO9
    have hk23 := KEO.tr hk7 hk22
    refine W.eq (g2 := F0 m 105 ls [.int r20.1]) rfl ?_
    replace h := Option.some.inj h
    subst h
    refine W.widen (k := 4) (n := 24) (Nat.le_of_ble_eq_true rfl) (Nat.le_of_ble_eq_true rfl) ?_
    exact W.iret hx hb hr (fun t ht hW => ⟨⟨_, _, rfl, ⟨rfl, hO_p0, hk23⟩, by show MW z D _ t.heap; rw [ht]; exact hM⟩, hS.F ht⟩) hS.2.2 dL_act_105 hlocks
  replace h := it_neg c19 h
  by_cases c24 : (p1 - p1 / 16 * 16) = 2
  · replace h := it_pos c24 h
    refine lv_tableIn (tgt := 106) hx hb dL_act_27 (by rw [c24]; decide) (by rw [c24]; decide) (by rw [c24]; rfl) (by decide) ?_
    refine lv_aload_n hx hb dL_act_106 rfl (lv_at hl 2 rfl) ?_
    refine lv_iconst (v := 2) hx hb dL_act_107 (by decide) ?_
    refine lv_iconst (v := 1) hx hb dL_act_108 (by decide) ?_
    refine lv_iconst (v := 0) hx hb dL_act_109 (by decide) ?_
    refine lv_iconst (v := 0) hx hb dL_act_110 (by decide) ?_
    obtain ⟨r25, hr25, h⟩ := ob_some h
    refine mw_wi (my_runS (As := [.ref (ad_p0 0), .int 2, .int 1, .int 0, .int 0]) (rest := []) hC hX hM hS (c_L_call_2 (ad_p0 := ad_p0) (s_p0 := s_p0) (hO_p0 := hO_p0) (hlt := hlt) (v := r25) hr25) gL_act_L_call rfl rfl rfl q_L_call ⟨(Nat.le_of_ble_eq_true rfl), (Nat.le_of_ble_eq_true rfl)⟩ rfl rfl (Nat.le_of_ble_eq_true rfl) hl.1 dL_act_111 ⟨(Nat.le_of_ble_eq_true rfl), (Nat.le_of_ble_eq_true rfl)⟩) hS (fun r9 H locs σ1 hp26 hM hS => ?_)
    obtain ⟨hr9, hO9, hk27⟩ := hp26
    replace hr9 := hr9.symm
    subst hr9
    replace hO_p0 := hO9
    have hk28 := KEO.tr hk7 hk27
    refine W.eq (g2 := F0 m 114 ls [.int r25]) rfl ?_
    refine lv_iconst (v := 2) hx hb dL_act_114 (by decide) ?_
    obtain ⟨k29, ek29, h⟩ := bnd_ex h
    have J29 : ∀ (x29_0 : Int32) (t29_p0 : OSt) (H : Heap) (locs : List Loc) (σ1 : mwm), MW z D σ1 H → va_S (zA z) s.heap H locs → OB K ad_p0 σ1 t29_p0 → KEO ad_p0 σ σ1 → k29 x29_0 t29_p0 = some v → ∀ ls : Array Slot, lv_has ls 5 [] → W p l e ({ frames := 9, cells := 4, slots := 24, locals := 194 } : Room) s m ([.ref (ad_p0 0), .int p1] : List Value).toArray below meth c H locs 4 24 (MQ below (qwI z D (fun r σ2 => r = v.1 ∧ OB K ad_p0 σ2 v.2 ∧ KEO ad_p0 σ σ2)) ([.ref (ad_p0 0), .int p1] : List Value).toArray s 4 24 (zA z)) (F0 m 131 ls [.int x29_0]) := by
      intro x29_0 t29_p0 H locs σ1 hM hS hO_p0 hk h ls hl
      rw [ek29] at h
      replace h := Option.some.inj h
      subst h
      exact W.iret hx hb hr (fun t ht hW => ⟨⟨_, _, rfl, ⟨rfl, hO_p0, hk⟩, by show MW z D _ t.heap; rw [ht]; exact hM⟩, hS.F ht⟩) hS.2.2 dL_act_131 hlocks
    refine lv_icmp_ge (tgt := 122) hx hb dL_act_115 (by decide) (fun c30 => ?_) (fun c30 => ?_)
    · replace h := it_pos c30 h
      refine lv_aload_n hx hb dL_act_122 rfl (lv_at hl 2 rfl) ?_
      refine lv_bipush (v := 10) hx hb dL_act_123 (by decide) ?_
      refine lv_iconst (v := 0) hx hb dL_act_125 (by decide) ?_
      refine lv_iconst (v := 0) hx hb dL_act_126 (by decide) ?_
      refine lv_iconst (v := 0) hx hb dL_act_127 (by decide) ?_
      obtain ⟨r31, hr31, h⟩ := ob_some h
      refine mw_wi (my_runS (As := [.ref (ad_p0 0), .int 10, .int 0, .int 0, .int 0]) (rest := []) hC hX hM hS (c_L_call_10 (ad_p0 := ad_p0) (s_p0 := s_p0) (hO_p0 := hO_p0) (hlt := hlt) (v := r31) hr31) gL_act_L_call rfl rfl rfl q_L_call ⟨(Nat.le_of_ble_eq_true rfl), (Nat.le_of_ble_eq_true rfl)⟩ rfl rfl (Nat.le_of_ble_eq_true rfl) hl.1 dL_act_128 ⟨(Nat.le_of_ble_eq_true rfl), (Nat.le_of_ble_eq_true rfl)⟩) hS (fun r9 H locs σ1 hp32 hM hS => ?_)
      obtain ⟨hr9, hO9, hk33⟩ := hp32
      replace hr9 := hr9.symm
      subst hr9
      replace hO_p0 := hO9
      have hk34 := KEO.tr hk28 hk33
      refine W.eq (g2 := F0 m 131 ls [.int r31.1]) rfl ?_
      exact J29 r31.1 r31.2 _ _ _ hM hS hO_p0 hk34 h ls (lv_sub hl [] rfl)
    · replace h := it_neg c30 h
      refine lv_iconst (v := -1) hx hb dL_act_118 (by decide) ?_
      refine lv_goto (tgt := 131) hx hb dL_act_119 (by decide) ?_
      refine W.widen (k := 4) (n := 24) (Nat.le_of_ble_eq_true rfl) (Nat.le_of_ble_eq_true rfl) ?_
      refine W.eq (g2 := F0 m 131 ls [.int ((-1) : Int32)]) rfl ?_
      exact J29 ((-1) : Int32) s_p0 _ _ _ hM hS hO_p0 hk28 h ls (lv_sub hl [] rfl)
  replace h := it_neg c24 h
  by_cases c35 : (p1 - p1 / 16 * 16) = 3
  · replace h := it_pos c35 h
    refine lv_tableIn (tgt := 132) hx hb dL_act_27 (by rw [c35]; decide) (by rw [c35]; decide) (by rw [c35]; rfl) (by decide) ?_
    refine lv_iload_n hx hb dL_act_132 rfl (lv_at hl 1 rfl) ?_
    refine lv_iconst (v := 2) hx hb dL_act_133 (by decide) ?_
    refine lv_irem hx hb dL_act_134 (by decide) ?_
    obtain ⟨k36, ek36, h⟩ := bnd_ex h
    have J36 : ∀ (x36_0 : Int32) (t36_p0 : OSt) (H : Heap) (locs : List Loc) (σ1 : mwm), MW z D σ1 H → va_S (zA z) s.heap H locs → OB K ad_p0 σ1 t36_p0 → KEO ad_p0 σ σ1 → k36 x36_0 t36_p0 = some v → ∀ ls : Array Slot, lv_has ls 5 [] → W p l e ({ frames := 9, cells := 4, slots := 24, locals := 194 } : Room) s m ([.ref (ad_p0 0), .int p1] : List Value).toArray below meth c H locs 3 18 (MQ below (qwI z D (fun r σ2 => r = v.1 ∧ OB K ad_p0 σ2 v.2 ∧ KEO ad_p0 σ σ2)) ([.ref (ad_p0 0), .int p1] : List Value).toArray s 4 24 (zA z)) (F0 m 167 ls [.int x36_0]) := by
      intro x36_0 t36_p0 H locs σ1 hM hS hO_p0 hk h ls hl
      rw [ek36] at h
      replace h := Option.some.inj h
      subst h
      refine W.widen (k := 4) (n := 24) (Nat.le_of_ble_eq_true rfl) (Nat.le_of_ble_eq_true rfl) ?_
      exact W.iret hx hb hr (fun t ht hW => ⟨⟨_, _, rfl, ⟨rfl, hO_p0, hk⟩, by show MW z D _ t.heap; rw [ht]; exact hM⟩, hS.F ht⟩) hS.2.2 dL_act_167 hlocks
    refine lv_if_ne (tgt := 154) hx hb dL_act_135 (by decide) (fun c37 => ?_) (fun c37 => ?_)
    · replace h := it_neg c37 h
      refine lv_aload_n hx hb dL_act_154 rfl (lv_at hl 2 rfl) ?_
      refine lv_bipush (v := 15) hx hb dL_act_155 (by decide) ?_
      refine lv_iload_n hx hb dL_act_157 rfl (lv_at hl 1 rfl) ?_
      refine lv_iconst (v := 2) hx hb dL_act_158 (by decide) ?_
      refine lv_idiv hx hb dL_act_159 (by decide) ?_
      refine lv_iconst (v := 2) hx hb dL_act_160 (by decide) ?_
      refine lv_irem hx hb dL_act_161 (by decide) ?_
      refine lv_iconst (v := 0) hx hb dL_act_162 (by decide) ?_
      refine lv_iconst (v := 0) hx hb dL_act_163 (by decide) ?_
      obtain ⟨r38, hr38, h⟩ := ob_some h
      refine mw_wi (my_runS (As := [.ref (ad_p0 0), .int 15, .int (((p1 / 16) / 2) - ((p1 / 16) / 2) / 2 * 2), .int 0, .int 0]) (rest := []) hC hX hM hS (c_L_call_15 (ad_p0 := ad_p0) (s_p0 := s_p0) (hO_p0 := hO_p0) (hlt := hlt) (v := r38) hr38) gL_act_L_call rfl rfl rfl q_L_call ⟨(Nat.le_of_ble_eq_true rfl), (Nat.le_of_ble_eq_true rfl)⟩ rfl rfl (Nat.le_of_ble_eq_true rfl) hl.1 dL_act_164 ⟨(Nat.le_of_ble_eq_true rfl), (Nat.le_of_ble_eq_true rfl)⟩) hS (fun r9 H locs σ1 hp39 hM hS => ?_)
      obtain ⟨hr9, hO9, hk40⟩ := hp39
      replace hr9 := hr9.symm
      subst hr9
      replace hO_p0 := hO9
      have hk41 := KEO.tr hk7 hk40
      refine W.eq (g2 := F0 m 167 ls [.int r38.1]) rfl ?_
      exact J36 r38.1 r38.2 _ _ _ hM hS hO_p0 hk41 h ls (lv_sub hl [] rfl)
    · replace h := it_pos c37 h
      refine lv_aload_n hx hb dL_act_138 rfl (lv_at hl 2 rfl) ?_
      refine lv_bipush (v := 14) hx hb dL_act_139 (by decide) ?_
      refine lv_iload_n hx hb dL_act_141 rfl (lv_at hl 1 rfl) ?_
      refine lv_iconst (v := 2) hx hb dL_act_142 (by decide) ?_
      refine lv_idiv hx hb dL_act_143 (by decide) ?_
      refine lv_iconst (v := 2) hx hb dL_act_144 (by decide) ?_
      refine lv_irem hx hb dL_act_145 (by decide) ?_
      refine lv_iconst (v := 0) hx hb dL_act_146 (by decide) ?_
      refine lv_iconst (v := 0) hx hb dL_act_147 (by decide) ?_
      obtain ⟨r42, hr42, h⟩ := ob_some h
      refine mw_wi (my_runS (As := [.ref (ad_p0 0), .int 14, .int (((p1 / 16) / 2) - ((p1 / 16) / 2) / 2 * 2), .int 0, .int 0]) (rest := []) hC hX hM hS (c_L_call_14 (ad_p0 := ad_p0) (s_p0 := s_p0) (hO_p0 := hO_p0) (hlt := hlt) (v := r42) hr42) gL_act_L_call rfl rfl rfl q_L_call ⟨(Nat.le_of_ble_eq_true rfl), (Nat.le_of_ble_eq_true rfl)⟩ rfl rfl (Nat.le_of_ble_eq_true rfl) hl.1 dL_act_148 ⟨(Nat.le_of_ble_eq_true rfl), (Nat.le_of_ble_eq_true rfl)⟩) hS (fun r9 H locs σ1 hp43 hM hS => ?_)
      obtain ⟨hr9, hO9, hk44⟩ := hp43
      replace hr9 := hr9.symm
      subst hr9
      replace hO_p0 := hO9
      have hk45 := KEO.tr hk7 hk44
      refine W.eq (g2 := F0 m 151 ls [.int r42.1]) rfl ?_
      refine lv_goto (tgt := 167) hx hb dL_act_151 (by decide) ?_
      exact J36 r42.1 r42.2 _ _ _ hM hS hO_p0 hk45 h ls (lv_sub hl [] rfl)
  replace h := it_neg c35 h
  by_cases c46 : (p1 - p1 / 16 * 16) = 4
  · replace h := it_pos c46 h
    refine lv_tableIn (tgt := 168) hx hb dL_act_27 (by rw [c46]; decide) (by rw [c46]; decide) (by rw [c46]; rfl) (by decide) ?_
    refine lv_aload_n hx hb dL_act_168 rfl (lv_at hl 2 rfl) ?_
    obtain ⟨r47, hr47, h⟩ := ob_some h
    refine mw_ci (mw_runV (As := []) (rest := []) (ci := 5) (C := RX7) (T := TX7) (N := 6) hC hM hS (hO_p0.at0) rfl (o_X7_bestTake hO_p0 hr47) gL_act_X7_bestTake rfl rfl rfl rfl q_X7_bestTake ⟨(Nat.le_of_ble_eq_true rfl), (Nat.le_of_ble_eq_true rfl)⟩ rfl rfl (Nat.le_of_ble_eq_true rfl) hl.1 dL_act_169 ⟨(Nat.le_of_ble_eq_true rfl), (Nat.le_of_ble_eq_true rfl)⟩) ?_
    refine lv_istore (lv' := [(4, .int r47), (3, .int (r1 * r4)), (2, .int (p1 / 16)), (0, .ref (ad_p0 0)), (1, .int p1)]) hx hb dL_act_172 hl (by decide) rfl (fun ls hl => ?_)
    refine lv_iload hx hb dL_act_174 (lv_at hl 0 rfl) ?_
    refine lv_iconst (v := -1) hx hb dL_act_176 (by decide) ?_
    obtain ⟨k48, ek48, h⟩ := bnd_ex h
    have J48 : ∀ (x48_0 : Int32) (t48_p0 : OSt) (H : Heap) (locs : List Loc) (σ1 : mwm), MW z D σ1 H → va_S (zA z) s.heap H locs → OB K ad_p0 σ1 t48_p0 → KEO ad_p0 σ σ1 → k48 x48_0 t48_p0 = some v → ∀ ls : Array Slot, lv_has ls 5 [] → W p l e ({ frames := 9, cells := 4, slots := 24, locals := 194 } : Room) s m ([.ref (ad_p0 0), .int p1] : List Value).toArray below meth c H locs 3 18 (MQ below (qwI z D (fun r σ2 => r = v.1 ∧ OB K ad_p0 σ2 v.2 ∧ KEO ad_p0 σ σ2)) ([.ref (ad_p0 0), .int p1] : List Value).toArray s 4 24 (zA z)) (F0 m 194 ls [.int x48_0]) := by
      intro x48_0 t48_p0 H locs σ1 hM hS hO_p0 hk h ls hl
      rw [ek48] at h
      replace h := Option.some.inj h
      subst h
      refine W.widen (k := 4) (n := 24) (Nat.le_of_ble_eq_true rfl) (Nat.le_of_ble_eq_true rfl) ?_
      exact W.iret hx hb hr (fun t ht hW => ⟨⟨_, _, rfl, ⟨rfl, hO_p0, hk⟩, by show MW z D _ t.heap; rw [ht]; exact hM⟩, hS.F ht⟩) hS.2.2 dL_act_194 hlocks
    refine lv_icmp_ne (tgt := 184) hx hb dL_act_177 (by decide) (fun c49 => ?_) (fun c49 => ?_)
    · replace h := it_neg c49 h
      refine lv_aload_n hx hb dL_act_184 rfl (lv_at hl 3 rfl) ?_
      refine lv_bipush (v := 7) hx hb dL_act_185 (by decide) ?_
      refine lv_iload hx hb dL_act_187 (lv_at hl 0 rfl) ?_
      refine lv_iconst (v := 0) hx hb dL_act_189 (by decide) ?_
      refine lv_iconst (v := 0) hx hb dL_act_190 (by decide) ?_
      obtain ⟨r50, hr50, h⟩ := ob_some h
      refine mw_wi (my_runS (As := [.ref (ad_p0 0), .int 7, .int r47, .int 0, .int 0]) (rest := []) hC hX hM hS (c_L_call_7 (ad_p0 := ad_p0) (s_p0 := s_p0) (hO_p0 := hO_p0) (hlt := hlt) (v := r50) hr50) gL_act_L_call rfl rfl rfl q_L_call ⟨(Nat.le_of_ble_eq_true rfl), (Nat.le_of_ble_eq_true rfl)⟩ rfl rfl (Nat.le_of_ble_eq_true rfl) hl.1 dL_act_191 ⟨(Nat.le_of_ble_eq_true rfl), (Nat.le_of_ble_eq_true rfl)⟩) hS (fun r9 H locs σ1 hp51 hM hS => ?_)
      obtain ⟨hr9, hO9, hk52⟩ := hp51
      replace hr9 := hr9.symm
      subst hr9
      replace hO_p0 := hO9
      have hk53 := KEO.tr hk7 hk52
      refine W.eq (g2 := F0 m 194 ls [.int r50.1]) rfl ?_
      exact J48 r50.1 r50.2 _ _ _ hM hS hO_p0 hk53 h ls (lv_sub hl [] rfl)
    · replace h := it_pos c49 h
      refine lv_iconst (v := -1) hx hb dL_act_180 (by decide) ?_
      refine lv_goto (tgt := 194) hx hb dL_act_181 (by decide) ?_
      refine W.widen (k := 3) (n := 18) (Nat.le_of_ble_eq_true rfl) (Nat.le_of_ble_eq_true rfl) ?_
      refine W.eq (g2 := F0 m 194 ls [.int ((-1) : Int32)]) rfl ?_
      exact J48 ((-1) : Int32) s_p0 _ _ _ hM hS hO_p0 hk7 h ls (lv_sub hl [] rfl)
  replace h := it_neg c46 h
  refine lv_tableOut (tgt := 195) hx hb dL_act_27 (by have t0 := lv_neT (a := 0) c8 rfl; have t1 := lv_neT (a := 1) c19 rfl; have t2 := lv_neT (a := 2) c24 rfl; have t3 := lv_neT (a := 3) c35 rfl; have t4 := lv_neT (a := 4) c46 rfl; omega) (by decide) ?_
  refine lv_aload_n hx hb dL_act_195 rfl (lv_at hl 2 rfl) ?_
  refine lv_bipush (v := 7) hx hb dL_act_196 (by decide) ?_
  refine lv_iload_n hx hb dL_act_198 rfl (lv_at hl 1 rfl) ?_
  refine lv_iload_n hx hb dL_act_199 rfl (lv_at hl 0 rfl) ?_
  by_cases c54 : (r1 * r4) = 0
  · replace h := it_pos c54 h; cases h
  replace h := it_neg c54 h
  refine lv_irem hx hb dL_act_200 c54 ?_
  refine lv_iconst (v := 0) hx hb dL_act_201 (by decide) ?_
  refine lv_iconst (v := 0) hx hb dL_act_202 (by decide) ?_
  obtain ⟨r55, hr55, h⟩ := ob_some h
  refine mw_wi (my_runS (As := [.ref (ad_p0 0), .int 7, .int ((p1 / 16) - (p1 / 16) / (r1 * r4) * (r1 * r4)), .int 0, .int 0]) (rest := []) hC hX hM hS (c_L_call_7 (ad_p0 := ad_p0) (s_p0 := s_p0) (hO_p0 := hO_p0) (hlt := hlt) (v := r55) hr55) gL_act_L_call rfl rfl rfl q_L_call ⟨(Nat.le_of_ble_eq_true rfl), (Nat.le_of_ble_eq_true rfl)⟩ rfl rfl (Nat.le_of_ble_eq_true rfl) hl.1 dL_act_203 ⟨(Nat.le_of_ble_eq_true rfl), (Nat.le_of_ble_eq_true rfl)⟩) hS (fun r9 H locs σ1 hp56 hM hS => ?_)
  obtain ⟨hr9, hO9, hk57⟩ := hp56
  replace hr9 := hr9.symm
  subst hr9
  replace hO_p0 := hO9
  have hk58 := KEO.tr hk7 hk57
  refine W.eq (g2 := F0 m 206 ls [.int r55.1]) rfl ?_
  replace h := Option.some.inj h
  subst h
  refine W.widen (k := 4) (n := 24) (Nat.le_of_ble_eq_true rfl) (Nat.le_of_ble_eq_true rfl) ?_
  exact W.iret hx hb hr (fun t ht hW => ⟨⟨_, _, rfl, ⟨rfl, hO_p0, hk58⟩, by show MW z D _ t.heap; rw [ht]; exact hM⟩, hS.F ht⟩) hS.2.2 dL_act_206 hlocks
theorem q_L_alike : yL_alike.cls ≠ "java/lang/invoke/MethodHandle" ∧ yL_alike.cls ≠ "java/lang/invoke/VarHandle" ∧ (parseMethodDescriptor yL_alike.desc).map (fun d => d.parameters.length) = some 3 := by decide +kernel
def fL_alike_64 (s_p0 : OSt) (s_p1 : OSt) (p2 : Int32) (r_p0 : OSt) (r_p1 : OSt) (k8 : Bool → OSt → OSt → Option (Bool × OSt × OSt)) : Nat → Bool → Int32 → Option (Bool × OSt × OSt)
  | 0, _, _ => none
  | fu0 + 1, x3, x4 => if 8 ≤ x4 then (k8 x3 r_p0 r_p1) else (if x3 = true then ((fL_call_2 r_p0 x4 (0 : Int32) (0 : Int32)).bind fun r11 => (fL_call_2 r_p1 x4 (0 : Int32) (0 : Int32)).bind fun r14 => bnd (fun (x17_0 : Bool) => (fL_alike_64 s_p0 s_p1 p2 r_p0 r_p1 k8 fu0) x17_0 (x4 + 1)) fun k17 => if r11 = r14 then ((fL_call_3 r_p0 (x4 - x4 / 2 * 2) (x4 / 2) (0 : Int32)).bind fun r19 => (fL_call_3 r_p1 (x4 - x4 / 2 * 2) (x4 / 2) (0 : Int32)).bind fun r22 => if r19 = r22 then ((fL_call_5 r_p0 ((2 * x4) + (p2 - p2 / 9 * 9)) (0 : Int32) (0 : Int32)).bind fun r26 => (fL_call_5 r_p1 ((2 * x4) + (p2 - p2 / 9 * 9)) (0 : Int32) (0 : Int32)).bind fun r29 => if r26 = r29 then (k17 true) else (k17 false)) else (k17 false)) else (k17 false)) else (k8 x3 r_p0 r_p1))
def fL_alike (s_p0 : OSt) (s_p1 : OSt) (p2 : Int32) : Option (Bool × OSt × OSt) := (fL_doSimulate s_p0 p2.toInt64 (1 + (p2 - p2 / 30 * 30))).bind fun r1 => (fL_doSimulate s_p1 p2.toInt64 (1 + (p2 - p2 / 30 * 30))).bind fun r4 => bnd (fun (x7_0 : Bool) => bnd (fun (x8_l3 : Bool) (t8_p0 : OSt) (t8_p1 : OSt) => some (x8_l3, t8_p0, t8_p1)) fun k8 => fL_alike_64 s_p0 s_p1 p2 r1.2 r4.2 k8 12 x7_0 (0 : Int32)) fun k7 => if r1.1 = r4.1 then ((fL_has r1.2 (0 : Int32)).bind fun r34 => (fL_has r4.2 (0 : Int32)).bind fun r37 => if r34 = r37 then ((fL_has r1.2 (1 : Int32)).bind fun r41 => (fL_has r4.2 (1 : Int32)).bind fun r44 => if r41 = r44 then (k7 true) else (k7 false)) else (k7 false)) else (k7 false)
set_option maxHeartbeats 8000000 in
set_option maxRecDepth 100000 in
theorem c_L_alike {l : Launch} {z : Nat} {D : va_G} {K : Nat → ClassId} {σ : mwm} {ad_p0 : Nat → Nat} {ad_p1 : Nat → Nat} {s_p0 : OSt} {s_p1 : OSt} {p2 : Int32} (hO_p0 : OB K ad_p0 σ s_p0) (hO_p1 : OB K ad_p1 σ s_p1) (hap : apt ad_p0 ad_p1) (hlt : l.stackTraces = false) {v : Bool × OSt × OSt} (h : fL_alike s_p0 s_p1 p2 = some v) : Met l yL_alike wsL_alike ({ frames := 9, cells := 78, slots := 468, locals := 194 } : Room) (PCx z D K [.ref (ad_p0 0), .ref (ad_p1 0), .int p2] σ) (qwI z D (fun r σ2 => r = b2i v.1 ∧ OB K ad_p0 σ2 v.2.1 ∧ OB K ad_p1 σ2 v.2.2)) 78 468 (zA z) := by
  refine my_enter (cc := cL_alike) (maxL := 5) (ret := (some .boolean)) (own := RL) (lv := [(0, .ref (ad_p0 0)), (1, .ref (ad_p1 0)), (2, .int p2)]) (by decide) rfl rfl (Nat.le_of_ble_eq_true rfl) rfl ?_
  intro p e s m below meth c ls hC hx hb hown hts hK hr hlocks hnm hz hM hS hl hX
  unfold fL_alike at h
  refine lv_aload_n hx hb dL_alike_0 rfl (lv_at hl 0 rfl) ?_
  refine lv_iload_n hx hb dL_alike_1 rfl (lv_at hl 2 rfl) ?_
  refine lv_i2l hx hb dL_alike_2 rfl ?_
  refine lv_iconst (v := 1) hx hb dL_alike_3 (by decide) ?_
  refine lv_iload_n hx hb dL_alike_4 rfl (lv_at hl 2 rfl) ?_
  refine lv_bipush (v := 30) hx hb dL_alike_5 (by decide) ?_
  refine lv_irem hx hb dL_alike_7 (by decide) ?_
  refine lv_iadd hx hb dL_alike_8 ?_
  obtain ⟨r1, hr1, h⟩ := ob_some h
  refine mw_wi (mw_runSW (As := [.ref (ad_p0 0), .long p2.toInt64, .int (1 + (p2 - p2 / 30 * 30))]) (rest := []) hC hX hM hS (c_L_doSimulate (ad_p0 := ad_p0) (s_p0 := s_p0) (hO_p0 := hO_p0) (hlt := hlt) (v := r1) hr1) gL_alike_L_doSimulate rfl rfl rfl q_L_doSimulate ⟨(Nat.le_of_ble_eq_true rfl), (Nat.le_of_ble_eq_true rfl)⟩ rfl rfl (Nat.le_of_ble_eq_true rfl) hl.1 dL_alike_9 ⟨(Nat.le_of_ble_eq_true rfl), (Nat.le_of_ble_eq_true rfl)⟩) hS (fun r9 H locs σ1 hp2 hM hS => ?_)
  obtain ⟨hr9, hO9, hk3⟩ := hp2
  replace hr9 := hr9.symm
  subst hr9
  replace hO_p1 := OB.keep hO_p1 hO_p0 hap hk3
  replace hO_p0 := hO9
  refine W.eq (g2 := F0 m 12 ls [.int r1.1]) rfl ?_
  refine lv_aload_n hx hb dL_alike_12 rfl (lv_at hl 1 rfl) ?_
  refine lv_iload_n hx hb dL_alike_13 rfl (lv_at hl 2 rfl) ?_
  refine lv_i2l hx hb dL_alike_14 rfl ?_
  refine lv_iconst (v := 1) hx hb dL_alike_15 (by decide) ?_
  refine lv_iload_n hx hb dL_alike_16 rfl (lv_at hl 2 rfl) ?_
  refine lv_bipush (v := 30) hx hb dL_alike_17 (by decide) ?_
  refine lv_irem hx hb dL_alike_19 (by decide) ?_
  refine lv_iadd hx hb dL_alike_20 ?_
  obtain ⟨r4, hr4, h⟩ := ob_some h
  refine mw_wi (mw_runSW (As := [.ref (ad_p1 0), .long p2.toInt64, .int (1 + (p2 - p2 / 30 * 30))]) (rest := [.int r1.1]) hC hX hM hS (c_L_doSimulate (ad_p0 := ad_p1) (s_p0 := s_p1) (hO_p0 := hO_p1) (hlt := hlt) (v := r4) hr4) gL_alike_L_doSimulate rfl rfl rfl q_L_doSimulate ⟨(Nat.le_of_ble_eq_true rfl), (Nat.le_of_ble_eq_true rfl)⟩ rfl rfl (Nat.le_of_ble_eq_true rfl) hl.1 dL_alike_21 ⟨(Nat.le_of_ble_eq_true rfl), (Nat.le_of_ble_eq_true rfl)⟩) hS (fun r9 H locs σ1 hp5 hM hS => ?_)
  obtain ⟨hr9, hO9, hk6⟩ := hp5
  replace hr9 := hr9.symm
  subst hr9
  replace hO_p0 := OB.keep hO_p0 hO_p1 hap.symm hk6
  replace hO_p1 := hO9
  refine W.eq (g2 := F0 m 24 ls [.int r4.1, .int r1.1]) rfl ?_
  obtain ⟨k7, ek7, h⟩ := bnd_ex h
  have J7 : ∀ (x7_0 : Bool) (H : Heap) (locs : List Loc) (σ1 : mwm), MW z D σ1 H → va_S (zA z) s.heap H locs → OB K ad_p0 σ1 r1.2 → OB K ad_p1 σ1 r4.2 → k7 x7_0 = some v → ∀ ls : Array Slot, lv_has ls 5 [(0, .ref (ad_p0 0)), (1, .ref (ad_p1 0)), (2, .int p2)] → W p l e ({ frames := 9, cells := 78, slots := 468, locals := 194 } : Room) s m ([.ref (ad_p0 0), .ref (ad_p1 0), .int p2] : List Value).toArray below meth c H locs 6 36 (MQ below (qwI z D (fun r σ2 => r = b2i v.1 ∧ OB K ad_p0 σ2 v.2.1 ∧ OB K ad_p1 σ2 v.2.2)) ([.ref (ad_p0 0), .ref (ad_p1 0), .int p2] : List Value).toArray s 78 468 (zA z)) (F0 m 60 ls [.int (b2i x7_0)]) := by
    intro x7_0 H locs σ1 hM hS hO_p0 hO_p1 h ls hl
    rw [ek7] at h
    refine lv_istore_n (lv' := [(3, .int (b2i x7_0)), (0, .ref (ad_p0 0)), (1, .ref (ad_p1 0)), (2, .int p2)]) hx hb dL_alike_60 rfl hl (by decide) rfl (fun ls hl => ?_)
    refine lv_iconst (v := 0) hx hb dL_alike_61 (by decide) ?_
    refine lv_istore (lv' := [(4, .int 0), (3, .int (b2i x7_0)), (0, .ref (ad_p0 0)), (1, .ref (ad_p1 0)), (2, .int p2)]) hx hb dL_alike_62 hl (by decide) rfl (fun ls hl => ?_)
    obtain ⟨k8, ek8, h⟩ := bnd_ex h
    have J8 : ∀ (x8_l3 : Bool) (t8_p0 : OSt) (t8_p1 : OSt) (H : Heap) (locs : List Loc) (σ1 : mwm), MW z D σ1 H → va_S (zA z) s.heap H locs → OB K ad_p0 σ1 t8_p0 → OB K ad_p1 σ1 t8_p1 → k8 x8_l3 t8_p0 t8_p1 = some v → ∀ ls : Array Slot, lv_has ls 5 [(3, .int (b2i x8_l3))] → W p l e ({ frames := 9, cells := 78, slots := 468, locals := 194 } : Room) s m ([.ref (ad_p0 0), .ref (ad_p1 0), .int p2] : List Value).toArray below meth c H locs 78 468 (MQ below (qwI z D (fun r σ2 => r = b2i v.1 ∧ OB K ad_p0 σ2 v.2.1 ∧ OB K ad_p1 σ2 v.2.2)) ([.ref (ad_p0 0), .ref (ad_p1 0), .int p2] : List Value).toArray s 78 468 (zA z)) (F0 m 174 ls []) := by
      intro x8_l3 t8_p0 t8_p1 H locs σ1 hM hS hO_p0 hO_p1 h ls hl
      rw [ek8] at h
      refine lv_iload_n hx hb dL_alike_174 rfl (lv_at hl 0 rfl) ?_
      replace h := Option.some.inj h
      subst h
      exact W.zret (ty := .boolean) (v := b2i x8_l3) hx hb hr (b2i_nar _) (fun t ht hW => ⟨⟨_, _, rfl, ⟨rfl, hO_p0, hO_p1⟩, by show MW z D _ t.heap; rw [ht]; exact hM⟩, hS.F ht⟩) hS.2.2 dL_alike_175 hlocks
    have L64 : ∀ (r_p0 : OSt) (r_p1 : OSt) (fu0 : Nat) (x3 : Bool) (x4 : Int32) (cc0 ss0 : Nat) (H : Heap) (locs : List Loc) (σ1 : mwm), cc0 + fu0 * 6 ≤ 78 → ss0 + fu0 * 36 ≤ 468 → MW z D σ1 H → va_S (zA z) s.heap H locs → OB K ad_p0 σ1 r_p0 → OB K ad_p1 σ1 r_p1 → fL_alike_64 s_p0 s_p1 p2 r_p0 r_p1 k8 fu0 x3 x4 = some v → ∀ ls : Array Slot, lv_has ls 5 [(0, .ref (ad_p0 0)), (1, .ref (ad_p1 0)), (2, .int p2), (3, .int (b2i x3)), (4, .int x4)] → W p l e ({ frames := 9, cells := 78, slots := 468, locals := 194 } : Room) s m ([.ref (ad_p0 0), .ref (ad_p1 0), .int p2] : List Value).toArray below meth c H locs cc0 ss0 (MQ below (qwI z D (fun r σ2 => r = b2i v.1 ∧ OB K ad_p0 σ2 v.2.1 ∧ OB K ad_p1 σ2 v.2.2)) ([.ref (ad_p0 0), .ref (ad_p1 0), .int p2] : List Value).toArray s 78 468 (zA z)) (F0 m 64 ls []) := by
      intro r_p0 r_p1 fu0
      induction fu0 with
      | zero =>
        intro x3 x4 cc0 ss0 H locs σ1 hcc hss hM hS hO_p0 hO_p1 h
        unfold fL_alike_64 at h
        cases h
      | succ fu0 ih0 =>
        intro x3 x4 cc0 ss0 H locs σ1 hcc hss hM hS hO_p0 hO_p1 h ls hl
        unfold fL_alike_64 at h
        refine lv_iload hx hb dL_alike_64 (lv_at hl 4 rfl) ?_
        refine lv_bipush (v := 8) hx hb dL_alike_66 (by decide) ?_
        refine lv_icmp_ge (tgt := 174) hx hb dL_alike_68 (by decide) (fun c9 => ?_) (fun c9 => ?_)
        · replace h := it_pos c9 h
          refine W.widen (k := 78) (n := 468) (by omega) (by omega) ?_
          exact J8 x3 r_p0 r_p1 _ _ _ hM hS hO_p0 hO_p1 h ls (lv_sub hl [3] rfl)
        · replace h := it_neg c9 h
          refine lv_iload_n hx hb dL_alike_71 rfl (lv_at hl 3 rfl) ?_
          refine lv_if_eq (tgt := 174) hx hb dL_alike_72 (by decide) (fun c10 => ?_) (fun c10 => ?_)
          · replace c10 := b2i_eq0.mp c10
            replace h := it_neg c10 h
            refine W.widen (k := 78) (n := 468) (by omega) (by omega) ?_
            exact J8 x3 r_p0 r_p1 _ _ _ hM hS hO_p0 hO_p1 h ls (lv_sub hl [3] rfl)
          · replace c10 := b2i_ne0.mp c10
            replace h := it_pos c10 h
            refine lv_aload_n hx hb dL_alike_75 rfl (lv_at hl 0 rfl) ?_
            refine lv_iconst (v := 2) hx hb dL_alike_76 (by decide) ?_
            refine lv_iload hx hb dL_alike_77 (lv_at hl 4 rfl) ?_
            refine lv_iconst (v := 0) hx hb dL_alike_79 (by decide) ?_
            refine lv_iconst (v := 0) hx hb dL_alike_80 (by decide) ?_
            obtain ⟨r11, hr11, h⟩ := ob_some h
            refine mw_wi (my_runS (As := [.ref (ad_p0 0), .int 2, .int x4, .int 0, .int 0]) (rest := []) hC hX hM hS (c_L_call_2 (ad_p0 := ad_p0) (s_p0 := r_p0) (hO_p0 := hO_p0) (hlt := hlt) (v := r11) hr11) gL_alike_L_call rfl rfl rfl q_L_call ⟨(Nat.le_of_ble_eq_true rfl), (Nat.le_of_ble_eq_true rfl)⟩ rfl rfl (Nat.le_of_ble_eq_true rfl) hl.1 dL_alike_81 ⟨(by dsimp only; omega), (by dsimp only; omega)⟩) hS (fun r9 H locs σ1 hp12 hM hS => ?_)
            obtain ⟨hr9, hO9, hk13⟩ := hp12
            replace hr9 := hr9.symm
            subst hr9
            replace hO_p1 := OB.keep hO_p1 hO_p0 hap hk13
            replace hO_p0 := hO9
            refine W.eq (g2 := F0 m 84 ls [.int r11]) rfl ?_
            refine W.widen (k := (cc0 + 1)) (n := (ss0 + 6)) (by omega) (by omega) ?_
            refine lv_aload_n hx hb dL_alike_84 rfl (lv_at hl 1 rfl) ?_
            refine lv_iconst (v := 2) hx hb dL_alike_85 (by decide) ?_
            refine lv_iload hx hb dL_alike_86 (lv_at hl 4 rfl) ?_
            refine lv_iconst (v := 0) hx hb dL_alike_88 (by decide) ?_
            refine lv_iconst (v := 0) hx hb dL_alike_89 (by decide) ?_
            obtain ⟨r14, hr14, h⟩ := ob_some h
            refine mw_wi (my_runS (As := [.ref (ad_p1 0), .int 2, .int x4, .int 0, .int 0]) (rest := [.int r11]) hC hX hM hS (c_L_call_2 (ad_p0 := ad_p1) (s_p0 := r_p1) (hO_p0 := hO_p1) (hlt := hlt) (v := r14) hr14) gL_alike_L_call rfl rfl rfl q_L_call ⟨(Nat.le_of_ble_eq_true rfl), (Nat.le_of_ble_eq_true rfl)⟩ rfl rfl (Nat.le_of_ble_eq_true rfl) hl.1 dL_alike_90 ⟨(by dsimp only; omega), (by dsimp only; omega)⟩) hS (fun r9 H locs σ1 hp15 hM hS => ?_)
            obtain ⟨hr9, hO9, hk16⟩ := hp15
            replace hr9 := hr9.symm
            subst hr9
            replace hO_p0 := OB.keep hO_p0 hO_p1 hap.symm hk16
            replace hO_p1 := hO9
            refine W.eq (g2 := F0 m 93 ls [.int r14, .int r11]) rfl ?_
            refine W.widen (k := (cc0 + 2)) (n := (ss0 + 12)) (by omega) (by omega) ?_
            obtain ⟨k17, ek17, h⟩ := bnd_ex h
            have J17 : ∀ (x17_0 : Bool) (H : Heap) (locs : List Loc) (σ1 : mwm), MW z D σ1 H → va_S (zA z) s.heap H locs → OB K ad_p0 σ1 r_p0 → OB K ad_p1 σ1 r_p1 → k17 x17_0 = some v → ∀ ls : Array Slot, lv_has ls 5 [(0, .ref (ad_p0 0)), (1, .ref (ad_p1 0)), (2, .int p2), (4, .int x4)] → W p l e ({ frames := 9, cells := 78, slots := 468, locals := 194 } : Room) s m ([.ref (ad_p0 0), .ref (ad_p1 0), .int p2] : List Value).toArray below meth c H locs (cc0 + 6) (ss0 + 36) (MQ below (qwI z D (fun r σ2 => r = b2i v.1 ∧ OB K ad_p0 σ2 v.2.1 ∧ OB K ad_p1 σ2 v.2.2)) ([.ref (ad_p0 0), .ref (ad_p1 0), .int p2] : List Value).toArray s 78 468 (zA z)) (F0 m 167 ls [.int (b2i x17_0)]) := by
              intro x17_0 H locs σ1 hM hS hO_p0 hO_p1 h ls hl
              rw [ek17] at h
              refine lv_istore_n (lv' := [(3, .int (b2i x17_0)), (0, .ref (ad_p0 0)), (1, .ref (ad_p1 0)), (2, .int p2), (4, .int x4)]) hx hb dL_alike_167 rfl hl (by decide) rfl (fun ls hl => ?_)
              refine lv_iinc (v := (x4 + 1)) (lv' := [(4, .int (x4 + 1)), (3, .int (b2i x17_0)), (0, .ref (ad_p0 0)), (1, .ref (ad_p1 0)), (2, .int p2)]) hx hb dL_alike_168 hl (k := 4) rfl rfl (by decide) rfl (fun ls hl => ?_)
              refine lv_goto (tgt := 64) hx hb dL_alike_171 (by decide) ?_
              exact ih0 x17_0 (x4 + 1) (cc0 + 6) (ss0 + 36) _ _ _ (by omega) (by omega) hM hS hO_p0 hO_p1 h ls (lv_sub hl [2, 3, 4, 1, 0] rfl)
            refine lv_icmp_ne (tgt := 166) hx hb dL_alike_93 (by decide) (fun c18 => ?_) (fun c18 => ?_)
            · replace h := it_neg c18 h
              refine lv_iconst (v := 0) hx hb dL_alike_166 (by decide) ?_
              refine W.widen (k := (cc0 + 6)) (n := (ss0 + 36)) (by omega) (by omega) ?_
              refine W.eq (g2 := F0 m 167 ls [.int (b2i false)]) rfl ?_
              exact J17 false _ _ _ hM hS hO_p0 hO_p1 h ls (lv_sub hl [0, 1, 2, 4] rfl)
            · replace h := it_pos c18 h
              refine lv_aload_n hx hb dL_alike_96 rfl (lv_at hl 0 rfl) ?_
              refine lv_iconst (v := 3) hx hb dL_alike_97 (by decide) ?_
              refine lv_iload hx hb dL_alike_98 (lv_at hl 4 rfl) ?_
              refine lv_iconst (v := 2) hx hb dL_alike_100 (by decide) ?_
              refine lv_irem hx hb dL_alike_101 (by decide) ?_
              refine lv_iload hx hb dL_alike_102 (lv_at hl 4 rfl) ?_
              refine lv_iconst (v := 2) hx hb dL_alike_104 (by decide) ?_
              refine lv_idiv hx hb dL_alike_105 (by decide) ?_
              refine lv_iconst (v := 0) hx hb dL_alike_106 (by decide) ?_
              obtain ⟨r19, hr19, h⟩ := ob_some h
              refine mw_wi (my_runS (As := [.ref (ad_p0 0), .int 3, .int (x4 - x4 / 2 * 2), .int (x4 / 2), .int 0]) (rest := []) hC hX hM hS (c_L_call_3 (ad_p0 := ad_p0) (s_p0 := r_p0) (hO_p0 := hO_p0) (hlt := hlt) (v := r19) hr19) gL_alike_L_call rfl rfl rfl q_L_call ⟨(Nat.le_of_ble_eq_true rfl), (Nat.le_of_ble_eq_true rfl)⟩ rfl rfl (Nat.le_of_ble_eq_true rfl) hl.1 dL_alike_107 ⟨(by dsimp only; omega), (by dsimp only; omega)⟩) hS (fun r9 H locs σ1 hp20 hM hS => ?_)
              obtain ⟨hr9, hO9, hk21⟩ := hp20
              replace hr9 := hr9.symm
              subst hr9
              replace hO_p1 := OB.keep hO_p1 hO_p0 hap hk21
              replace hO_p0 := hO9
              refine W.eq (g2 := F0 m 110 ls [.int r19]) rfl ?_
              refine W.widen (k := (cc0 + 3)) (n := (ss0 + 18)) (by omega) (by omega) ?_
              refine lv_aload_n hx hb dL_alike_110 rfl (lv_at hl 1 rfl) ?_
              refine lv_iconst (v := 3) hx hb dL_alike_111 (by decide) ?_
              refine lv_iload hx hb dL_alike_112 (lv_at hl 4 rfl) ?_
              refine lv_iconst (v := 2) hx hb dL_alike_114 (by decide) ?_
              refine lv_irem hx hb dL_alike_115 (by decide) ?_
              refine lv_iload hx hb dL_alike_116 (lv_at hl 4 rfl) ?_
              refine lv_iconst (v := 2) hx hb dL_alike_118 (by decide) ?_
              refine lv_idiv hx hb dL_alike_119 (by decide) ?_
              refine lv_iconst (v := 0) hx hb dL_alike_120 (by decide) ?_
              obtain ⟨r22, hr22, h⟩ := ob_some h
              refine mw_wi (my_runS (As := [.ref (ad_p1 0), .int 3, .int (x4 - x4 / 2 * 2), .int (x4 / 2), .int 0]) (rest := [.int r19]) hC hX hM hS (c_L_call_3 (ad_p0 := ad_p1) (s_p0 := r_p1) (hO_p0 := hO_p1) (hlt := hlt) (v := r22) hr22) gL_alike_L_call rfl rfl rfl q_L_call ⟨(Nat.le_of_ble_eq_true rfl), (Nat.le_of_ble_eq_true rfl)⟩ rfl rfl (Nat.le_of_ble_eq_true rfl) hl.1 dL_alike_121 ⟨(by dsimp only; omega), (by dsimp only; omega)⟩) hS (fun r9 H locs σ1 hp23 hM hS => ?_)
              obtain ⟨hr9, hO9, hk24⟩ := hp23
              replace hr9 := hr9.symm
              subst hr9
              replace hO_p0 := OB.keep hO_p0 hO_p1 hap.symm hk24
              replace hO_p1 := hO9
              refine W.eq (g2 := F0 m 124 ls [.int r22, .int r19]) rfl ?_
              refine W.widen (k := (cc0 + 4)) (n := (ss0 + 24)) (by omega) (by omega) ?_
              refine lv_icmp_ne (tgt := 166) hx hb dL_alike_124 (by decide) (fun c25 => ?_) (fun c25 => ?_)
              · replace h := it_neg c25 h
                refine lv_iconst (v := 0) hx hb dL_alike_166 (by decide) ?_
                refine W.widen (k := (cc0 + 6)) (n := (ss0 + 36)) (by omega) (by omega) ?_
                refine W.eq (g2 := F0 m 167 ls [.int (b2i false)]) rfl ?_
                exact J17 false _ _ _ hM hS hO_p0 hO_p1 h ls (lv_sub hl [0, 1, 2, 4] rfl)
              · replace h := it_pos c25 h
                refine lv_aload_n hx hb dL_alike_127 rfl (lv_at hl 0 rfl) ?_
                refine lv_iconst (v := 5) hx hb dL_alike_128 (by decide) ?_
                refine lv_iconst (v := 2) hx hb dL_alike_129 (by decide) ?_
                refine lv_iload hx hb dL_alike_130 (lv_at hl 4 rfl) ?_
                refine lv_imul hx hb dL_alike_132 ?_
                refine lv_iload_n hx hb dL_alike_133 rfl (lv_at hl 2 rfl) ?_
                refine lv_bipush (v := 9) hx hb dL_alike_134 (by decide) ?_
                refine lv_irem hx hb dL_alike_136 (by decide) ?_
                refine lv_iadd hx hb dL_alike_137 ?_
                refine lv_iconst (v := 0) hx hb dL_alike_138 (by decide) ?_
                refine lv_iconst (v := 0) hx hb dL_alike_139 (by decide) ?_
                obtain ⟨r26, hr26, h⟩ := ob_some h
                refine mw_wi (my_runS (As := [.ref (ad_p0 0), .int 5, .int ((2 * x4) + (p2 - p2 / 9 * 9)), .int 0, .int 0]) (rest := []) hC hX hM hS (c_L_call_5 (ad_p0 := ad_p0) (s_p0 := r_p0) (hO_p0 := hO_p0) (hlt := hlt) (v := r26) hr26) gL_alike_L_call rfl rfl rfl q_L_call ⟨(Nat.le_of_ble_eq_true rfl), (Nat.le_of_ble_eq_true rfl)⟩ rfl rfl (Nat.le_of_ble_eq_true rfl) hl.1 dL_alike_140 ⟨(by dsimp only; omega), (by dsimp only; omega)⟩) hS (fun r9 H locs σ1 hp27 hM hS => ?_)
                obtain ⟨hr9, hO9, hk28⟩ := hp27
                replace hr9 := hr9.symm
                subst hr9
                replace hO_p1 := OB.keep hO_p1 hO_p0 hap hk28
                replace hO_p0 := hO9
                refine W.eq (g2 := F0 m 143 ls [.int r26]) rfl ?_
                refine W.widen (k := (cc0 + 5)) (n := (ss0 + 30)) (by omega) (by omega) ?_
                refine lv_aload_n hx hb dL_alike_143 rfl (lv_at hl 1 rfl) ?_
                refine lv_iconst (v := 5) hx hb dL_alike_144 (by decide) ?_
                refine lv_iconst (v := 2) hx hb dL_alike_145 (by decide) ?_
                refine lv_iload hx hb dL_alike_146 (lv_at hl 4 rfl) ?_
                refine lv_imul hx hb dL_alike_148 ?_
                refine lv_iload_n hx hb dL_alike_149 rfl (lv_at hl 2 rfl) ?_
                refine lv_bipush (v := 9) hx hb dL_alike_150 (by decide) ?_
                refine lv_irem hx hb dL_alike_152 (by decide) ?_
                refine lv_iadd hx hb dL_alike_153 ?_
                refine lv_iconst (v := 0) hx hb dL_alike_154 (by decide) ?_
                refine lv_iconst (v := 0) hx hb dL_alike_155 (by decide) ?_
                obtain ⟨r29, hr29, h⟩ := ob_some h
                refine mw_wi (my_runS (As := [.ref (ad_p1 0), .int 5, .int ((2 * x4) + (p2 - p2 / 9 * 9)), .int 0, .int 0]) (rest := [.int r26]) hC hX hM hS (c_L_call_5 (ad_p0 := ad_p1) (s_p0 := r_p1) (hO_p0 := hO_p1) (hlt := hlt) (v := r29) hr29) gL_alike_L_call rfl rfl rfl q_L_call ⟨(Nat.le_of_ble_eq_true rfl), (Nat.le_of_ble_eq_true rfl)⟩ rfl rfl (Nat.le_of_ble_eq_true rfl) hl.1 dL_alike_156 ⟨(by dsimp only; omega), (by dsimp only; omega)⟩) hS (fun r9 H locs σ1 hp30 hM hS => ?_)
                obtain ⟨hr9, hO9, hk31⟩ := hp30
                replace hr9 := hr9.symm
                subst hr9
                replace hO_p0 := OB.keep hO_p0 hO_p1 hap.symm hk31
                replace hO_p1 := hO9
                refine W.eq (g2 := F0 m 159 ls [.int r29, .int r26]) rfl ?_
                refine W.widen (k := (cc0 + 6)) (n := (ss0 + 36)) (by omega) (by omega) ?_
                refine lv_icmp_ne (tgt := 166) hx hb dL_alike_159 (by decide) (fun c32 => ?_) (fun c32 => ?_)
                · replace h := it_neg c32 h
                  refine lv_iconst (v := 0) hx hb dL_alike_166 (by decide) ?_
                  refine W.eq (g2 := F0 m 167 ls [.int (b2i false)]) rfl ?_
                  exact J17 false _ _ _ hM hS hO_p0 hO_p1 h ls (lv_sub hl [0, 1, 2, 4] rfl)
                · replace h := it_pos c32 h
                  refine lv_iconst (v := 1) hx hb dL_alike_162 (by decide) ?_
                  refine lv_goto (tgt := 167) hx hb dL_alike_163 (by decide) ?_
                  refine W.eq (g2 := F0 m 167 ls [.int (b2i true)]) rfl ?_
                  exact J17 true _ _ _ hM hS hO_p0 hO_p1 h ls (lv_sub hl [0, 1, 2, 4] rfl)
    exact L64 r1.2 r4.2 12 x7_0 (0 : Int32) 6 36 _ _ _ (Nat.le_of_ble_eq_true rfl) (Nat.le_of_ble_eq_true rfl) hM hS hO_p0 hO_p1 h ls (lv_sub hl [2, 3, 4, 1, 0] rfl)
  refine lv_icmp_ne (tgt := 59) hx hb dL_alike_24 (by decide) (fun c33 => ?_) (fun c33 => ?_)
  · replace h := it_neg c33 h
    refine lv_iconst (v := 0) hx hb dL_alike_59 (by decide) ?_
    refine W.widen (k := 6) (n := 36) (Nat.le_of_ble_eq_true rfl) (Nat.le_of_ble_eq_true rfl) ?_
    refine W.eq (g2 := F0 m 60 ls [.int (b2i false)]) rfl ?_
    exact J7 false _ _ _ hM hS hO_p0 hO_p1 h ls (lv_sub hl [0, 1, 2] rfl)
  · replace h := it_pos c33 h
    refine lv_aload_n hx hb dL_alike_27 rfl (lv_at hl 0 rfl) ?_
    refine lv_iconst (v := 0) hx hb dL_alike_28 (by decide) ?_
    obtain ⟨r34, hr34, h⟩ := ob_some h
    refine mw_wl (mw_runSW (As := [.ref (ad_p0 0), .int 0]) (rest := []) hC hX hM hS (c_L_has (ad_p0 := ad_p0) (s_p0 := r1.2) (hO_p0 := hO_p0) (hlt := hlt) (v := r34) hr34) gL_alike_L_has rfl rfl rfl q_L_has ⟨(Nat.le_of_ble_eq_true rfl), (Nat.le_of_ble_eq_true rfl)⟩ rfl rfl (Nat.le_of_ble_eq_true rfl) hl.1 dL_alike_29 ⟨(Nat.le_of_ble_eq_true rfl), (Nat.le_of_ble_eq_true rfl)⟩) hS (fun r9 H locs σ1 hp35 hM hS => ?_)
    obtain ⟨hr9, hO9, hk36⟩ := hp35
    replace hr9 := hr9.symm
    subst hr9
    replace hO_p1 := OB.keep hO_p1 hO_p0 hap hk36
    replace hO_p0 := hO9
    refine W.eq (g2 := F0 m 32 ls [.long r34]) rfl ?_
    refine lv_aload_n hx hb dL_alike_32 rfl (lv_at hl 1 rfl) ?_
    refine lv_iconst (v := 0) hx hb dL_alike_33 (by decide) ?_
    obtain ⟨r37, hr37, h⟩ := ob_some h
    refine mw_wl (mw_runSW (As := [.ref (ad_p1 0), .int 0]) (rest := [.long r34]) hC hX hM hS (c_L_has (ad_p0 := ad_p1) (s_p0 := r4.2) (hO_p0 := hO_p1) (hlt := hlt) (v := r37) hr37) gL_alike_L_has rfl rfl rfl q_L_has ⟨(Nat.le_of_ble_eq_true rfl), (Nat.le_of_ble_eq_true rfl)⟩ rfl rfl (Nat.le_of_ble_eq_true rfl) hl.1 dL_alike_34 ⟨(Nat.le_of_ble_eq_true rfl), (Nat.le_of_ble_eq_true rfl)⟩) hS (fun r9 H locs σ1 hp38 hM hS => ?_)
    obtain ⟨hr9, hO9, hk39⟩ := hp38
    replace hr9 := hr9.symm
    subst hr9
    replace hO_p0 := OB.keep hO_p0 hO_p1 hap.symm hk39
    replace hO_p1 := hO9
    refine W.eq (g2 := F0 m 37 ls [.long r37, .long r34]) rfl ?_
    refine W.lcmp hx hb dL_alike_37 ?_
    refine lv_if_ne (tgt := 59) hx hb dL_alike_38 (by decide) (fun c40 => ?_) (fun c40 => ?_)
    · replace c40 := mt (lg_cmp_eq _ _).mpr c40
      replace h := it_neg c40 h
      refine lv_iconst (v := 0) hx hb dL_alike_59 (by decide) ?_
      refine W.widen (k := 6) (n := 36) (Nat.le_of_ble_eq_true rfl) (Nat.le_of_ble_eq_true rfl) ?_
      refine W.eq (g2 := F0 m 60 ls [.int (b2i false)]) rfl ?_
      exact J7 false _ _ _ hM hS hO_p0 hO_p1 h ls (lv_sub hl [0, 1, 2] rfl)
    · replace c40 := (lg_cmp_eq _ _).mp c40
      replace h := it_pos c40 h
      refine lv_aload_n hx hb dL_alike_41 rfl (lv_at hl 0 rfl) ?_
      refine lv_iconst (v := 1) hx hb dL_alike_42 (by decide) ?_
      obtain ⟨r41, hr41, h⟩ := ob_some h
      refine mw_wl (mw_runSW (As := [.ref (ad_p0 0), .int 1]) (rest := []) hC hX hM hS (c_L_has (ad_p0 := ad_p0) (s_p0 := r1.2) (hO_p0 := hO_p0) (hlt := hlt) (v := r41) hr41) gL_alike_L_has rfl rfl rfl q_L_has ⟨(Nat.le_of_ble_eq_true rfl), (Nat.le_of_ble_eq_true rfl)⟩ rfl rfl (Nat.le_of_ble_eq_true rfl) hl.1 dL_alike_43 ⟨(Nat.le_of_ble_eq_true rfl), (Nat.le_of_ble_eq_true rfl)⟩) hS (fun r9 H locs σ1 hp42 hM hS => ?_)
      obtain ⟨hr9, hO9, hk43⟩ := hp42
      replace hr9 := hr9.symm
      subst hr9
      replace hO_p1 := OB.keep hO_p1 hO_p0 hap hk43
      replace hO_p0 := hO9
      refine W.eq (g2 := F0 m 46 ls [.long r41]) rfl ?_
      refine lv_aload_n hx hb dL_alike_46 rfl (lv_at hl 1 rfl) ?_
      refine lv_iconst (v := 1) hx hb dL_alike_47 (by decide) ?_
      obtain ⟨r44, hr44, h⟩ := ob_some h
      refine mw_wl (mw_runSW (As := [.ref (ad_p1 0), .int 1]) (rest := [.long r41]) hC hX hM hS (c_L_has (ad_p0 := ad_p1) (s_p0 := r4.2) (hO_p0 := hO_p1) (hlt := hlt) (v := r44) hr44) gL_alike_L_has rfl rfl rfl q_L_has ⟨(Nat.le_of_ble_eq_true rfl), (Nat.le_of_ble_eq_true rfl)⟩ rfl rfl (Nat.le_of_ble_eq_true rfl) hl.1 dL_alike_48 ⟨(Nat.le_of_ble_eq_true rfl), (Nat.le_of_ble_eq_true rfl)⟩) hS (fun r9 H locs σ1 hp45 hM hS => ?_)
      obtain ⟨hr9, hO9, hk46⟩ := hp45
      replace hr9 := hr9.symm
      subst hr9
      replace hO_p0 := OB.keep hO_p0 hO_p1 hap.symm hk46
      replace hO_p1 := hO9
      refine W.eq (g2 := F0 m 51 ls [.long r44, .long r41]) rfl ?_
      refine W.lcmp hx hb dL_alike_51 ?_
      refine lv_if_ne (tgt := 59) hx hb dL_alike_52 (by decide) (fun c47 => ?_) (fun c47 => ?_)
      · replace c47 := mt (lg_cmp_eq _ _).mpr c47
        replace h := it_neg c47 h
        refine lv_iconst (v := 0) hx hb dL_alike_59 (by decide) ?_
        refine W.eq (g2 := F0 m 60 ls [.int (b2i false)]) rfl ?_
        exact J7 false _ _ _ hM hS hO_p0 hO_p1 h ls (lv_sub hl [0, 1, 2] rfl)
      · replace c47 := (lg_cmp_eq _ _).mp c47
        replace h := it_pos c47 h
        refine lv_iconst (v := 1) hx hb dL_alike_55 (by decide) ?_
        refine lv_goto (tgt := 60) hx hb dL_alike_56 (by decide) ?_
        refine W.eq (g2 := F0 m 60 ls [.int (b2i true)]) rfl ?_
        exact J7 true _ _ _ hM hS hO_p0 hO_p1 h ls (lv_sub hl [0, 1, 2] rfl)
