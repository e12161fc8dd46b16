theorem l_X0_init_0 : Cond.methodLink RX0 3 objectInit ∈ wsX0_init := (List.mem_cons_of_mem _ (List.mem_append_left _ (List.mem_of_getElem? (i := 0) rfl)))
theorem l_X0_init_1 : Cond.instanceMethod objectInit ∈ wsX0_init := (List.mem_cons_of_mem _ (List.mem_append_left _ (List.mem_of_getElem? (i := 1) rfl)))
theorem l_X0_init_2 : Cond.code objectInit ⟨#[0xb1]⟩ 1 none ∈ wsX0_init := (List.mem_cons_of_mem _ (List.mem_append_left _ (List.mem_of_getElem? (i := 2) rfl)))
theorem l_X0_init_3 : Cond.arrayClass .long ∈ wsX0_init := (List.mem_cons_of_mem _ (List.mem_append_left _ (List.mem_of_getElem? (i := 3) rfl)))
theorem l_X0_init_4 : Cond.fieldLink RX0 9 "CornerStones$Game" "before0" "[J" ∈ wsX0_init := (List.mem_cons_of_mem _ (List.mem_append_left _ (List.mem_of_getElem? (i := 4) rfl)))
theorem i_X0_init_X0 : ∀ w ∈ wsX00, w ∈ wsX0_init := fun _ h => (List.mem_cons_of_mem _ (List.mem_append_right _ h))
theorem l_X0_init_6 : Cond.fieldLink RX0 15 "CornerStones$Game" "before1" "[J" ∈ wsX0_init := (List.mem_cons_of_mem _ (List.mem_append_left _ (List.mem_of_getElem? (i := 5) rfl)))
theorem l_X0_init_7 : Cond.fieldLink RX0 18 "CornerStones$Game" "grid" "LCornerStones$Grid;" ∈ wsX0_init := (List.mem_cons_of_mem _ (List.mem_append_left _ (List.mem_of_getElem? (i := 6) rfl)))
theorem q_X0_init : yX0_init.cls ≠ "java/lang/invoke/MethodHandle" ∧ yX0_init.cls ≠ "java/lang/invoke/VarHandle" ∧ (parseMethodDescriptor yX0_init.desc).map (fun d => d.parameters.length) = some 1 := by decide +kernel
def fX0_init  : (Int32 × Int32 × Int32 × Int32 × Int64 × Int64 × Int32 × Int32) × (Nat → Int64) × (Nat → Int64) := ((((0 : Int32), (0 : Int32), (0 : Int32), (0 : Int32), (0 : Int64), (0 : Int64), (0 : Int32), (0 : Int32)), (fun _ => (0 : Int64)), (fun _ => (0 : Int64))))
set_option maxHeartbeats 4000000 in
set_option maxRecDepth 100000 in
theorem c_X0_init {l : Launch} {z : Nat} {D : va_G} {K : Nat → ClassId} {σ : mwm} {a_t a_p0 : Nat}  (hc_t : σ a_t = some (.inr (0, [.null, .null, .null, .int (0 : Int32), .int (0 : Int32), .int (0 : Int32), .int (0 : Int32), .long (0 : Int64), .long (0 : Int64), .int (0 : Int32), .int (0 : Int32)]))) {v : (Int32 × Int32 × Int32 × Int32 × Int64 × Int64 × Int32 × Int32) × (Nat → Int64) × (Nat → Int64)} (h : fX0_init  = v) : Met l yX0_init wsX0_init ({ frames := 1, cells := 2, slots := 242, locals := 20 } : Room) (PCm z D K [.ref a_t, .ref a_p0] σ) (qwV z D (fun σ2 => ∃ a_q1 a_q2 : Nat, (∀ (b : Nat) (f : va_E), σ b = some f → b ≠ a_q1) ∧ (∀ (b : Nat) (f : va_E), σ b = some f → b ≠ a_q2) ∧ a_q1 ≠ a_q2 ∧ σ2 a_t = some (cl0 a_q1 a_q2 a_p0 v.1) ∧ σ2 a_q1 = some (eJ K 121 v.2.1) ∧ σ2 a_q2 = some (eJ K 121 v.2.2) ∧ ∀ (q : Nat) (f : va_E), σ q = some f → q ≠ a_t → σ2 q = some f)) 2 242 (zA z) := by
  refine mt_enter (cc := cX0_init) (maxL := 2) (ret := none) (own := RX0) (lv := [(0, .ref a_t), (1, .ref a_p0)]) (by decide) rfl rfl (Nat.le_of_ble_eq_true rfl) rfl ?_
  intro p e s m below meth c ls hC hx hb hown hts hK hr hlocks hnm hz hM hS hl
  unfold fX0_init at h
  refine lv_aload_n hx hb dX0_init_0 rfl (lv_at hl 0 rfl) ?_
  refine W.objInit hx hb hown (hts _ l_X0_init_0) (hts _ l_X0_init_1) (hts _ l_X0_init_2) rfl (by rw [hC.1.2.2.1]; exact hl.1) rfl dX0_init_1 (Nat.le_of_ble_eq_true rfl) (Nat.le_of_ble_eq_true rfl) ?_
  refine W.eq (g2 := F0 m 4 ls []) rfl ?_
  refine lv_aload_n hx hb dX0_init_4 rfl (lv_at hl 0 rfl) ?_
  refine lv_bipush (v := 121) hx hb dX0_init_5 (by decide) ?_
  refine mw_newa (atype := .long) (ty := .long) (a0 := (121, .inr (.inl (fun _ => (0 : Int64))))) 0 hC l_X0_init_3 rfl rfl hM hS (fun _ => rfl) (by decide) (by decide) (Nat.le_of_ble_eq_true rfl) (Nat.le_of_ble_eq_true rfl) (Nat.le_of_ble_eq_true rfl) dX0_init_7 (fun a_q1 H σ1 hM hS hc_q1 ho1 hq2 => ?_)
  have n_t_q1 : a_t ≠ a_q1 := hq2 a_t _ hc_t
  have hqf_q1 : ∀ (b : Nat) (f : va_E), σ b = some f → b ≠ a_q1 := by
    intro b f hb
    by_cases e0 : b = a_t
    · rw [e0]; exact n_t_q1
    exact hq2 b f hb
  replace hc_t := ho1 a_t _ hc_t 
  have hf3 := fun (q : Nat) (f : va_E) (hf : σ q = some f) (n0 : q ≠ a_t) => ho1 q f hf 
  replace hc_q1 : σ1 a_q1 = some (eJ K 121 (fun _ => (0 : Int64))) := hc_q1
  refine W.widen (k := 1) (n := 121) (Nat.le_of_ble_eq_true rfl) (Nat.le_of_ble_eq_true rfl) ?_
  refine mw_putF (ci := 0) (C := RX0) (T := TX0) (N := 11) (ty := (tyX0 0)) hC i_X0_init_X0 tyX0 tyX0_ok nmX0 hM hS hc_t rfl 0 (by decide) l_X0_init_4 rfl rfl hnm rfl (by decide +kernel) rfl rfl (Nat.le_of_ble_eq_true rfl) dX0_init_9 (fun H locs σ1 hM hS hc_t ho4 => ?_)
  replace hc_t : σ1 a_t = some (.inr (0, [.ref a_q1, .null, .null, .int (0 : Int32), .int (0 : Int32), .int (0 : Int32), .int (0 : Int32), .long (0 : Int64), .long (0 : Int64), .int (0 : Int32), .int (0 : Int32)])) := hc_t
  replace hc_q1 := ho4 a_q1 _ hc_q1 (Ne.symm n_t_q1)
  have hf5 := fun (q : Nat) (f : va_E) (hf : σ q = some f) (n0 : q ≠ a_t) => ho4 q f (hf3 q f hf n0) n0
  refine lv_aload_n hx hb dX0_init_12 rfl (lv_at hl 0 rfl) ?_
  refine lv_bipush (v := 121) hx hb dX0_init_13 (by decide) ?_
  refine mw_newa (atype := .long) (ty := .long) (a0 := (121, .inr (.inl (fun _ => (0 : Int64))))) 0 hC l_X0_init_3 rfl rfl hM hS (fun _ => rfl) (by decide) (by decide) (Nat.le_of_ble_eq_true rfl) (Nat.le_of_ble_eq_true rfl) (Nat.le_of_ble_eq_true rfl) dX0_init_15 (fun a_q2 H σ1 hM hS hc_q2 ho6 hq7 => ?_)
  have n_t_q2 : a_t ≠ a_q2 := hq7 a_t _ hc_t
  have n_q1_q2 : a_q1 ≠ a_q2 := hq7 a_q1 _ hc_q1
  have hqf_q2 : ∀ (b : Nat) (f : va_E), σ b = some f → b ≠ a_q2 := by
    intro b f hb
    by_cases e0 : b = a_t
    · rw [e0]; exact n_t_q2
    exact hq7 b f (hf5 b f hb e0)
  replace hc_t := ho6 a_t _ hc_t 
  replace hc_q1 := ho6 a_q1 _ hc_q1 
  have hf8 := fun (q : Nat) (f : va_E) (hf : σ q = some f) (n0 : q ≠ a_t) => ho6 q f (hf5 q f hf n0) 
  replace hc_q2 : σ1 a_q2 = some (eJ K 121 (fun _ => (0 : Int64))) := hc_q2
  refine W.widen (k := 2) (n := 242) (Nat.le_of_ble_eq_true rfl) (Nat.le_of_ble_eq_true rfl) ?_
  refine mw_putF (ci := 0) (C := RX0) (T := TX0) (N := 11) (ty := (tyX0 1)) hC i_X0_init_X0 tyX0 tyX0_ok nmX0 hM hS hc_t rfl 1 (by decide) l_X0_init_6 rfl rfl hnm rfl (by decide +kernel) rfl rfl (Nat.le_of_ble_eq_true rfl) dX0_init_17 (fun H locs σ1 hM hS hc_t ho9 => ?_)
  replace hc_t : σ1 a_t = some (.inr (0, [.ref a_q1, .ref a_q2, .null, .int (0 : Int32), .int (0 : Int32), .int (0 : Int32), .int (0 : Int32), .long (0 : Int64), .long (0 : Int64), .int (0 : Int32), .int (0 : Int32)])) := hc_t
  replace hc_q1 := ho9 a_q1 _ hc_q1 (Ne.symm n_t_q1)
  replace hc_q2 := ho9 a_q2 _ hc_q2 (Ne.symm n_t_q2)
  have hf10 := fun (q : Nat) (f : va_E) (hf : σ q = some f) (n0 : q ≠ a_t) => ho9 q f (hf8 q f hf n0) n0
  refine lv_aload_n hx hb dX0_init_20 rfl (lv_at hl 0 rfl) ?_
  refine lv_aload_n hx hb dX0_init_21 rfl (lv_at hl 1 rfl) ?_
  refine mw_put (ci := 0) (C := RX0) (T := TX0) (N := 11) (ty := (tyX0 2)) hC i_X0_init_X0 tyX0 tyX0_ok nmX0 hM hS hc_t rfl 2 (by decide) l_X0_init_7 rfl rfl (by decide +kernel) rfl rfl (Nat.le_of_ble_eq_true rfl) dX0_init_22 (fun H locs σ1 hM hS hc_t ho11 => ?_)
  replace hc_t : σ1 a_t = some (cl0 a_q1 a_q2 a_p0 ((0 : Int32), (0 : Int32), (0 : Int32), (0 : Int32), (0 : Int64), (0 : Int64), (0 : Int32), (0 : Int32))) := hc_t
  replace hc_q1 := ho11 a_q1 _ hc_q1 (Ne.symm n_t_q1)
  replace hc_q2 := ho11 a_q2 _ hc_q2 (Ne.symm n_t_q2)
  have hf12 := fun (q : Nat) (f : va_E) (hf : σ q = some f) (n0 : q ≠ a_t) => ho11 q f (hf10 q f hf n0) n0
  subst h
  exact W.vret hx hb hr (fun t ht hW => ⟨⟨_, rfl, ⟨a_q1, a_q2, hqf_q1, hqf_q2, n_q1_q2, hc_t, hc_q1, hc_q2, hf12⟩, by show MW z D _ t.heap; rw [ht]; exact hM⟩, hS.F ht⟩) hS.2.2 dX0_init_25 hlocks
theorem l_X1_init_0 : Cond.methodLink RX1 3 objectInit ∈ wsX1_init := (List.mem_cons_of_mem _ (List.mem_append_left _ (List.mem_of_getElem? (i := 0) rfl)))
theorem l_X1_init_1 : Cond.instanceMethod objectInit ∈ wsX1_init := (List.mem_cons_of_mem _ (List.mem_append_left _ (List.mem_of_getElem? (i := 1) rfl)))
theorem l_X1_init_2 : Cond.code objectInit ⟨#[0xb1]⟩ 1 none ∈ wsX1_init := (List.mem_cons_of_mem _ (List.mem_append_left _ (List.mem_of_getElem? (i := 2) rfl)))
theorem l_X1_init_3 : Cond.arrayClass .char ∈ wsX1_init := (List.mem_cons_of_mem _ (List.mem_append_left _ (List.mem_of_getElem? (i := 3) rfl)))
theorem l_X1_init_4 : Cond.fieldLink RX1 9 "CornerStones$GameText" "characters" "[C" ∈ wsX1_init := (List.mem_cons_of_mem _ (List.mem_append_left _ (List.mem_of_getElem? (i := 4) rfl)))
theorem i_X1_init_X1 : ∀ w ∈ wsX10, w ∈ wsX1_init := fun _ h => (List.mem_cons_of_mem _ (List.mem_append_right _ h))
theorem q_X1_init : yX1_init.cls ≠ "java/lang/invoke/MethodHandle" ∧ yX1_init.cls ≠ "java/lang/invoke/VarHandle" ∧ (parseMethodDescriptor yX1_init.desc).map (fun d => d.parameters.length) = some 0 := by decide +kernel
def fX1_init  : Int32 × (Nat → Int32) := (((0 : Int32), (fun _ => (0 : Int32))))
set_option maxHeartbeats 4000000 in
set_option maxRecDepth 100000 in
theorem c_X1_init {l : Launch} {z : Nat} {D : va_G} {K : Nat → ClassId} {σ : mwm} {a_t : Nat}  (hc_t : σ a_t = some (.inr (1, [.null, .int (0 : Int32)]))) {v : Int32 × (Nat → Int32)} (h : fX1_init  = v) : Met l yX1_init wsX1_init ({ frames := 1, cells := 1, slots := 120, locals := 20 } : Room) (PCm z D K [.ref a_t] σ) (qwV z D (fun σ2 => ∃ a_q1 : Nat, (∀ (b : Nat) (f : va_E), σ b = some f → b ≠ a_q1) ∧ σ2 a_t = some (cl1 a_q1 v.1) ∧ σ2 a_q1 = some (eC K 120 v.2) ∧ ∀ (q : Nat) (f : va_E), σ q = some f → q ≠ a_t → σ2 q = some f)) 1 120 (zA z) := by
  refine mt_enter (cc := cX1_init) (maxL := 1) (ret := none) (own := RX1) (lv := [(0, .ref a_t)]) (by decide) rfl rfl (Nat.le_of_ble_eq_true rfl) rfl ?_
  intro p e s m below meth c ls hC hx hb hown hts hK hr hlocks hnm hz hM hS hl
  unfold fX1_init at h
  refine lv_aload_n hx hb dX1_init_0 rfl (lv_at hl 0 rfl) ?_
  refine W.objInit hx hb hown (hts _ l_X1_init_0) (hts _ l_X1_init_1) (hts _ l_X1_init_2) rfl (by rw [hC.1.2.2.1]; exact hl.1) rfl dX1_init_1 (Nat.le_of_ble_eq_true rfl) (Nat.le_of_ble_eq_true rfl) ?_
  refine W.eq (g2 := F0 m 4 ls []) rfl ?_
  refine lv_aload_n hx hb dX1_init_4 rfl (lv_at hl 0 rfl) ?_
  refine lv_bipush (v := 120) hx hb dX1_init_5 (by decide) ?_
  refine mw_newa (atype := .char) (ty := .char) (a0 := (120, .inl (fun _ => (0 : Int32)))) 2 hC l_X1_init_3 rfl rfl hM hS (fun _ => rfl) (by decide) (by decide) (Nat.le_of_ble_eq_true rfl) (Nat.le_of_ble_eq_true rfl) (Nat.le_of_ble_eq_true rfl) dX1_init_7 (fun a_q1 H σ1 hM hS hc_q1 ho1 hq2 => ?_)
  have n_t_q1 : a_t ≠ a_q1 := hq2 a_t _ hc_t
  have hqf_q1 : ∀ (b : Nat) (f : va_E), σ b = some f → b ≠ a_q1 := by
    intro b f hb
    by_cases e0 : b = a_t
    · rw [e0]; exact n_t_q1
    exact hq2 b f hb
  replace hc_t := ho1 a_t _ hc_t 
  have hf3 := fun (q : Nat) (f : va_E) (hf : σ q = some f) (n0 : q ≠ a_t) => ho1 q f hf 
  replace hc_q1 : σ1 a_q1 = some (eC K 120 (fun _ => (0 : Int32))) := hc_q1
  refine W.widen (k := 1) (n := 120) (Nat.le_of_ble_eq_true rfl) (Nat.le_of_ble_eq_true rfl) ?_
  refine mw_putF (ci := 1) (C := RX1) (T := TX1) (N := 2) (ty := (tyX1 0)) hC i_X1_init_X1 tyX1 tyX1_ok nmX1 hM hS hc_t rfl 0 (by decide) l_X1_init_4 rfl rfl hnm rfl (by decide +kernel) rfl rfl (Nat.le_of_ble_eq_true rfl) dX1_init_9 (fun H locs σ1 hM hS hc_t ho4 => ?_)
  replace hc_t : σ1 a_t = some (cl1 a_q1 (0 : Int32)) := hc_t
  replace hc_q1 := ho4 a_q1 _ hc_q1 (Ne.symm n_t_q1)
  have hf5 := fun (q : Nat) (f : va_E) (hf : σ q = some f) (n0 : q ≠ a_t) => ho4 q f (hf3 q f hf n0) n0
  subst h
  exact W.vret hx hb hr (fun t ht hW => ⟨⟨_, rfl, ⟨a_q1, hqf_q1, hc_t, hc_q1, hf5⟩, by show MW z D _ t.heap; rw [ht]; exact hM⟩, hS.F ht⟩) hS.2.2 dX1_init_12 hlocks
theorem l_X6_init_0 : Cond.methodLink RX6 1 objectInit ∈ wsX6_init := (List.mem_cons_of_mem _ (List.mem_append_left _ (List.mem_append_left _ (List.mem_of_getElem? (i := 0) rfl))))
theorem l_X6_init_1 : Cond.instanceMethod objectInit ∈ wsX6_init := (List.mem_cons_of_mem _ (List.mem_append_left _ (List.mem_append_left _ (List.mem_of_getElem? (i := 1) rfl))))
theorem l_X6_init_2 : Cond.code objectInit ⟨#[0xb1]⟩ 1 none ∈ wsX6_init := (List.mem_cons_of_mem _ (List.mem_append_left _ (List.mem_append_left _ (List.mem_of_getElem? (i := 2) rfl))))
theorem l_X6_init_3 : Cond.classLink RX6 7 RX0 ∈ wsX6_init := (List.mem_cons_of_mem _ (List.mem_append_left _ (List.mem_append_left _ (List.mem_of_getElem? (i := 3) rfl))))
theorem l_X6_init_4 : Cond.instantiable RX0 11 ∈ wsX6_init := (List.mem_cons_of_mem _ (List.mem_append_left _ (List.mem_append_left _ (List.mem_of_getElem? (i := 4) rfl))))
theorem l_X6_init_5 : Cond.initialized RX0 ∈ wsX6_init := (List.mem_cons_of_mem _ (List.mem_append_left _ (List.mem_append_left _ (List.mem_of_getElem? (i := 5) rfl))))
theorem i_X6_init_X0 : ∀ w ∈ wsX00, w ∈ wsX6_init := fun _ h => (List.mem_cons_of_mem _ (List.mem_append_left _ (List.mem_append_right _ h)))
theorem l_X6_init_7 : Cond.methodLink RX6 9 yX0_init ∈ wsX6_init := (List.mem_cons_of_mem _ (List.mem_append_left _ (List.mem_append_left _ (List.mem_of_getElem? (i := 7) rfl))))
theorem l_X6_init_8 : Cond.instanceMethod yX0_init ∈ wsX6_init := (List.mem_cons_of_mem _ (List.mem_append_left _ (List.mem_append_left _ (List.mem_of_getElem? (i := 8) rfl))))
theorem l_X6_init_9 : Cond.fieldLink RX6 12 "CornerStones$Slot" "kept" "LCornerStones$Game;" ∈ wsX6_init := (List.mem_cons_of_mem _ (List.mem_append_left _ (List.mem_append_left _ (List.mem_of_getElem? (i := 6) rfl))))
theorem i_X6_init_X6 : ∀ w ∈ wsX60, w ∈ wsX6_init := fun _ h => (List.mem_cons_of_mem _ (List.mem_append_right _ h))
theorem q_X6_init : yX6_init.cls ≠ "java/lang/invoke/MethodHandle" ∧ yX6_init.cls ≠ "java/lang/invoke/VarHandle" ∧ (parseMethodDescriptor yX6_init.desc).map (fun d => d.parameters.length) = some 1 := by decide +kernel
def fX6_init  : Bool × (Int32 × Int32 × Int32 × Int32 × Int64 × Int64 × Int32 × Int32) × (Nat → Int64) × (Nat → Int64) := bnd (fX0_init ) fun r4 => ((false, r4.1, r4.2.1, r4.2.2))
set_option maxHeartbeats 4000000 in
set_option maxRecDepth 100000 in
theorem c_X6_init {l : Launch} {z : Nat} {D : va_G} {K : Nat → ClassId} {σ : mwm} {a_t a_p0 : Nat}  (hc_t : σ a_t = some (.inr (4, [.null, .int (b2i false)]))) {v : Bool × (Int32 × Int32 × Int32 × Int32 × Int64 × Int64 × Int32 × Int32) × (Nat → Int64) × (Nat → Int64)} (h : fX6_init  = v) : Met l yX6_init wsX6_init ({ frames := 2, cells := 3, slots := 253, locals := 41 } : Room) (PCm z D K [.ref a_t, .ref a_p0] σ) (qwV z D (fun σ2 => ∃ a_q1 a_q2 a_q3 : Nat, (∀ (b : Nat) (f : va_E), σ b = some f → b ≠ a_q1) ∧ (∀ (b : Nat) (f : va_E), σ b = some f → b ≠ a_q2) ∧ (∀ (b : Nat) (f : va_E), σ b = some f → b ≠ a_q3) ∧ a_q1 ≠ a_q2 ∧ a_q1 ≠ a_q3 ∧ a_q2 ≠ a_q3 ∧ σ2 a_t = some (cl4 a_q1 v.1) ∧ σ2 a_q1 = some (cl0 a_q2 a_q3 a_p0 v.2.1) ∧ σ2 a_q2 = some (eJ K 121 v.2.2.1) ∧ σ2 a_q3 = some (eJ K 121 v.2.2.2) ∧ ∀ (q : Nat) (f : va_E), σ q = some f → q ≠ a_t → σ2 q = some f)) 3 253 (zA z) := by
  refine mt_enter (cc := cX6_init) (maxL := 2) (ret := none) (own := RX6) (lv := [(0, .ref a_t), (1, .ref a_p0)]) (by decide) rfl rfl (Nat.le_of_ble_eq_true rfl) rfl ?_
  intro p e s m below meth c ls hC hx hb hown hts hK hr hlocks hnm hz hM hS hl
  unfold fX6_init at h
  refine lv_aload_n hx hb dX6_init_0 rfl (lv_at hl 0 rfl) ?_
  refine W.objInit hx hb hown (hts _ l_X6_init_0) (hts _ l_X6_init_1) (hts _ l_X6_init_2) rfl (by rw [hC.1.2.2.1]; exact hl.1) rfl dX6_init_1 (Nat.le_of_ble_eq_true rfl) (Nat.le_of_ble_eq_true rfl) ?_
  refine W.eq (g2 := F0 m 4 ls []) rfl ?_
  refine lv_aload_n hx hb dX6_init_4 rfl (lv_at hl 0 rfl) ?_
  refine mw_new (ci := 0) (C := RX0) (T := TX0) (N := 11) (fs := [.null, .null, .null, .int 0, .int 0, .int 0, .int 0, .long 0, .long 0, .int 0, .int 0]) hC i_X6_init_X0 tyX0 tyX0_ok l_X6_init_3 l_X6_init_4 l_X6_init_5 hM hS rfl (fun j hj => by rcases (show j = 0 ∨ j = 1 ∨ j = 2 ∨ j = 3 ∨ j = 4 ∨ j = 5 ∨ j = 6 ∨ j = 7 ∨ j = 8 ∨ j = 9 ∨ j = 10 by omega) with rfl | rfl | rfl | rfl | rfl | rfl | rfl | rfl | rfl | rfl | rfl <;> rfl) (Nat.le_of_ble_eq_true rfl) (Nat.le_of_ble_eq_true rfl) dX6_init_5 (fun a_q1 H σ1 hM hS hc_q1 ho1 hq2 => ?_)
  have n_t_q1 : a_t ≠ a_q1 := hq2 a_t _ hc_t
  have hqf_q1 : ∀ (b : Nat) (f : va_E), σ b = some f → b ≠ a_q1 := by
    intro b f hb
    by_cases e0 : b = a_t
    · rw [e0]; exact n_t_q1
    exact hq2 b f hb
  replace hc_t := ho1 a_t _ hc_t 
  have hf3 := fun (q : Nat) (f : va_E) (hf : σ q = some f) (n0 : q ≠ a_t) => ho1 q f hf 
  replace hc_q1 : σ1 a_q1 = some (.inr (0, [.null, .null, .null, .int (0 : Int32), .int (0 : Int32), .int (0 : Int32), .int (0 : Int32), .long (0 : Int64), .long (0 : Int64), .int (0 : Int32), .int (0 : Int32)])) := hc_q1
  refine W.widen (k := 1) (n := 11) (Nat.le_of_ble_eq_true rfl) (Nat.le_of_ble_eq_true rfl) ?_
  refine lv_dup hx hb dX6_init_8 rfl ?_
  refine lv_aload_n hx hb dX6_init_9 rfl (lv_at hl 1 rfl) ?_
  obtain ⟨r4, hr4⟩ : ∃ x, fX0_init  = x := ⟨_, rfl⟩
  replace h := bnd_at hr4.symm h
  refine mw_wv (mw_runI (As := [.ref a_p0]) (rest := [.ref a_q1, .ref a_t]) hC hM hS (c_X0_init (a_t := a_q1) (a_p0 := a_p0) (hc_t := hc_q1) (v := r4) hr4) gX6_init_X0_init rfl rfl rfl l_X6_init_5 l_X6_init_7 l_X6_init_8 rfl q_X0_init ⟨Nat.le_of_ble_eq_true rfl, Nat.le_of_ble_eq_true rfl⟩ rfl rfl (Nat.le_of_ble_eq_true rfl) hl.1 dX6_init_10 ⟨Nat.le_of_ble_eq_true rfl, Nat.le_of_ble_eq_true rfl⟩) hS (fun H locs σ1 hp6 hM hS => ?_)
  have ho_t := hc_t
  have ho_q1 := hc_q1
  obtain ⟨a_q2, a_q3, hq7, hq8, n_q2_q3, hc_q1, hc_q2, hc_q3, ho5⟩ := hp6
  have n_t_q2 : a_t ≠ a_q2 := hq7 a_t _ ho_t
  have n_q1_q2 : a_q1 ≠ a_q2 := hq7 a_q1 _ ho_q1
  have n_t_q3 : a_t ≠ a_q3 := hq8 a_t _ ho_t
  have n_q1_q3 : a_q1 ≠ a_q3 := hq8 a_q1 _ ho_q1
  have hqf_q2 : ∀ (b : Nat) (f : va_E), σ b = some f → b ≠ a_q2 := by
    intro b f hb
    by_cases e0 : b = a_t
    · rw [e0]; exact n_t_q2
    exact hq7 b f (hf3 b f hb e0)
  have hqf_q3 : ∀ (b : Nat) (f : va_E), σ b = some f → b ≠ a_q3 := by
    intro b f hb
    by_cases e0 : b = a_t
    · rw [e0]; exact n_t_q3
    exact hq8 b f (hf3 b f hb e0)
  replace hc_t := ho5 a_t _ hc_t n_t_q1
  have hf9 := fun (q : Nat) (f : va_E) (hf : σ q = some f) (n0 : q ≠ a_t) => ho5 q f (hf3 q f hf n0) (hqf_q1 q f hf)
  refine W.widen (k := 3) (n := 253) (Nat.le_of_ble_eq_true rfl) (Nat.le_of_ble_eq_true rfl) ?_
  refine mw_putF (ci := 4) (C := RX6) (T := TX6) (N := 2) (ty := (tyX6 0)) hC i_X6_init_X6 tyX6 tyX6_ok nmX6 hM hS hc_t rfl 0 (by decide) l_X6_init_9 rfl rfl hnm rfl (by decide +kernel) rfl rfl (Nat.le_of_ble_eq_true rfl) dX6_init_13 (fun H locs σ1 hM hS hc_t ho10 => ?_)
  replace hc_t : σ1 a_t = some (cl4 a_q1 false) := hc_t
  replace hc_q1 := ho10 a_q1 _ hc_q1 (Ne.symm n_t_q1)
  replace hc_q2 := ho10 a_q2 _ hc_q2 (Ne.symm n_t_q2)
  replace hc_q3 := ho10 a_q3 _ hc_q3 (Ne.symm n_t_q3)
  have hf11 := fun (q : Nat) (f : va_E) (hf : σ q = some f) (n0 : q ≠ a_t) => ho10 q f (hf9 q f hf n0) n0
  subst h
  exact W.vret hx hb hr (fun t ht hW => ⟨⟨_, rfl, ⟨a_q1, a_q2, a_q3, hqf_q1, hqf_q2, hqf_q3, n_q1_q2, n_q1_q3, n_q2_q3, hc_t, hc_q1, hc_q2, hc_q3, hf11⟩, by show MW z D _ t.heap; rw [ht]; exact hM⟩, hS.F ht⟩) hS.2.2 dX6_init_16 hlocks
theorem l_X0_layOut_0 : Cond.classLink RX0 22 RX2 ∈ wsX0_layOut := (List.mem_cons_of_mem _ (List.mem_append_left _ (List.mem_append_left _ (List.mem_append_left _ (List.mem_of_getElem? (i := 0) rfl)))))
theorem l_X0_layOut_1 : Cond.instantiable RX2 5 ∈ wsX0_layOut := (List.mem_cons_of_mem _ (List.mem_append_left _ (List.mem_append_left _ (List.mem_append_left _ (List.mem_of_getElem? (i := 1) rfl)))))
theorem l_X0_layOut_2 : Cond.initialized RX2 ∈ wsX0_layOut := (List.mem_cons_of_mem _ (List.mem_append_left _ (List.mem_append_left _ (List.mem_append_left _ (List.mem_of_getElem? (i := 2) rfl)))))
theorem i_X0_layOut_X2 : ∀ w ∈ wsX20, w ∈ wsX0_layOut := fun _ h => (List.mem_cons_of_mem _ (List.mem_append_left _ (List.mem_append_right _ h)))
theorem l_X0_layOut_4 : Cond.methodLink RX0 24 yX2_init ∈ wsX0_layOut := (List.mem_cons_of_mem _ (List.mem_append_left _ (List.mem_append_left _ (List.mem_append_left _ (List.mem_of_getElem? (i := 11) rfl)))))
theorem l_X0_layOut_5 : Cond.instanceMethod yX2_init ∈ wsX0_layOut := (List.mem_cons_of_mem _ (List.mem_append_left _ (List.mem_append_left _ (List.mem_append_left _ (List.mem_of_getElem? (i := 12) rfl)))))
theorem l_X0_layOut_6 : Cond.fieldLink RX0 18 "CornerStones$Game" "grid" "LCornerStones$Grid;" ∈ wsX0_layOut := (List.mem_cons_of_mem _ (List.mem_append_left _ (List.mem_append_left _ (List.mem_append_left _ (List.mem_of_getElem? (i := 3) rfl)))))
theorem i_X0_layOut_X0 : ∀ w ∈ wsX00, w ∈ wsX0_layOut := fun _ h => (List.mem_cons_of_mem _ (List.mem_append_right _ h))
theorem l_X0_layOut_8 : Cond.fieldLink RX0 27 "CornerStones$Game" "moves" "I" ∈ wsX0_layOut := (List.mem_cons_of_mem _ (List.mem_append_left _ (List.mem_append_left _ (List.mem_append_left _ (List.mem_of_getElem? (i := 4) rfl)))))
theorem l_X0_layOut_9 : Cond.fieldLink RX0 31 "CornerStones$Game" "passes" "I" ∈ wsX0_layOut := (List.mem_cons_of_mem _ (List.mem_append_left _ (List.mem_append_left _ (List.mem_append_left _ (List.mem_of_getElem? (i := 5) rfl)))))
theorem l_X0_layOut_10 : Cond.fieldLink RX0 34 "CornerStones$Game" "passesInRow" "I" ∈ wsX0_layOut := (List.mem_cons_of_mem _ (List.mem_append_left _ (List.mem_append_left _ (List.mem_append_left _ (List.mem_of_getElem? (i := 6) rfl)))))
theorem l_X0_layOut_11 : Cond.fieldLink RX0 37 "CornerStones$Game" "stones0" "J" ∈ wsX0_layOut := (List.mem_cons_of_mem _ (List.mem_append_left _ (List.mem_append_left _ (List.mem_append_left _ (List.mem_of_getElem? (i := 7) rfl)))))
theorem l_X0_layOut_12 : Cond.fieldLink RX0 41 "CornerStones$Game" "stones1" "J" ∈ wsX0_layOut := (List.mem_cons_of_mem _ (List.mem_append_left _ (List.mem_append_left _ (List.mem_append_left _ (List.mem_of_getElem? (i := 8) rfl)))))
theorem l_X0_layOut_13 : Cond.fieldLink RX0 44 "CornerStones$Game" "captives0" "I" ∈ wsX0_layOut := (List.mem_cons_of_mem _ (List.mem_append_left _ (List.mem_append_left _ (List.mem_append_left _ (List.mem_of_getElem? (i := 9) rfl)))))
theorem l_X0_layOut_14 : Cond.fieldLink RX0 47 "CornerStones$Game" "captives1" "I" ∈ wsX0_layOut := (List.mem_cons_of_mem _ (List.mem_append_left _ (List.mem_append_left _ (List.mem_append_left _ (List.mem_of_getElem? (i := 10) rfl)))))
theorem q_X0_layOut : yX0_layOut.cls ≠ "java/lang/invoke/MethodHandle" ∧ yX0_layOut.cls ≠ "java/lang/invoke/VarHandle" ∧ (parseMethodDescriptor yX0_layOut.desc).map (fun d => d.parameters.length) = some 1 := by decide +kernel
def fX0_layOut (w_t : Int32 × Int32 × Int32 × Int32 × Int64 × Int64 × Int32 × Int32) (f_t_before0 : Nat → Int64) (f_t_before1 : Nat → Int64) (p0 : Int32) : Option ((Int32 × Int32 × Int32 × Int32 × Int64 × Int64 × Int32 × Int32) × (Nat → Int64) × (Nat → Int64) × (Int32 × Int32 × Int64 × Int64 × Int64)) := (fX2_init p0).bind fun r4 => (fX0_keepPosition (w_t.1, (0 : Int32), (0 : Int32), (0 : Int32), (0 : Int64), (0 : Int64), (0 : Int32), (0 : Int32)) f_t_before0 f_t_before1).bind fun r24 => some (((w_t.1, (0 : Int32), (0 : Int32), (0 : Int32), (0 : Int64), (0 : Int64), (0 : Int32), (0 : Int32)), r24.1, r24.2, r4))
set_option maxHeartbeats 4000000 in
set_option maxRecDepth 100000 in
theorem c_X0_layOut {l : Launch} {z : Nat} {D : va_G} {K : Nat → ClassId} {σ : mwm} {a_t a_t_before0 a_t_before1 a_t_grid : Nat} {w_t : Int32 × Int32 × Int32 × Int32 × Int64 × Int64 × Int32 × Int32} {f_t_before0 : Nat → Int64} {f_t_before1 : Nat → Int64} {p0 : Int32} (hc_t : σ a_t = some (cl0 a_t_before0 a_t_before1 a_t_grid w_t)) (hc_t_before0 : σ a_t_before0 = some (eJ K 121 f_t_before0)) (hc_t_before1 : σ a_t_before1 = some (eJ K 121 f_t_before1)) (n_t_t_before0 : a_t ≠ a_t_before0) (n_t_t_before1 : a_t ≠ a_t_before1) (n_t_before0_t_before1 : a_t_before0 ≠ a_t_before1) {v : (Int32 × Int32 × Int32 × Int32 × Int64 × Int64 × Int32 × Int32) × (Nat → Int64) × (Nat → Int64) × (Int32 × Int32 × Int64 × Int64 × Int64)} (h : fX0_layOut w_t f_t_before0 f_t_before1 p0 = some v) : Met l yX0_layOut wsX0_layOut ({ frames := 2, cells := 1, slots := 5, locals := 44 } : Room) (PCm z D K [.ref a_t, .int p0] σ) (qwV z D (fun σ2 => ∃ a_q1 : Nat, (∀ (b : Nat) (f : va_E), σ b = some f → b ≠ a_q1) ∧ σ2 a_t = some (cl0 a_t_before0 a_t_before1 a_q1 v.1) ∧ σ2 a_t_before0 = some (eJ K 121 v.2.1) ∧ σ2 a_t_before1 = some (eJ K 121 v.2.2.1) ∧ σ2 a_q1 = some (cl2  v.2.2.2) ∧ ∀ (q : Nat) (f : va_E), σ q = some f → q ≠ a_t → q ≠ a_t_before0 → q ≠ a_t_before1 → σ2 q = some f)) 1 5 (zA z) := by
  refine mt_enter (cc := cX0_layOut) (maxL := 2) (ret := none) (own := RX0) (lv := [(0, .ref a_t), (1, .int p0)]) (by decide) rfl rfl (Nat.le_of_ble_eq_true rfl) rfl ?_
  intro p e s m below meth c ls hC hx hb hown hts hK hr hlocks hnm hz hM hS hl
  unfold fX0_layOut at h
  refine lv_aload_n hx hb dX0_layOut_0 rfl (lv_at hl 0 rfl) ?_
  refine mw_new (ci := 2) (C := RX2) (T := TX2) (N := 5) (fs := [.int 0, .int 0, .long 0, .long 0, .long 0]) hC i_X0_layOut_X2 tyX2 tyX2_ok l_X0_layOut_0 l_X0_layOut_1 l_X0_layOut_2 hM hS rfl (fun j hj => by rcases (show j = 0 ∨ j = 1 ∨ j = 2 ∨ j = 3 ∨ j = 4 by omega) with rfl | rfl | rfl | rfl | rfl <;> rfl) (Nat.le_of_ble_eq_true rfl) (Nat.le_of_ble_eq_true rfl) dX0_layOut_1 (fun a_q1 H σ1 hM hS hc_q1 ho1 hq2 => ?_)
  have n_t_q1 : a_t ≠ a_q1 := hq2 a_t _ hc_t
  have n_t_before0_q1 : a_t_before0 ≠ a_q1 := hq2 a_t_before0 _ hc_t_before0
  have n_t_before1_q1 : a_t_before1 ≠ a_q1 := hq2 a_t_before1 _ hc_t_before1
  have hqf_q1 : ∀ (b : Nat) (f : va_E), σ b = some f → b ≠ a_q1 := by
    intro b f hb
    by_cases e0 : b = a_t
    · rw [e0]; exact n_t_q1
    by_cases e1 : b = a_t_before0
    · rw [e1]; exact n_t_before0_q1
    by_cases e2 : b = a_t_before1
    · rw [e2]; exact n_t_before1_q1
    exact hq2 b f hb
  replace hc_t := ho1 a_t _ hc_t 
  replace hc_t_before0 := ho1 a_t_before0 _ hc_t_before0 
  replace hc_t_before1 := ho1 a_t_before1 _ hc_t_before1 
  have hf3 := fun (q : Nat) (f : va_E) (hf : σ q = some f) (n0 : q ≠ a_t) (n1 : q ≠ a_t_before0) (n2 : q ≠ a_t_before1) => ho1 q f hf 
  replace hc_q1 : σ1 a_q1 = some (cl2  ((0 : Int32), (0 : Int32), (0 : Int64), (0 : Int64), (0 : Int64))) := hc_q1
  refine W.widen (k := 1) (n := 5) (Nat.le_of_ble_eq_true rfl) (Nat.le_of_ble_eq_true rfl) ?_
  refine lv_dup hx hb dX0_layOut_4 rfl ?_
  refine lv_iload_n hx hb dX0_layOut_5 rfl (lv_at hl 1 rfl) ?_
  obtain ⟨r4, hr4, h⟩ := ob_some h
  refine mw_wv (mw_runI (As := [.int p0]) (rest := [.ref a_q1, .ref a_t]) hC hM hS (c_X2_init (a_t := a_q1) (p0 := p0) (hc_t := hc_q1) (v := r4) hr4) gX0_layOut_X2_init rfl rfl rfl l_X0_layOut_2 l_X0_layOut_4 l_X0_layOut_5 rfl q_X2_init ⟨Nat.le_of_ble_eq_true rfl, Nat.le_of_ble_eq_true rfl⟩ rfl rfl (Nat.le_of_ble_eq_true rfl) hl.1 dX0_layOut_6 ⟨Nat.le_of_ble_eq_true rfl, Nat.le_of_ble_eq_true rfl⟩) hS (fun H locs σ1 hp6 hM hS => ?_)
  obtain ⟨hc_q1, ho5⟩ := hp6
  replace hc_t := ho5 a_t _ hc_t n_t_q1
  replace hc_t_before0 := ho5 a_t_before0 _ hc_t_before0 n_t_before0_q1
  replace hc_t_before1 := ho5 a_t_before1 _ hc_t_before1 n_t_before1_q1
  have hf7 := fun (q : Nat) (f : va_E) (hf : σ q = some f) (n0 : q ≠ a_t) (n1 : q ≠ a_t_before0) (n2 : q ≠ a_t_before1) => ho5 q f (hf3 q f hf n0 n1 n2) (hqf_q1 q f hf)
  refine mw_put (ci := 0) (C := RX0) (T := TX0) (N := 11) (ty := (tyX0 2)) hC i_X0_layOut_X0 tyX0 tyX0_ok nmX0 hM hS hc_t rfl 2 (by decide) l_X0_layOut_6 rfl rfl (by decide +kernel) rfl rfl (Nat.le_of_ble_eq_true rfl) dX0_layOut_9 (fun H locs σ1 hM hS hc_t ho8 => ?_)
  replace hc_t : σ1 a_t = some (cl0 a_t_before0 a_t_before1 a_q1 w_t) := hc_t
  replace hc_t_before0 := ho8 a_t_before0 _ hc_t_before0 (Ne.symm n_t_t_before0)
  replace hc_t_before1 := ho8 a_t_before1 _ hc_t_before1 (Ne.symm n_t_t_before1)
  replace hc_q1 := ho8 a_q1 _ hc_q1 (Ne.symm n_t_q1)
  have hf9 := fun (q : Nat) (f : va_E) (hf : σ q = some f) (n0 : q ≠ a_t) (n1 : q ≠ a_t_before0) (n2 : q ≠ a_t_before1) => ho8 q f (hf7 q f hf n0 n1 n2) n0
  refine lv_aload_n hx hb dX0_layOut_12 rfl (lv_at hl 0 rfl) ?_
  refine lv_iconst (v := 0) hx hb dX0_layOut_13 (by decide) ?_
  refine mw_put (ci := 0) (C := RX0) (T := TX0) (N := 11) (ty := .int) hC i_X0_layOut_X0 tyX0 tyX0_ok nmX0 hM hS hc_t rfl 4 (by decide) l_X0_layOut_8 rfl rfl (by decide +kernel) rfl rfl (Nat.le_of_ble_eq_true rfl) dX0_layOut_14 (fun H locs σ1 hM hS hc_t ho10 => ?_)
  replace hc_t : σ1 a_t = some (cl0 a_t_before0 a_t_before1 a_q1 (w_t.1, (0 : Int32), w_t.2.2.1, w_t.2.2.2.1, w_t.2.2.2.2.1, w_t.2.2.2.2.2.1, w_t.2.2.2.2.2.2.1, w_t.2.2.2.2.2.2.2)) := hc_t
  replace hc_t_before0 := ho10 a_t_before0 _ hc_t_before0 (Ne.symm n_t_t_before0)
  replace hc_t_before1 := ho10 a_t_before1 _ hc_t_before1 (Ne.symm n_t_t_before1)
  replace hc_q1 := ho10 a_q1 _ hc_q1 (Ne.symm n_t_q1)
  have hf11 := fun (q : Nat) (f : va_E) (hf : σ q = some f) (n0 : q ≠ a_t) (n1 : q ≠ a_t_before0) (n2 : q ≠ a_t_before1) => ho10 q f (hf9 q f hf n0 n1 n2) n0
  refine lv_aload_n hx hb dX0_layOut_17 rfl (lv_at hl 0 rfl) ?_
  refine lv_iconst (v := 0) hx hb dX0_layOut_18 (by decide) ?_
  refine mw_put (ci := 0) (C := RX0) (T := TX0) (N := 11) (ty := .int) hC i_X0_layOut_X0 tyX0 tyX0_ok nmX0 hM hS hc_t rfl 5 (by decide) l_X0_layOut_9 rfl rfl (by decide +kernel) rfl rfl (Nat.le_of_ble_eq_true rfl) dX0_layOut_19 (fun H locs σ1 hM hS hc_t ho12 => ?_)
  replace hc_t : σ1 a_t = some (cl0 a_t_before0 a_t_before1 a_q1 (w_t.1, (0 : Int32), (0 : Int32), w_t.2.2.2.1, w_t.2.2.2.2.1, w_t.2.2.2.2.2.1, w_t.2.2.2.2.2.2.1, w_t.2.2.2.2.2.2.2)) := hc_t
  replace hc_t_before0 := ho12 a_t_before0 _ hc_t_before0 (Ne.symm n_t_t_before0)
  replace hc_t_before1 := ho12 a_t_before1 _ hc_t_before1 (Ne.symm n_t_t_before1)
  replace hc_q1 := ho12 a_q1 _ hc_q1 (Ne.symm n_t_q1)
  have hf13 := fun (q : Nat) (f : va_E) (hf : σ q = some f) (n0 : q ≠ a_t) (n1 : q ≠ a_t_before0) (n2 : q ≠ a_t_before1) => ho12 q f (hf11 q f hf n0 n1 n2) n0
  refine lv_aload_n hx hb dX0_layOut_22 rfl (lv_at hl 0 rfl) ?_
  refine lv_iconst (v := 0) hx hb dX0_layOut_23 (by decide) ?_
  refine mw_put (ci := 0) (C := RX0) (T := TX0) (N := 11) (ty := .int) hC i_X0_layOut_X0 tyX0 tyX0_ok nmX0 hM hS hc_t rfl 6 (by decide) l_X0_layOut_10 rfl rfl (by decide +kernel) rfl rfl (Nat.le_of_ble_eq_true rfl) dX0_layOut_24 (fun H locs σ1 hM hS hc_t ho14 => ?_)
  replace hc_t : σ1 a_t = some (cl0 a_t_before0 a_t_before1 a_q1 (w_t.1, (0 : Int32), (0 : Int32), (0 : Int32), w_t.2.2.2.2.1, w_t.2.2.2.2.2.1, w_t.2.2.2.2.2.2.1, w_t.2.2.2.2.2.2.2)) := hc_t
  replace hc_t_before0 := ho14 a_t_before0 _ hc_t_before0 (Ne.symm n_t_t_before0)
  replace hc_t_before1 := ho14 a_t_before1 _ hc_t_before1 (Ne.symm n_t_t_before1)
  replace hc_q1 := ho14 a_q1 _ hc_q1 (Ne.symm n_t_q1)
  have hf15 := fun (q : Nat) (f : va_E) (hf : σ q = some f) (n0 : q ≠ a_t) (n1 : q ≠ a_t_before0) (n2 : q ≠ a_t_before1) => ho14 q f (hf13 q f hf n0 n1 n2) n0
  refine lv_aload_n hx hb dX0_layOut_27 rfl (lv_at hl 0 rfl) ?_
  refine lv_lconst (v := 0) hx hb dX0_layOut_28 (by decide) ?_
  refine mw_put (ci := 0) (C := RX0) (T := TX0) (N := 11) (ty := .long) hC i_X0_layOut_X0 tyX0 tyX0_ok nmX0 hM hS hc_t rfl 7 (by decide) l_X0_layOut_11 rfl rfl (by decide +kernel) rfl rfl (Nat.le_of_ble_eq_true rfl) dX0_layOut_29 (fun H locs σ1 hM hS hc_t ho16 => ?_)
  replace hc_t : σ1 a_t = some (cl0 a_t_before0 a_t_before1 a_q1 (w_t.1, (0 : Int32), (0 : Int32), (0 : Int32), (0 : Int64), w_t.2.2.2.2.2.1, w_t.2.2.2.2.2.2.1, w_t.2.2.2.2.2.2.2)) := hc_t
  replace hc_t_before0 := ho16 a_t_before0 _ hc_t_before0 (Ne.symm n_t_t_before0)
  replace hc_t_before1 := ho16 a_t_before1 _ hc_t_before1 (Ne.symm n_t_t_before1)
  replace hc_q1 := ho16 a_q1 _ hc_q1 (Ne.symm n_t_q1)
  have hf17 := fun (q : Nat) (f : va_E) (hf : σ q = some f) (n0 : q ≠ a_t) (n1 : q ≠ a_t_before0) (n2 : q ≠ a_t_before1) => ho16 q f (hf15 q f hf n0 n1 n2) n0
  refine lv_aload_n hx hb dX0_layOut_32 rfl (lv_at hl 0 rfl) ?_
  refine lv_lconst (v := 0) hx hb dX0_layOut_33 (by decide) ?_
  refine mw_put (ci := 0) (C := RX0) (T := TX0) (N := 11) (ty := .long) hC i_X0_layOut_X0 tyX0 tyX0_ok nmX0 hM hS hc_t rfl 8 (by decide) l_X0_layOut_12 rfl rfl (by decide +kernel) rfl rfl (Nat.le_of_ble_eq_true rfl) dX0_layOut_34 (fun H locs σ1 hM hS hc_t ho18 => ?_)
  replace hc_t : σ1 a_t = some (cl0 a_t_before0 a_t_before1 a_q1 (w_t.1, (0 : Int32), (0 : Int32), (0 : Int32), (0 : Int64), (0 : Int64), w_t.2.2.2.2.2.2.1, w_t.2.2.2.2.2.2.2)) := hc_t
  replace hc_t_before0 := ho18 a_t_before0 _ hc_t_before0 (Ne.symm n_t_t_before0)
  replace hc_t_before1 := ho18 a_t_before1 _ hc_t_before1 (Ne.symm n_t_t_before1)
  replace hc_q1 := ho18 a_q1 _ hc_q1 (Ne.symm n_t_q1)
  have hf19 := fun (q : Nat) (f : va_E) (hf : σ q = some f) (n0 : q ≠ a_t) (n1 : q ≠ a_t_before0) (n2 : q ≠ a_t_before1) => ho18 q f (hf17 q f hf n0 n1 n2) n0
  refine lv_aload_n hx hb dX0_layOut_37 rfl (lv_at hl 0 rfl) ?_
  refine lv_iconst (v := 0) hx hb dX0_layOut_38 (by decide) ?_
  refine mw_put (ci := 0) (C := RX0) (T := TX0) (N := 11) (ty := .int) hC i_X0_layOut_X0 tyX0 tyX0_ok nmX0 hM hS hc_t rfl 9 (by decide) l_X0_layOut_13 rfl rfl (by decide +kernel) rfl rfl (Nat.le_of_ble_eq_true rfl) dX0_layOut_39 (fun H locs σ1 hM hS hc_t ho20 => ?_)
  replace hc_t : σ1 a_t = some (cl0 a_t_before0 a_t_before1 a_q1 (w_t.1, (0 : Int32), (0 : Int32), (0 : Int32), (0 : Int64), (0 : Int64), (0 : Int32), w_t.2.2.2.2.2.2.2)) := hc_t
  replace hc_t_before0 := ho20 a_t_before0 _ hc_t_before0 (Ne.symm n_t_t_before0)
  replace hc_t_before1 := ho20 a_t_before1 _ hc_t_before1 (Ne.symm n_t_t_before1)
  replace hc_q1 := ho20 a_q1 _ hc_q1 (Ne.symm n_t_q1)
  have hf21 := fun (q : Nat) (f : va_E) (hf : σ q = some f) (n0 : q ≠ a_t) (n1 : q ≠ a_t_before0) (n2 : q ≠ a_t_before1) => ho20 q f (hf19 q f hf n0 n1 n2) n0
  refine lv_aload_n hx hb dX0_layOut_42 rfl (lv_at hl 0 rfl) ?_
  refine lv_iconst (v := 0) hx hb dX0_layOut_43 (by decide) ?_
  refine mw_put (ci := 0) (C := RX0) (T := TX0) (N := 11) (ty := .int) hC i_X0_layOut_X0 tyX0 tyX0_ok nmX0 hM hS hc_t rfl 10 (by decide) l_X0_layOut_14 rfl rfl (by decide +kernel) rfl rfl (Nat.le_of_ble_eq_true rfl) dX0_layOut_44 (fun H locs σ1 hM hS hc_t ho22 => ?_)
  replace hc_t : σ1 a_t = some (cl0 a_t_before0 a_t_before1 a_q1 (w_t.1, (0 : Int32), (0 : Int32), (0 : Int32), (0 : Int64), (0 : Int64), (0 : Int32), (0 : Int32))) := hc_t
  replace hc_t_before0 := ho22 a_t_before0 _ hc_t_before0 (Ne.symm n_t_t_before0)
  replace hc_t_before1 := ho22 a_t_before1 _ hc_t_before1 (Ne.symm n_t_t_before1)
  replace hc_q1 := ho22 a_q1 _ hc_q1 (Ne.symm n_t_q1)
  have hf23 := fun (q : Nat) (f : va_E) (hf : σ q = some f) (n0 : q ≠ a_t) (n1 : q ≠ a_t_before0) (n2 : q ≠ a_t_before1) => ho22 q f (hf21 q f hf n0 n1 n2) n0
  refine lv_aload_n hx hb dX0_layOut_47 rfl (lv_at hl 0 rfl) ?_
  obtain ⟨r24, hr24, h⟩ := ob_some h
  refine mw_wv (mw_runV (As := []) (rest := []) (ci := 0) (C := RX0) (T := TX0) (N := 11) hC hM hS hc_t rfl (c_X0_keepPosition (a_t := a_t) (a_t_before0 := a_t_before0) (a_t_before1 := a_t_before1) (a_t_grid := a_q1) (w_t := (w_t.1, (0 : Int32), (0 : Int32), (0 : Int32), (0 : Int64), (0 : Int64), (0 : Int32), (0 : Int32))) (f_t_before0 := f_t_before0) (f_t_before1 := f_t_before1) (hc_t := hc_t) (hc_t_before0 := hc_t_before0) (hc_t_before1 := hc_t_before1) (n_t_t_before0 := n_t_t_before0) (n_t_t_before1 := n_t_t_before1) (n_t_before0_t_before1 := n_t_before0_t_before1) (v := r24) hr24) gX0_layOut_X0_keepPosition rfl rfl rfl rfl q_X0_keepPosition ⟨Nat.le_of_ble_eq_true rfl, Nat.le_of_ble_eq_true rfl⟩ rfl rfl (Nat.le_of_ble_eq_true rfl) hl.1 dX0_layOut_48 ⟨Nat.le_of_ble_eq_true rfl, Nat.le_of_ble_eq_true rfl⟩) hS (fun H locs σ1 hp26 hM hS => ?_)
  obtain ⟨hc_t_before0, hc_t_before1, ho25⟩ := hp26
  replace hc_t := ho25 a_t _ hc_t n_t_t_before0 n_t_t_before1
  replace hc_q1 := ho25 a_q1 _ hc_q1 (Ne.symm n_t_before0_q1) (Ne.symm n_t_before1_q1)
  have hf27 := fun (q : Nat) (f : va_E) (hf : σ q = some f) (n0 : q ≠ a_t) (n1 : q ≠ a_t_before0) (n2 : q ≠ a_t_before1) => ho25 q f (hf23 q f hf n0 n1 n2) n1 n2
  cases h
  exact W.vret hx hb hr (fun t ht hW => ⟨⟨_, rfl, ⟨a_q1, hqf_q1, hc_t, hc_t_before0, hc_t_before1, hc_q1, hf27⟩, by show MW z D _ t.heap; rw [ht]; exact hM⟩, hS.F ht⟩) hS.2.2 dX0_layOut_51 hlocks
