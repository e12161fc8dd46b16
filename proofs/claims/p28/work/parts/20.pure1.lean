theorem l_X2_init_0 : Cond.methodLink RX2 3 objectInit ∈ wsX2_init := (List.mem_cons_of_mem _ (List.mem_append_left _ (List.mem_of_getElem? (i := 0) rfl)))
theorem l_X2_init_1 : Cond.instanceMethod objectInit ∈ wsX2_init := (List.mem_cons_of_mem _ (List.mem_append_left _ (List.mem_of_getElem? (i := 1) rfl)))
theorem l_X2_init_2 : Cond.code objectInit ⟨#[0xb1]⟩ 1 none ∈ wsX2_init := (List.mem_cons_of_mem _ (List.mem_append_left _ (List.mem_of_getElem? (i := 2) rfl)))
theorem l_X2_init_3 : Cond.fieldLink RX2 9 "CornerStones$Grid" "rows" "I" ∈ wsX2_init := (List.mem_cons_of_mem _ (List.mem_append_left _ (List.mem_of_getElem? (i := 3) rfl)))
theorem i_X2_init_X2 : ∀ w ∈ wsX20, w ∈ wsX2_init := fun _ h => (List.mem_cons_of_mem _ (List.mem_append_right _ h))
theorem l_X2_init_5 : Cond.fieldLink RX2 15 "CornerStones$Grid" "points" "I" ∈ wsX2_init := (List.mem_cons_of_mem _ (List.mem_append_left _ (List.mem_of_getElem? (i := 4) rfl)))
theorem l_X2_init_6 : Cond.fieldLink RX2 18 "CornerStones$Grid" "all" "J" ∈ wsX2_init := (List.mem_cons_of_mem _ (List.mem_append_left _ (List.mem_of_getElem? (i := 5) rfl)))
theorem l_X2_init_7 : Cond.constantLong RX2 22 (-1) ∈ wsX2_init := (List.mem_cons_of_mem _ (List.mem_append_left _ (List.mem_of_getElem? (i := 6) rfl)))
theorem l_X2_init_8 : Cond.fieldLink RX2 24 "CornerStones$Grid" "notFirst" "J" ∈ wsX2_init := (List.mem_cons_of_mem _ (List.mem_append_left _ (List.mem_of_getElem? (i := 7) rfl)))
theorem l_X2_init_9 : Cond.fieldLink RX2 27 "CornerStones$Grid" "notLast" "J" ∈ wsX2_init := (List.mem_cons_of_mem _ (List.mem_append_left _ (List.mem_of_getElem? (i := 8) rfl)))
theorem q_X2_init : yX2_init.cls ≠ "java/lang/invoke/MethodHandle" ∧ yX2_init.cls ≠ "java/lang/invoke/VarHandle" ∧ (parseMethodDescriptor yX2_init.desc).map (fun d => d.parameters.length) = some 1 := by decide +kernel
def fX2_init_9 (p0 : Int32) : Nat → Int64 → Int32 → (Int32 × Int32 × Int64 × Int64 × Int64) → Option ((Int32 × Int32 × Int64 × Int64 × Int64))
  | 0, _, _, _ => none
  | fu + 1, x2, x4, y_t => if p0 ≤ x4 then (some ((p0, (p0 * p0), ((shlL 1 (p0 * p0)) - 1), (((shlL 1 (p0 * p0)) - 1) &&& (x2 ^^^ (-1))), (((shlL 1 (p0 * p0)) - 1) &&& ((shlL x2 (p0 - 1)) ^^^ (-1)))))) else (if 7 ≤ x4 then (some ((p0, (p0 * p0), ((shlL 1 (p0 * p0)) - 1), (((shlL 1 (p0 * p0)) - 1) &&& (x2 ^^^ (-1))), (((shlL 1 (p0 * p0)) - 1) &&& ((shlL x2 (p0 - 1)) ^^^ (-1)))))) else (bnd (x2 ||| (shlL 1 (x4 * p0))) fun v23 => fX2_init_9 p0 fu v23 (x4 + 1) y_t))
def fX2_init (p0 : Int32) : Option ((Int32 × Int32 × Int64 × Int64 × Int64)) := fX2_init_9 p0 5000 0 0 ((0 : Int32), (0 : Int32), (0 : Int64), (0 : Int64), (0 : Int64))
set_option maxHeartbeats 4000000 in
set_option maxRecDepth 100000 in
theorem c_X2_init {l : Launch} {z : Nat} {D : va_G} {K : Nat → ClassId} {σ : mwm} {a_t : Nat} {p0 : Int32} (hc_t : σ a_t = some (cl2  ((0 : Int32), (0 : Int32), (0 : Int64), (0 : Int64), (0 : Int64)))) {v : (Int32 × Int32 × Int64 × Int64 × Int64)} (h : fX2_init p0 = some v) : Met l yX2_init wsX2_init ({ frames := 1, cells := 0, slots := 0, locals := 20 } : Room) (PCm z D K [.ref a_t, .int p0] σ) (qwV z D (fun σ2 => σ2 a_t = some (cl2  v) ∧ ∀ (q : Nat) (f : va_E), σ q = some f → q ≠ a_t → σ2 q = some f)) 0 0 (zA z) := by
  refine mt_enter (cc := cX2_init) (maxL := 5) (ret := none) (own := RX2) (lv := [(0, .ref a_t), (1, .int p0)]) (by decide) rfl rfl (Nat.le_of_ble_eq_true rfl) rfl ?_
  intro p e s m below meth c ls hC hx hb hown hts hK hr hlocks hnm hz hM hS hl
  unfold fX2_init at h
  refine lv_aload_n hx hb dX2_init_0 rfl (lv_at hl 0 rfl) ?_
  refine W.objInit hx hb hown (hts _ l_X2_init_0) (hts _ l_X2_init_1) (hts _ l_X2_init_2) rfl (by rw [hC.1.2.2.1]; exact hl.1) rfl dX2_init_1 (Nat.le_of_ble_eq_true rfl) (Nat.le_of_ble_eq_true rfl) ?_
  refine W.eq (g2 := F0 m 4 ls []) rfl ?_
  refine lv_lconst (v := 0) hx hb dX2_init_4 (by decide) ?_
  refine lv_lstore_n (lv' := [(2, .long 0), (0, .ref a_t), (1, .int p0)]) hx hb dX2_init_5 rfl hl (by decide) rfl (fun ls hl => ?_)
  refine lv_iconst (v := 0) hx hb dX2_init_6 (by decide) ?_
  refine lv_istore (lv' := [(4, .int 0), (2, .long 0), (0, .ref a_t), (1, .int p0)]) hx hb dX2_init_7 hl (by decide) rfl (fun ls hl => ?_)
  have L9 : ∀ (fu0 : Nat) (x2 : Int64) (x4 : Int32) (y_t : Int32 × Int32 × Int64 × Int64 × Int64) (H : Heap) (locs : List Loc) (σ1 : mwm), MW z D σ1 H → va_S (zA z) s.heap H locs → σ1 a_t = some (cl2  y_t) → (∀ (q : Nat) (f : va_E), σ q = some f → q ≠ a_t → σ1 q = some f) → fX2_init_9 p0 fu0 x2 x4 y_t = some v → ∀ ls : Array Slot, lv_has ls 5 [(4, .int x4), (2, .long x2), (0, .ref a_t), (1, .int p0)] → W p l e ({ frames := 1, cells := 0, slots := 0, locals := 20 } : Room) s m ([.ref a_t, .int p0] : List Value).toArray below meth c H locs 0 0 (MQ below (qwV z D (fun σ2 => σ2 a_t = some (cl2  v) ∧ ∀ (q : Nat) (f : va_E), σ q = some f → q ≠ a_t → σ2 q = some f)) ([.ref a_t, .int p0] : List Value).toArray s 0 0 (zA z)) (F0 m 9 ls []) := by
    intro fu0
    induction fu0 with
    | zero =>
      intro x2 x4 y_t H locs σ1 hM hS hc_t hfL h
      unfold fX2_init_9 at h
      cases h
    | succ fu0 ih0 =>
      intro x2 x4 y_t H locs σ1 hM hS hc_t hfL h ls hl
      unfold fX2_init_9 at h
      refine lv_iload hx hb dX2_init_9 (lv_at hl 0 rfl) ?_
      refine lv_iload_n hx hb dX2_init_11 rfl (lv_at hl 3 rfl) ?_
      refine lv_icmp_ge (tgt := 37) hx hb dX2_init_12 (by decide) (fun c1 => ?_) (fun c1 => ?_)
      · replace h := it_pos c1 h
        refine lv_aload_n hx hb dX2_init_37 rfl (lv_at hl 2 rfl) ?_
        refine lv_iload_n hx hb dX2_init_38 rfl (lv_at hl 3 rfl) ?_
        refine mw_putF (ci := 2) (C := RX2) (T := TX2) (N := 5) (ty := .int) hC i_X2_init_X2 tyX2 tyX2_ok nmX2 hM hS hc_t rfl 0 (by decide) l_X2_init_3 rfl rfl hnm rfl (by decide +kernel) rfl rfl (Nat.le_of_ble_eq_true rfl) dX2_init_39 (fun H locs σ1 hM hS hc_t ho2 => ?_)
        replace hc_t : σ1 a_t = some (cl2  (p0, y_t.2.1, y_t.2.2.1, y_t.2.2.2.1, y_t.2.2.2.2)) := hc_t
        have hf3 := fun (q : Nat) (f : va_E) (hf : σ q = some f) (n0 : q ≠ a_t) => ho2 q f (hfL q f hf n0) n0
        refine lv_aload_n hx hb dX2_init_42 rfl (lv_at hl 2 rfl) ?_
        refine lv_iload_n hx hb dX2_init_43 rfl (lv_at hl 3 rfl) ?_
        refine lv_iload_n hx hb dX2_init_44 rfl (lv_at hl 3 rfl) ?_
        refine lv_imul hx hb dX2_init_45 ?_
        refine mw_putF (ci := 2) (C := RX2) (T := TX2) (N := 5) (ty := .int) hC i_X2_init_X2 tyX2 tyX2_ok nmX2 hM hS hc_t rfl 1 (by decide) l_X2_init_5 rfl rfl hnm rfl (by decide +kernel) rfl rfl (Nat.le_of_ble_eq_true rfl) dX2_init_46 (fun H locs σ1 hM hS hc_t ho4 => ?_)
        replace hc_t : σ1 a_t = some (cl2  (p0, (p0 * p0), y_t.2.2.1, y_t.2.2.2.1, y_t.2.2.2.2)) := hc_t
        have hf5 := fun (q : Nat) (f : va_E) (hf : σ q = some f) (n0 : q ≠ a_t) => ho4 q f (hf3 q f hf n0) n0
        refine lv_aload_n hx hb dX2_init_49 rfl (lv_at hl 2 rfl) ?_
        refine lv_lconst (v := 1) hx hb dX2_init_50 (by decide) ?_
        refine lv_iload_n hx hb dX2_init_51 rfl (lv_at hl 3 rfl) ?_
        refine lv_iload_n hx hb dX2_init_52 rfl (lv_at hl 3 rfl) ?_
        refine lv_imul hx hb dX2_init_53 ?_
        refine lv_lshl (v := (shlL 1 (p0 * p0))) hx hb dX2_init_54 rfl ?_
        refine lv_lconst (v := 1) hx hb dX2_init_55 (by decide) ?_
        refine lv_lsub hx hb dX2_init_56 ?_
        refine mw_putF (ci := 2) (C := RX2) (T := TX2) (N := 5) (ty := .long) hC i_X2_init_X2 tyX2 tyX2_ok nmX2 hM hS hc_t rfl 2 (by decide) l_X2_init_6 rfl rfl hnm rfl (by decide +kernel) rfl rfl (Nat.le_of_ble_eq_true rfl) dX2_init_57 (fun H locs σ1 hM hS hc_t ho6 => ?_)
        replace hc_t : σ1 a_t = some (cl2  (p0, (p0 * p0), ((shlL 1 (p0 * p0)) - 1), y_t.2.2.2.1, y_t.2.2.2.2)) := hc_t
        have hf7 := fun (q : Nat) (f : va_E) (hf : σ q = some f) (n0 : q ≠ a_t) => ho6 q f (hf5 q f hf n0) n0
        refine lv_aload_n hx hb dX2_init_60 rfl (lv_at hl 2 rfl) ?_
        refine lv_aload_n hx hb dX2_init_61 rfl (lv_at hl 2 rfl) ?_
        refine mw_get (ci := 2) (C := RX2) (T := TX2) (N := 5) (v := .long ((shlL 1 (p0 * p0)) - 1)) hC i_X2_init_X2 hM hc_t rfl 2 (by decide) l_X2_init_6 rfl rfl dX2_init_62 ?_
        refine lv_lload_n hx hb dX2_init_65 rfl (lv_at hl 1 rfl) ?_
        refine lv_ldc2 (v := -1) hx hb hown (hts _ l_X2_init_7) dX2_init_66 ?_
        refine lv_lxor hx hb dX2_init_69 ?_
        refine lv_land hx hb dX2_init_70 ?_
        refine mw_putF (ci := 2) (C := RX2) (T := TX2) (N := 5) (ty := .long) hC i_X2_init_X2 tyX2 tyX2_ok nmX2 hM hS hc_t rfl 3 (by decide) l_X2_init_8 rfl rfl hnm rfl (by decide +kernel) rfl rfl (Nat.le_of_ble_eq_true rfl) dX2_init_71 (fun H locs σ1 hM hS hc_t ho8 => ?_)
        replace hc_t : σ1 a_t = some (cl2  (p0, (p0 * p0), ((shlL 1 (p0 * p0)) - 1), (((shlL 1 (p0 * p0)) - 1) &&& (x2 ^^^ (-1))), y_t.2.2.2.2)) := hc_t
        have hf9 := fun (q : Nat) (f : va_E) (hf : σ q = some f) (n0 : q ≠ a_t) => ho8 q f (hf7 q f hf n0) n0
        refine lv_aload_n hx hb dX2_init_74 rfl (lv_at hl 2 rfl) ?_
        refine lv_aload_n hx hb dX2_init_75 rfl (lv_at hl 2 rfl) ?_
        refine mw_get (ci := 2) (C := RX2) (T := TX2) (N := 5) (v := .long ((shlL 1 (p0 * p0)) - 1)) hC i_X2_init_X2 hM hc_t rfl 2 (by decide) l_X2_init_6 rfl rfl dX2_init_76 ?_
        refine lv_lload_n hx hb dX2_init_79 rfl (lv_at hl 1 rfl) ?_
        refine lv_iload_n hx hb dX2_init_80 rfl (lv_at hl 3 rfl) ?_
        refine lv_iconst (v := 1) hx hb dX2_init_81 (by decide) ?_
        refine lv_isub hx hb dX2_init_82 ?_
        refine lv_lshl (v := (shlL x2 (p0 - 1))) hx hb dX2_init_83 rfl ?_
        refine lv_ldc2 (v := -1) hx hb hown (hts _ l_X2_init_7) dX2_init_84 ?_
        refine lv_lxor hx hb dX2_init_87 ?_
        refine lv_land hx hb dX2_init_88 ?_
        refine mw_putF (ci := 2) (C := RX2) (T := TX2) (N := 5) (ty := .long) hC i_X2_init_X2 tyX2 tyX2_ok nmX2 hM hS hc_t rfl 4 (by decide) l_X2_init_9 rfl rfl hnm rfl (by decide +kernel) rfl rfl (Nat.le_of_ble_eq_true rfl) dX2_init_89 (fun H locs σ1 hM hS hc_t ho10 => ?_)
        replace hc_t : σ1 a_t = some (cl2  (p0, (p0 * p0), ((shlL 1 (p0 * p0)) - 1), (((shlL 1 (p0 * p0)) - 1) &&& (x2 ^^^ (-1))), (((shlL 1 (p0 * p0)) - 1) &&& ((shlL x2 (p0 - 1)) ^^^ (-1))))) := hc_t
        have hf11 := fun (q : Nat) (f : va_E) (hf : σ q = some f) (n0 : q ≠ a_t) => ho10 q f (hf9 q f hf n0) n0
        cases h
        exact W.vret hx hb hr (fun t ht hW => ⟨⟨_, rfl, ⟨hc_t, hf11⟩, by show MW z D _ t.heap; rw [ht]; exact hM⟩, hS.F ht⟩) hS.2.2 dX2_init_92 hlocks
      · replace h := it_neg c1 h
        refine lv_iload hx hb dX2_init_15 (lv_at hl 0 rfl) ?_
        refine lv_bipush (v := 7) hx hb dX2_init_17 (by decide) ?_
        refine lv_icmp_ge (tgt := 37) hx hb dX2_init_19 (by decide) (fun c12 => ?_) (fun c12 => ?_)
        · replace h := it_pos c12 h
          refine lv_aload_n hx hb dX2_init_37 rfl (lv_at hl 2 rfl) ?_
          refine lv_iload_n hx hb dX2_init_38 rfl (lv_at hl 3 rfl) ?_
          refine mw_putF (ci := 2) (C := RX2) (T := TX2) (N := 5) (ty := .int) hC i_X2_init_X2 tyX2 tyX2_ok nmX2 hM hS hc_t rfl 0 (by decide) l_X2_init_3 rfl rfl hnm rfl (by decide +kernel) rfl rfl (Nat.le_of_ble_eq_true rfl) dX2_init_39 (fun H locs σ1 hM hS hc_t ho13 => ?_)
          replace hc_t : σ1 a_t = some (cl2  (p0, y_t.2.1, y_t.2.2.1, y_t.2.2.2.1, y_t.2.2.2.2)) := hc_t
          have hf14 := fun (q : Nat) (f : va_E) (hf : σ q = some f) (n0 : q ≠ a_t) => ho13 q f (hfL q f hf n0) n0
          refine lv_aload_n hx hb dX2_init_42 rfl (lv_at hl 2 rfl) ?_
          refine lv_iload_n hx hb dX2_init_43 rfl (lv_at hl 3 rfl) ?_
          refine lv_iload_n hx hb dX2_init_44 rfl (lv_at hl 3 rfl) ?_
          refine lv_imul hx hb dX2_init_45 ?_
          refine mw_putF (ci := 2) (C := RX2) (T := TX2) (N := 5) (ty := .int) hC i_X2_init_X2 tyX2 tyX2_ok nmX2 hM hS hc_t rfl 1 (by decide) l_X2_init_5 rfl rfl hnm rfl (by decide +kernel) rfl rfl (Nat.le_of_ble_eq_true rfl) dX2_init_46 (fun H locs σ1 hM hS hc_t ho15 => ?_)
          replace hc_t : σ1 a_t = some (cl2  (p0, (p0 * p0), y_t.2.2.1, y_t.2.2.2.1, y_t.2.2.2.2)) := hc_t
          have hf16 := fun (q : Nat) (f : va_E) (hf : σ q = some f) (n0 : q ≠ a_t) => ho15 q f (hf14 q f hf n0) n0
          refine lv_aload_n hx hb dX2_init_49 rfl (lv_at hl 2 rfl) ?_
          refine lv_lconst (v := 1) hx hb dX2_init_50 (by decide) ?_
          refine lv_iload_n hx hb dX2_init_51 rfl (lv_at hl 3 rfl) ?_
          refine lv_iload_n hx hb dX2_init_52 rfl (lv_at hl 3 rfl) ?_
          refine lv_imul hx hb dX2_init_53 ?_
          refine lv_lshl (v := (shlL 1 (p0 * p0))) hx hb dX2_init_54 rfl ?_
          refine lv_lconst (v := 1) hx hb dX2_init_55 (by decide) ?_
          refine lv_lsub hx hb dX2_init_56 ?_
          refine mw_putF (ci := 2) (C := RX2) (T := TX2) (N := 5) (ty := .long) hC i_X2_init_X2 tyX2 tyX2_ok nmX2 hM hS hc_t rfl 2 (by decide) l_X2_init_6 rfl rfl hnm rfl (by decide +kernel) rfl rfl (Nat.le_of_ble_eq_true rfl) dX2_init_57 (fun H locs σ1 hM hS hc_t ho17 => ?_)
          replace hc_t : σ1 a_t = some (cl2  (p0, (p0 * p0), ((shlL 1 (p0 * p0)) - 1), y_t.2.2.2.1, y_t.2.2.2.2)) := hc_t
          have hf18 := fun (q : Nat) (f : va_E) (hf : σ q = some f) (n0 : q ≠ a_t) => ho17 q f (hf16 q f hf n0) n0
          refine lv_aload_n hx hb dX2_init_60 rfl (lv_at hl 2 rfl) ?_
          refine lv_aload_n hx hb dX2_init_61 rfl (lv_at hl 2 rfl) ?_
          refine mw_get (ci := 2) (C := RX2) (T := TX2) (N := 5) (v := .long ((shlL 1 (p0 * p0)) - 1)) hC i_X2_init_X2 hM hc_t rfl 2 (by decide) l_X2_init_6 rfl rfl dX2_init_62 ?_
          refine lv_lload_n hx hb dX2_init_65 rfl (lv_at hl 1 rfl) ?_
          refine lv_ldc2 (v := -1) hx hb hown (hts _ l_X2_init_7) dX2_init_66 ?_
          refine lv_lxor hx hb dX2_init_69 ?_
          refine lv_land hx hb dX2_init_70 ?_
          refine mw_putF (ci := 2) (C := RX2) (T := TX2) (N := 5) (ty := .long) hC i_X2_init_X2 tyX2 tyX2_ok nmX2 hM hS hc_t rfl 3 (by decide) l_X2_init_8 rfl rfl hnm rfl (by decide +kernel) rfl rfl (Nat.le_of_ble_eq_true rfl) dX2_init_71 (fun H locs σ1 hM hS hc_t ho19 => ?_)
          replace hc_t : σ1 a_t = some (cl2  (p0, (p0 * p0), ((shlL 1 (p0 * p0)) - 1), (((shlL 1 (p0 * p0)) - 1) &&& (x2 ^^^ (-1))), y_t.2.2.2.2)) := hc_t
          have hf20 := fun (q : Nat) (f : va_E) (hf : σ q = some f) (n0 : q ≠ a_t) => ho19 q f (hf18 q f hf n0) n0
          refine lv_aload_n hx hb dX2_init_74 rfl (lv_at hl 2 rfl) ?_
          refine lv_aload_n hx hb dX2_init_75 rfl (lv_at hl 2 rfl) ?_
          refine mw_get (ci := 2) (C := RX2) (T := TX2) (N := 5) (v := .long ((shlL 1 (p0 * p0)) - 1)) hC i_X2_init_X2 hM hc_t rfl 2 (by decide) l_X2_init_6 rfl rfl dX2_init_76 ?_
          refine lv_lload_n hx hb dX2_init_79 rfl (lv_at hl 1 rfl) ?_
          refine lv_iload_n hx hb dX2_init_80 rfl (lv_at hl 3 rfl) ?_
          refine lv_iconst (v := 1) hx hb dX2_init_81 (by decide) ?_
          refine lv_isub hx hb dX2_init_82 ?_
          refine lv_lshl (v := (shlL x2 (p0 - 1))) hx hb dX2_init_83 rfl ?_
          refine lv_ldc2 (v := -1) hx hb hown (hts _ l_X2_init_7) dX2_init_84 ?_
          refine lv_lxor hx hb dX2_init_87 ?_
          refine lv_land hx hb dX2_init_88 ?_
          refine mw_putF (ci := 2) (C := RX2) (T := TX2) (N := 5) (ty := .long) hC i_X2_init_X2 tyX2 tyX2_ok nmX2 hM hS hc_t rfl 4 (by decide) l_X2_init_9 rfl rfl hnm rfl (by decide +kernel) rfl rfl (Nat.le_of_ble_eq_true rfl) dX2_init_89 (fun H locs σ1 hM hS hc_t ho21 => ?_)
          replace hc_t : σ1 a_t = some (cl2  (p0, (p0 * p0), ((shlL 1 (p0 * p0)) - 1), (((shlL 1 (p0 * p0)) - 1) &&& (x2 ^^^ (-1))), (((shlL 1 (p0 * p0)) - 1) &&& ((shlL x2 (p0 - 1)) ^^^ (-1))))) := hc_t
          have hf22 := fun (q : Nat) (f : va_E) (hf : σ q = some f) (n0 : q ≠ a_t) => ho21 q f (hf20 q f hf n0) n0
          cases h
          exact W.vret hx hb hr (fun t ht hW => ⟨⟨_, rfl, ⟨hc_t, hf22⟩, by show MW z D _ t.heap; rw [ht]; exact hM⟩, hS.F ht⟩) hS.2.2 dX2_init_92 hlocks
        · replace h := it_neg c12 h
          refine lv_lload_n hx hb dX2_init_22 rfl (lv_at hl 1 rfl) ?_
          refine lv_lconst (v := 1) hx hb dX2_init_23 (by decide) ?_
          refine lv_iload hx hb dX2_init_24 (lv_at hl 0 rfl) ?_
          refine lv_iload_n hx hb dX2_init_26 rfl (lv_at hl 3 rfl) ?_
          refine lv_imul hx hb dX2_init_27 ?_
          refine lv_lshl (v := (shlL 1 (x4 * p0))) hx hb dX2_init_28 rfl ?_
          refine lv_lor hx hb dX2_init_29 ?_
          refine lv_topl (fun v23 ev23 => ?_)
          replace h := bnd_at ev23 h
          refine lv_lstore_n (lv' := [(2, .long v23), (4, .int x4), (0, .ref a_t), (1, .int p0)]) hx hb dX2_init_30 rfl hl (by decide) rfl (fun ls hl => ?_)
          refine lv_iinc (v := (x4 + 1)) (lv' := [(4, .int (x4 + 1)), (2, .long v23), (0, .ref a_t), (1, .int p0)]) hx hb dX2_init_31 hl (k := 1) rfl rfl (by decide) rfl (fun ls hl => ?_)
          refine lv_goto (tgt := 9) hx hb dX2_init_34 (by decide) ?_
          exact ih0 v23 (x4 + 1) y_t _ _ _ hM hS hc_t hfL h ls (lv_sub hl [0, 1, 2, 3] rfl)
  exact L9 5000 0 0 ((0 : Int32), (0 : Int32), (0 : Int64), (0 : Int64), (0 : Int64)) _ _ _ hM hS hc_t (fun _ _ h9 _ => h9) h ls (lv_sub hl [0, 1, 2, 3] rfl)
theorem l_X0_keepPosition_0 : Cond.fieldLink RX0 27 "CornerStones$Game" "moves" "I" ∈ wsX0_keepPosition := (List.mem_cons_of_mem _ (List.mem_append_left _ (List.mem_of_getElem? (i := 0) rfl)))
theorem i_X0_keepPosition_X0 : ∀ w ∈ wsX00, w ∈ wsX0_keepPosition := fun _ h => (List.mem_cons_of_mem _ (List.mem_append_right _ h))
theorem l_X0_keepPosition_2 : Cond.fieldLink RX0 9 "CornerStones$Game" "before0" "[J" ∈ wsX0_keepPosition := (List.mem_cons_of_mem _ (List.mem_append_left _ (List.mem_of_getElem? (i := 1) rfl)))
theorem l_X0_keepPosition_3 : Cond.fieldLink RX0 15 "CornerStones$Game" "before1" "[J" ∈ wsX0_keepPosition := (List.mem_cons_of_mem _ (List.mem_append_left _ (List.mem_of_getElem? (i := 2) rfl)))
theorem l_X0_keepPosition_4 : Cond.fieldLink RX0 37 "CornerStones$Game" "stones0" "J" ∈ wsX0_keepPosition := (List.mem_cons_of_mem _ (List.mem_append_left _ (List.mem_of_getElem? (i := 3) rfl)))
theorem l_X0_keepPosition_5 : Cond.fieldLink RX0 41 "CornerStones$Game" "stones1" "J" ∈ wsX0_keepPosition := (List.mem_cons_of_mem _ (List.mem_append_left _ (List.mem_of_getElem? (i := 4) rfl)))
theorem q_X0_keepPosition : yX0_keepPosition.cls ≠ "java/lang/invoke/MethodHandle" ∧ yX0_keepPosition.cls ≠ "java/lang/invoke/VarHandle" ∧ (parseMethodDescriptor yX0_keepPosition.desc).map (fun d => d.parameters.length) = some 0 := by decide +kernel
def fX0_keepPosition (w_t : Int32 × Int32 × Int32 × Int32 × Int64 × Int64 × Int32 × Int32) (f_t_before0 : Nat → Int64) (f_t_before1 : Nat → Int64) : Option ((Nat → Int64) × (Nat → Int64)) := if w_t.2.1 < 0 then (some ((f_t_before0, f_t_before1))) else (if 121 ≤ w_t.2.1 then (some ((f_t_before0, f_t_before1))) else (if 121 ≤ w_t.2.1 then (some ((f_t_before0, f_t_before1))) else (if inB w_t.2.1 121 = true then (if inB w_t.2.1 121 = true then (some (((vp_updL f_t_before0 w_t.2.1.toNatClampNeg w_t.2.2.2.2.1), (vp_updL f_t_before1 w_t.2.1.toNatClampNeg w_t.2.2.2.2.2.1)))) else none) else none)))
set_option maxHeartbeats 4000000 in
set_option maxRecDepth 100000 in
theorem c_X0_keepPosition {l : Launch} {z : Nat} {D : va_G} {K : Nat → ClassId} {σ : mwm} {a_t a_t_before0 a_t_before1 a_t_grid : Nat} {w_t : Int32 × Int32 × Int32 × Int32 × Int64 × Int64 × Int32 × Int32} {f_t_before0 : Nat → Int64} {f_t_before1 : Nat → Int64} (hc_t : σ a_t = some (cl0 a_t_before0 a_t_before1 a_t_grid w_t)) (hc_t_before0 : σ a_t_before0 = some (eJ K 121 f_t_before0)) (hc_t_before1 : σ a_t_before1 = some (eJ K 121 f_t_before1)) (n_t_t_before0 : a_t ≠ a_t_before0) (n_t_t_before1 : a_t ≠ a_t_before1) (n_t_before0_t_before1 : a_t_before0 ≠ a_t_before1) {v : (Nat → Int64) × (Nat → Int64)} (h : fX0_keepPosition w_t f_t_before0 f_t_before1 = some v) : Met l yX0_keepPosition wsX0_keepPosition ({ frames := 0, cells := 0, slots := 0, locals := 0 } : Room) (PCm z D K [.ref a_t] σ) (qwV z D (fun σ2 => σ2 a_t_before0 = some (eJ K 121 v.1) ∧ σ2 a_t_before1 = some (eJ K 121 v.2) ∧ ∀ (q : Nat) (f : va_E), σ q = some f → q ≠ a_t_before0 → q ≠ a_t_before1 → σ2 q = some f)) 0 0 (zA z) := by
  refine mt_enter (cc := cX0_keepPosition) (maxL := 1) (ret := none) (own := RX0) (lv := [(0, .ref a_t)]) (by decide) rfl rfl (Nat.le_of_ble_eq_true rfl) rfl ?_
  intro p e s m below meth c ls hC hx hb hown hts hK hr hlocks hnm hz hM hS hl
  unfold fX0_keepPosition at h
  refine lv_aload_n hx hb dX0_keepPosition_0 rfl (lv_at hl 0 rfl) ?_
  refine mw_get (ci := 0) (C := RX0) (T := TX0) (N := 11) (v := .int w_t.2.1) hC i_X0_keepPosition_X0 hM hc_t rfl 4 (by decide) l_X0_keepPosition_0 rfl rfl dX0_keepPosition_1 ?_
  refine lv_if_lt (tgt := 57) hx hb dX0_keepPosition_4 (by decide) (fun c1 => ?_) (fun c1 => ?_)
  · replace h := it_pos c1 h
    cases h
    exact W.vret hx hb hr (fun t ht hW => ⟨⟨_, rfl, ⟨hc_t_before0, hc_t_before1, (fun _ _ h9 _ _ => h9)⟩, by show MW z D _ t.heap; rw [ht]; exact hM⟩, hS.F ht⟩) hS.2.2 dX0_keepPosition_57 hlocks
  · replace h := it_neg c1 h
    refine lv_aload_n hx hb dX0_keepPosition_7 rfl (lv_at hl 0 rfl) ?_
    refine mw_get (ci := 0) (C := RX0) (T := TX0) (N := 11) (v := .int w_t.2.1) hC i_X0_keepPosition_X0 hM hc_t rfl 4 (by decide) l_X0_keepPosition_0 rfl rfl dX0_keepPosition_8 ?_
    refine lv_aload_n hx hb dX0_keepPosition_11 rfl (lv_at hl 0 rfl) ?_
    refine mw_get (ci := 0) (C := RX0) (T := TX0) (N := 11) (v := .ref a_t_before0) hC i_X0_keepPosition_X0 hM hc_t rfl 0 (by decide) l_X0_keepPosition_2 rfl rfl dX0_keepPosition_12 ?_
    refine mw_len (v := 121) hC hM hc_t_before0 0 rfl rfl dX0_keepPosition_15 ?_
    refine lv_icmp_ge (tgt := 57) hx hb dX0_keepPosition_16 (by decide) (fun c2 => ?_) (fun c2 => ?_)
    · replace h := it_pos c2 h
      cases h
      exact W.vret hx hb hr (fun t ht hW => ⟨⟨_, rfl, ⟨hc_t_before0, hc_t_before1, (fun _ _ h9 _ _ => h9)⟩, by show MW z D _ t.heap; rw [ht]; exact hM⟩, hS.F ht⟩) hS.2.2 dX0_keepPosition_57 hlocks
    · replace h := it_neg c2 h
      refine lv_aload_n hx hb dX0_keepPosition_19 rfl (lv_at hl 0 rfl) ?_
      refine mw_get (ci := 0) (C := RX0) (T := TX0) (N := 11) (v := .int w_t.2.1) hC i_X0_keepPosition_X0 hM hc_t rfl 4 (by decide) l_X0_keepPosition_0 rfl rfl dX0_keepPosition_20 ?_
      refine lv_aload_n hx hb dX0_keepPosition_23 rfl (lv_at hl 0 rfl) ?_
      refine mw_get (ci := 0) (C := RX0) (T := TX0) (N := 11) (v := .ref a_t_before1) hC i_X0_keepPosition_X0 hM hc_t rfl 1 (by decide) l_X0_keepPosition_3 rfl rfl dX0_keepPosition_24 ?_
      refine mw_len (v := 121) hC hM hc_t_before1 0 rfl rfl dX0_keepPosition_27 ?_
      refine lv_icmp_ge (tgt := 57) hx hb dX0_keepPosition_28 (by decide) (fun c3 => ?_) (fun c3 => ?_)
      · replace h := it_pos c3 h
        cases h
        exact W.vret hx hb hr (fun t ht hW => ⟨⟨_, rfl, ⟨hc_t_before0, hc_t_before1, (fun _ _ h9 _ _ => h9)⟩, by show MW z D _ t.heap; rw [ht]; exact hM⟩, hS.F ht⟩) hS.2.2 dX0_keepPosition_57 hlocks
      · replace h := it_neg c3 h
        refine lv_aload_n hx hb dX0_keepPosition_31 rfl (lv_at hl 0 rfl) ?_
        refine mw_get (ci := 0) (C := RX0) (T := TX0) (N := 11) (v := .ref a_t_before0) hC i_X0_keepPosition_X0 hM hc_t rfl 0 (by decide) l_X0_keepPosition_2 rfl rfl dX0_keepPosition_32 ?_
        refine lv_aload_n hx hb dX0_keepPosition_35 rfl (lv_at hl 0 rfl) ?_
        refine mw_get (ci := 0) (C := RX0) (T := TX0) (N := 11) (v := .int w_t.2.1) hC i_X0_keepPosition_X0 hM hc_t rfl 4 (by decide) l_X0_keepPosition_0 rfl rfl dX0_keepPosition_36 ?_
        refine lv_aload_n hx hb dX0_keepPosition_39 rfl (lv_at hl 0 rfl) ?_
        refine mw_get (ci := 0) (C := RX0) (T := TX0) (N := 11) (v := .long w_t.2.2.2.2.1) hC i_X0_keepPosition_X0 hM hc_t rfl 7 (by decide) l_X0_keepPosition_4 rfl rfl dX0_keepPosition_40 ?_
        obtain ⟨c4, h⟩ := gd_some h
        refine mw_stJ hC hM hS hc_t_before0 (inB_ok c4) dX0_keepPosition_43 (fun H locs σ1 hM hS hc_t_before0 ho5 => ?_)
        replace hc_t_before0 : σ1 a_t_before0 = some (eJ K 121 (vp_updL f_t_before0 w_t.2.1.toNatClampNeg w_t.2.2.2.2.1)) := hc_t_before0
        replace hc_t_before1 := ho5 a_t_before1 _ hc_t_before1 (Ne.symm n_t_before0_t_before1)
        have hf6 := fun (q : Nat) (f : va_E) (hf : σ q = some f) (n0 : q ≠ a_t_before0) (n1 : q ≠ a_t_before1) => ho5 q f hf n0
        refine lv_aload_n hx hb dX0_keepPosition_44 rfl (lv_at hl 0 rfl) ?_
        refine mw_get (ci := 0) (C := RX0) (T := TX0) (N := 11) (v := .ref a_t_before1) hC i_X0_keepPosition_X0 hM (hf6 a_t _ hc_t n_t_t_before0 n_t_t_before1) rfl 1 (by decide) l_X0_keepPosition_3 rfl rfl dX0_keepPosition_45 ?_
        refine lv_aload_n hx hb dX0_keepPosition_48 rfl (lv_at hl 0 rfl) ?_
        refine mw_get (ci := 0) (C := RX0) (T := TX0) (N := 11) (v := .int w_t.2.1) hC i_X0_keepPosition_X0 hM (hf6 a_t _ hc_t n_t_t_before0 n_t_t_before1) rfl 4 (by decide) l_X0_keepPosition_0 rfl rfl dX0_keepPosition_49 ?_
        refine lv_aload_n hx hb dX0_keepPosition_52 rfl (lv_at hl 0 rfl) ?_
        refine mw_get (ci := 0) (C := RX0) (T := TX0) (N := 11) (v := .long w_t.2.2.2.2.2.1) hC i_X0_keepPosition_X0 hM (hf6 a_t _ hc_t n_t_t_before0 n_t_t_before1) rfl 8 (by decide) l_X0_keepPosition_5 rfl rfl dX0_keepPosition_53 ?_
        obtain ⟨c7, h⟩ := gd_some h
        refine mw_stJ hC hM hS hc_t_before1 (inB_ok c7) dX0_keepPosition_56 (fun H locs σ1 hM hS hc_t_before1 ho8 => ?_)
        replace hc_t_before1 : σ1 a_t_before1 = some (eJ K 121 (vp_updL f_t_before1 w_t.2.1.toNatClampNeg w_t.2.2.2.2.2.1)) := hc_t_before1
        replace hc_t_before0 := ho8 a_t_before0 _ hc_t_before0 n_t_before0_t_before1
        have hf9 := fun (q : Nat) (f : va_E) (hf : σ q = some f) (n0 : q ≠ a_t_before0) (n1 : q ≠ a_t_before1) => ho8 q f (hf6 q f hf n0 n1) n1
        cases h
        exact W.vret hx hb hr (fun t ht hW => ⟨⟨_, rfl, ⟨hc_t_before0, hc_t_before1, hf9⟩, by show MW z D _ t.heap; rw [ht]; exact hM⟩, hS.F ht⟩) hS.2.2 dX0_keepPosition_57 hlocks
theorem l_X0_copyFrom_0 : Cond.fieldLink RX0 18 "CornerStones$Game" "grid" "LCornerStones$Grid;" ∈ wsX0_copyFrom := (List.mem_cons_of_mem _ (List.mem_append_left _ (List.mem_of_getElem? (i := 0) rfl)))
theorem i_X0_copyFrom_X0 : ∀ w ∈ wsX00, w ∈ wsX0_copyFrom := fun _ h => (List.mem_cons_of_mem _ (List.mem_append_right _ h))
theorem l_X0_copyFrom_2 : Cond.fieldLink RX0 53 "CornerStones$Game" "setting" "I" ∈ wsX0_copyFrom := (List.mem_cons_of_mem _ (List.mem_append_left _ (List.mem_of_getElem? (i := 1) rfl)))
theorem l_X0_copyFrom_3 : Cond.fieldLink RX0 27 "CornerStones$Game" "moves" "I" ∈ wsX0_copyFrom := (List.mem_cons_of_mem _ (List.mem_append_left _ (List.mem_of_getElem? (i := 2) rfl)))
theorem l_X0_copyFrom_4 : Cond.fieldLink RX0 31 "CornerStones$Game" "passes" "I" ∈ wsX0_copyFrom := (List.mem_cons_of_mem _ (List.mem_append_left _ (List.mem_of_getElem? (i := 3) rfl)))
theorem l_X0_copyFrom_5 : Cond.fieldLink RX0 34 "CornerStones$Game" "passesInRow" "I" ∈ wsX0_copyFrom := (List.mem_cons_of_mem _ (List.mem_append_left _ (List.mem_of_getElem? (i := 4) rfl)))
theorem l_X0_copyFrom_6 : Cond.fieldLink RX0 37 "CornerStones$Game" "stones0" "J" ∈ wsX0_copyFrom := (List.mem_cons_of_mem _ (List.mem_append_left _ (List.mem_of_getElem? (i := 5) rfl)))
theorem l_X0_copyFrom_7 : Cond.fieldLink RX0 41 "CornerStones$Game" "stones1" "J" ∈ wsX0_copyFrom := (List.mem_cons_of_mem _ (List.mem_append_left _ (List.mem_of_getElem? (i := 6) rfl)))
theorem l_X0_copyFrom_8 : Cond.fieldLink RX0 44 "CornerStones$Game" "captives0" "I" ∈ wsX0_copyFrom := (List.mem_cons_of_mem _ (List.mem_append_left _ (List.mem_of_getElem? (i := 7) rfl)))
theorem l_X0_copyFrom_9 : Cond.fieldLink RX0 47 "CornerStones$Game" "captives1" "I" ∈ wsX0_copyFrom := (List.mem_cons_of_mem _ (List.mem_append_left _ (List.mem_of_getElem? (i := 8) rfl)))
theorem l_X0_copyFrom_10 : Cond.fieldLink RX0 15 "CornerStones$Game" "before1" "[J" ∈ wsX0_copyFrom := (List.mem_cons_of_mem _ (List.mem_append_left _ (List.mem_of_getElem? (i := 10) rfl)))
theorem l_X0_copyFrom_11 : Cond.fieldLink RX0 9 "CornerStones$Game" "before0" "[J" ∈ wsX0_copyFrom := (List.mem_cons_of_mem _ (List.mem_append_left _ (List.mem_of_getElem? (i := 9) rfl)))
theorem q_X0_copyFrom : yX0_copyFrom.cls ≠ "java/lang/invoke/MethodHandle" ∧ yX0_copyFrom.cls ≠ "java/lang/invoke/VarHandle" ∧ (parseMethodDescriptor yX0_copyFrom.desc).map (fun d => d.parameters.length) = some 1 := by decide +kernel
def fX0_copyFrom_120 (w_t : Int32 × Int32 × Int32 × Int32 × Int64 × Int64 × Int32 × Int32) (w_p0 : Int32 × Int32 × Int32 × Int32 × Int64 × Int64 × Int32 × Int32) (f_t_before0 : Nat → Int64) (f_t_before1 : Nat → Int64) (f_p0_before0 : Nat → Int64) (f_p0_before1 : Nat → Int64) (k0 : Int32 → (Int32 × Int32 × Int32 × Int32 × Int64 × Int64 × Int32 × Int32) → (Nat → Int64) → (Nat → Int64) → Option ((Int32 × Int32 × Int32 × Int32 × Int64 × Int64 × Int32 × Int32) × (Nat → Int64) × (Nat → Int64))) : Nat → Int32 → (Int32 × Int32 × Int32 × Int32 × Int64 × Int64 × Int32 × Int32) → (Nat → Int64) → (Nat → Int64) → Option ((Int32 × Int32 × Int32 × Int32 × Int64 × Int64 × Int32 × Int32) × (Nat → Int64) × (Nat → Int64))
  | 0, _, _, _, _ => none
  | fu + 1, x2, y_t, g_t_before0, g_t_before1 => if y_t.2.1 < x2 then (some ((y_t, g_t_before0, g_t_before1))) else (if 121 ≤ x2 then (some ((y_t, g_t_before0, g_t_before1))) else (if 121 ≤ x2 then (some ((y_t, g_t_before0, g_t_before1))) else (if inB x2 121 = true then (if inB x2 121 = true then (fX0_copyFrom_120 w_t w_p0 f_t_before0 f_t_before1 f_p0_before0 f_p0_before1 k0 fu (x2 + 1) y_t g_t_before0 (vp_updL g_t_before1 x2.toNatClampNeg (f_p0_before1 x2.toNatClampNeg))) else none) else none)))
def fX0_copyFrom_74 (w_t : Int32 × Int32 × Int32 × Int32 × Int64 × Int64 × Int32 × Int32) (w_p0 : Int32 × Int32 × Int32 × Int32 × Int64 × Int64 × Int32 × Int32) (f_t_before0 : Nat → Int64) (f_t_before1 : Nat → Int64) (f_p0_before0 : Nat → Int64) (f_p0_before1 : Nat → Int64) : Nat → Int32 → (Int32 × Int32 × Int32 × Int32 × Int64 × Int64 × Int32 × Int32) → (Nat → Int64) → (Nat → Int64) → Option ((Int32 × Int32 × Int32 × Int32 × Int64 × Int64 × Int32 × Int32) × (Nat → Int64) × (Nat → Int64))
  | 0, _, _, _, _ => none
  | fu + 1, x2, y_t, g_t_before0, g_t_before1 => if y_t.2.1 < x2 then (fX0_copyFrom_120 w_t w_p0 f_t_before0 f_t_before1 f_p0_before0 f_p0_before1 (fX0_copyFrom_74 w_t w_p0 f_t_before0 f_t_before1 f_p0_before0 f_p0_before1 fu) 5000 0 y_t g_t_before0 g_t_before1) else (if 121 ≤ x2 then (fX0_copyFrom_120 w_t w_p0 f_t_before0 f_t_before1 f_p0_before0 f_p0_before1 (fX0_copyFrom_74 w_t w_p0 f_t_before0 f_t_before1 f_p0_before0 f_p0_before1 fu) 5000 0 y_t g_t_before0 g_t_before1) else (if 121 ≤ x2 then (fX0_copyFrom_120 w_t w_p0 f_t_before0 f_t_before1 f_p0_before0 f_p0_before1 (fX0_copyFrom_74 w_t w_p0 f_t_before0 f_t_before1 f_p0_before0 f_p0_before1 fu) 5000 0 y_t g_t_before0 g_t_before1) else (if inB x2 121 = true then (if inB x2 121 = true then (fX0_copyFrom_74 w_t w_p0 f_t_before0 f_t_before1 f_p0_before0 f_p0_before1 fu (x2 + 1) y_t (vp_updL g_t_before0 x2.toNatClampNeg (f_p0_before0 x2.toNatClampNeg)) g_t_before1) else none) else none)))
def fX0_copyFrom (w_t : Int32 × Int32 × Int32 × Int32 × Int64 × Int64 × Int32 × Int32) (w_p0 : Int32 × Int32 × Int32 × Int32 × Int64 × Int64 × Int32 × Int32) (f_t_before0 : Nat → Int64) (f_t_before1 : Nat → Int64) (f_p0_before0 : Nat → Int64) (f_p0_before1 : Nat → Int64) : Option ((Int32 × Int32 × Int32 × Int32 × Int64 × Int64 × Int32 × Int32) × (Nat → Int64) × (Nat → Int64)) := fX0_copyFrom_74 w_t w_p0 f_t_before0 f_t_before1 f_p0_before0 f_p0_before1 5000 0 (w_p0.1, w_p0.2.1, w_p0.2.2.1, w_p0.2.2.2.1, w_p0.2.2.2.2.1, w_p0.2.2.2.2.2.1, w_p0.2.2.2.2.2.2.1, w_p0.2.2.2.2.2.2.2) f_t_before0 f_t_before1
set_option maxHeartbeats 4000000 in
set_option maxRecDepth 100000 in
theorem c_X0_copyFrom {l : Launch} {z : Nat} {D : va_G} {K : Nat → ClassId} {σ : mwm} {a_t a_p0 a_t_before0 a_t_before1 a_t_grid a_p0_before0 a_p0_before1 a_p0_grid : Nat} {w_t : Int32 × Int32 × Int32 × Int32 × Int64 × Int64 × Int32 × Int32} {w_p0 : Int32 × Int32 × Int32 × Int32 × Int64 × Int64 × Int32 × Int32} {f_t_before0 : Nat → Int64} {f_t_before1 : Nat → Int64} {f_p0_before0 : Nat → Int64} {f_p0_before1 : Nat → Int64} (hc_t : σ a_t = some (cl0 a_t_before0 a_t_before1 a_t_grid w_t)) (hc_p0 : σ a_p0 = some (cl0 a_p0_before0 a_p0_before1 a_p0_grid w_p0)) (hc_t_before0 : σ a_t_before0 = some (eJ K 121 f_t_before0)) (hc_t_before1 : σ a_t_before1 = some (eJ K 121 f_t_before1)) (hc_p0_before0 : σ a_p0_before0 = some (eJ K 121 f_p0_before0)) (hc_p0_before1 : σ a_p0_before1 = some (eJ K 121 f_p0_before1)) (n_p0_t : a_p0 ≠ a_t) (n_p0_t_before0 : a_p0 ≠ a_t_before0) (n_p0_t_before1 : a_p0 ≠ a_t_before1) (n_p0_before0_t : a_p0_before0 ≠ a_t) (n_p0_before0_t_before0 : a_p0_before0 ≠ a_t_before0) (n_p0_before0_t_before1 : a_p0_before0 ≠ a_t_before1) (n_p0_before1_t : a_p0_before1 ≠ a_t) (n_p0_before1_t_before0 : a_p0_before1 ≠ a_t_before0) (n_p0_before1_t_before1 : a_p0_before1 ≠ a_t_before1) (n_t_t_before0 : a_t ≠ a_t_before0) (n_t_t_before1 : a_t ≠ a_t_before1) (n_t_before0_t_before1 : a_t_before0 ≠ a_t_before1) {v : (Int32 × Int32 × Int32 × Int32 × Int64 × Int64 × Int32 × Int32) × (Nat → Int64) × (Nat → Int64)} (h : fX0_copyFrom w_t w_p0 f_t_before0 f_t_before1 f_p0_before0 f_p0_before1 = some v) : Met l yX0_copyFrom wsX0_copyFrom ({ frames := 0, cells := 0, slots := 0, locals := 0 } : Room) (PCm z D K [.ref a_t, .ref a_p0] σ) (qwV z D (fun σ2 => σ2 a_t = some (cl0 a_t_before0 a_t_before1 a_p0_grid v.1) ∧ σ2 a_t_before0 = some (eJ K 121 v.2.1) ∧ σ2 a_t_before1 = some (eJ K 121 v.2.2) ∧ ∀ (q : Nat) (f : va_E), σ q = some f → q ≠ a_t → q ≠ a_t_before0 → q ≠ a_t_before1 → σ2 q = some f)) 0 0 (zA z) := by
  refine mt_enter (cc := cX0_copyFrom) (maxL := 3) (ret := none) (own := RX0) (lv := [(0, .ref a_t), (1, .ref a_p0)]) (by decide) rfl rfl (Nat.le_of_ble_eq_true rfl) rfl ?_
  intro p e s m below meth c ls hC hx hb hown hts hK hr hlocks hnm hz hM hS hl
  unfold fX0_copyFrom at h
  refine lv_aload_n hx hb dX0_copyFrom_0 rfl (lv_at hl 0 rfl) ?_
  refine lv_aload_n hx hb dX0_copyFrom_1 rfl (lv_at hl 1 rfl) ?_
  refine mw_get (ci := 0) (C := RX0) (T := TX0) (N := 11) (v := .ref a_p0_grid) hC i_X0_copyFrom_X0 hM hc_p0 rfl 2 (by decide) l_X0_copyFrom_0 rfl rfl dX0_copyFrom_2 ?_
  refine mw_put (ci := 0) (C := RX0) (T := TX0) (N := 11) (ty := (tyX0 2)) hC i_X0_copyFrom_X0 tyX0 tyX0_ok nmX0 hM hS hc_t rfl 2 (by decide) l_X0_copyFrom_0 rfl rfl (by decide +kernel) rfl rfl (Nat.le_of_ble_eq_true rfl) dX0_copyFrom_5 (fun H locs σ1 hM hS hc_t ho1 => ?_)
  replace hc_t : σ1 a_t = some (cl0 a_t_before0 a_t_before1 a_p0_grid w_t) := hc_t
  replace hc_t_before0 := ho1 a_t_before0 _ hc_t_before0 (Ne.symm n_t_t_before0)
  replace hc_t_before1 := ho1 a_t_before1 _ hc_t_before1 (Ne.symm n_t_t_before1)
  have hf2 := fun (q : Nat) (f : va_E) (hf : σ q = some f) (n0 : q ≠ a_t) (n1 : q ≠ a_t_before0) (n2 : q ≠ a_t_before1) => ho1 q f hf n0
  refine lv_aload_n hx hb dX0_copyFrom_8 rfl (lv_at hl 0 rfl) ?_
  refine lv_aload_n hx hb dX0_copyFrom_9 rfl (lv_at hl 1 rfl) ?_
  refine mw_get (ci := 0) (C := RX0) (T := TX0) (N := 11) (v := .int w_p0.1) hC i_X0_copyFrom_X0 hM (hf2 a_p0 _ hc_p0 n_p0_t n_p0_t_before0 n_p0_t_before1) rfl 3 (by decide) l_X0_copyFrom_2 rfl rfl dX0_copyFrom_10 ?_
  refine mw_put (ci := 0) (C := RX0) (T := TX0) (N := 11) (ty := .int) hC i_X0_copyFrom_X0 tyX0 tyX0_ok nmX0 hM hS hc_t rfl 3 (by decide) l_X0_copyFrom_2 rfl rfl (by decide +kernel) rfl rfl (Nat.le_of_ble_eq_true rfl) dX0_copyFrom_13 (fun H locs σ1 hM hS hc_t ho3 => ?_)
  replace hc_t : σ1 a_t = some (cl0 a_t_before0 a_t_before1 a_p0_grid (w_p0.1, w_t.2.1, w_t.2.2.1, w_t.2.2.2.1, w_t.2.2.2.2.1, w_t.2.2.2.2.2.1, w_t.2.2.2.2.2.2.1, w_t.2.2.2.2.2.2.2)) := hc_t
  replace hc_t_before0 := ho3 a_t_before0 _ hc_t_before0 (Ne.symm n_t_t_before0)
  replace hc_t_before1 := ho3 a_t_before1 _ hc_t_before1 (Ne.symm n_t_t_before1)
  have hf4 := fun (q : Nat) (f : va_E) (hf : σ q = some f) (n0 : q ≠ a_t) (n1 : q ≠ a_t_before0) (n2 : q ≠ a_t_before1) => ho3 q f (hf2 q f hf n0 n1 n2) n0
  refine lv_aload_n hx hb dX0_copyFrom_16 rfl (lv_at hl 0 rfl) ?_
  refine lv_aload_n hx hb dX0_copyFrom_17 rfl (lv_at hl 1 rfl) ?_
  refine mw_get (ci := 0) (C := RX0) (T := TX0) (N := 11) (v := .int w_p0.2.1) hC i_X0_copyFrom_X0 hM (hf4 a_p0 _ hc_p0 n_p0_t n_p0_t_before0 n_p0_t_before1) rfl 4 (by decide) l_X0_copyFrom_3 rfl rfl dX0_copyFrom_18 ?_
  refine mw_put (ci := 0) (C := RX0) (T := TX0) (N := 11) (ty := .int) hC i_X0_copyFrom_X0 tyX0 tyX0_ok nmX0 hM hS hc_t rfl 4 (by decide) l_X0_copyFrom_3 rfl rfl (by decide +kernel) rfl rfl (Nat.le_of_ble_eq_true rfl) dX0_copyFrom_21 (fun H locs σ1 hM hS hc_t ho5 => ?_)
  replace hc_t : σ1 a_t = some (cl0 a_t_before0 a_t_before1 a_p0_grid (w_p0.1, w_p0.2.1, w_t.2.2.1, w_t.2.2.2.1, w_t.2.2.2.2.1, w_t.2.2.2.2.2.1, w_t.2.2.2.2.2.2.1, w_t.2.2.2.2.2.2.2)) := hc_t
  replace hc_t_before0 := ho5 a_t_before0 _ hc_t_before0 (Ne.symm n_t_t_before0)
  replace hc_t_before1 := ho5 a_t_before1 _ hc_t_before1 (Ne.symm n_t_t_before1)
  have hf6 := fun (q : Nat) (f : va_E) (hf : σ q = some f) (n0 : q ≠ a_t) (n1 : q ≠ a_t_before0) (n2 : q ≠ a_t_before1) => ho5 q f (hf4 q f hf n0 n1 n2) n0
  refine lv_aload_n hx hb dX0_copyFrom_24 rfl (lv_at hl 0 rfl) ?_
  refine lv_aload_n hx hb dX0_copyFrom_25 rfl (lv_at hl 1 rfl) ?_
  refine mw_get (ci := 0) (C := RX0) (T := TX0) (N := 11) (v := .int w_p0.2.2.1) hC i_X0_copyFrom_X0 hM (hf6 a_p0 _ hc_p0 n_p0_t n_p0_t_before0 n_p0_t_before1) rfl 5 (by decide) l_X0_copyFrom_4 rfl rfl dX0_copyFrom_26 ?_
  refine mw_put (ci := 0) (C := RX0) (T := TX0) (N := 11) (ty := .int) hC i_X0_copyFrom_X0 tyX0 tyX0_ok nmX0 hM hS hc_t rfl 5 (by decide) l_X0_copyFrom_4 rfl rfl (by decide +kernel) rfl rfl (Nat.le_of_ble_eq_true rfl) dX0_copyFrom_29 (fun H locs σ1 hM hS hc_t ho7 => ?_)
  replace hc_t : σ1 a_t = some (cl0 a_t_before0 a_t_before1 a_p0_grid (w_p0.1, w_p0.2.1, w_p0.2.2.1, w_t.2.2.2.1, w_t.2.2.2.2.1, w_t.2.2.2.2.2.1, w_t.2.2.2.2.2.2.1, w_t.2.2.2.2.2.2.2)) := hc_t
  replace hc_t_before0 := ho7 a_t_before0 _ hc_t_before0 (Ne.symm n_t_t_before0)
  replace hc_t_before1 := ho7 a_t_before1 _ hc_t_before1 (Ne.symm n_t_t_before1)
  have hf8 := fun (q : Nat) (f : va_E) (hf : σ q = some f) (n0 : q ≠ a_t) (n1 : q ≠ a_t_before0) (n2 : q ≠ a_t_before1) => ho7 q f (hf6 q f hf n0 n1 n2) n0
  refine lv_aload_n hx hb dX0_copyFrom_32 rfl (lv_at hl 0 rfl) ?_
  refine lv_aload_n hx hb dX0_copyFrom_33 rfl (lv_at hl 1 rfl) ?_
  refine mw_get (ci := 0) (C := RX0) (T := TX0) (N := 11) (v := .int w_p0.2.2.2.1) hC i_X0_copyFrom_X0 hM (hf8 a_p0 _ hc_p0 n_p0_t n_p0_t_before0 n_p0_t_before1) rfl 6 (by decide) l_X0_copyFrom_5 rfl rfl dX0_copyFrom_34 ?_
  refine mw_put (ci := 0) (C := RX0) (T := TX0) (N := 11) (ty := .int) hC i_X0_copyFrom_X0 tyX0 tyX0_ok nmX0 hM hS hc_t rfl 6 (by decide) l_X0_copyFrom_5 rfl rfl (by decide +kernel) rfl rfl (Nat.le_of_ble_eq_true rfl) dX0_copyFrom_37 (fun H locs σ1 hM hS hc_t ho9 => ?_)
  replace hc_t : σ1 a_t = some (cl0 a_t_before0 a_t_before1 a_p0_grid (w_p0.1, w_p0.2.1, w_p0.2.2.1, w_p0.2.2.2.1, w_t.2.2.2.2.1, w_t.2.2.2.2.2.1, w_t.2.2.2.2.2.2.1, w_t.2.2.2.2.2.2.2)) := hc_t
  replace hc_t_before0 := ho9 a_t_before0 _ hc_t_before0 (Ne.symm n_t_t_before0)
  replace hc_t_before1 := ho9 a_t_before1 _ hc_t_before1 (Ne.symm n_t_t_before1)
  have hf10 := fun (q : Nat) (f : va_E) (hf : σ q = some f) (n0 : q ≠ a_t) (n1 : q ≠ a_t_before0) (n2 : q ≠ a_t_before1) => ho9 q f (hf8 q f hf n0 n1 n2) n0
  refine lv_aload_n hx hb dX0_copyFrom_40 rfl (lv_at hl 0 rfl) ?_
  refine lv_aload_n hx hb dX0_copyFrom_41 rfl (lv_at hl 1 rfl) ?_
  refine mw_get (ci := 0) (C := RX0) (T := TX0) (N := 11) (v := .long w_p0.2.2.2.2.1) hC i_X0_copyFrom_X0 hM (hf10 a_p0 _ hc_p0 n_p0_t n_p0_t_before0 n_p0_t_before1) rfl 7 (by decide) l_X0_copyFrom_6 rfl rfl dX0_copyFrom_42 ?_
  refine mw_put (ci := 0) (C := RX0) (T := TX0) (N := 11) (ty := .long) hC i_X0_copyFrom_X0 tyX0 tyX0_ok nmX0 hM hS hc_t rfl 7 (by decide) l_X0_copyFrom_6 rfl rfl (by decide +kernel) rfl rfl (Nat.le_of_ble_eq_true rfl) dX0_copyFrom_45 (fun H locs σ1 hM hS hc_t ho11 => ?_)
  replace hc_t : σ1 a_t = some (cl0 a_t_before0 a_t_before1 a_p0_grid (w_p0.1, w_p0.2.1, w_p0.2.2.1, w_p0.2.2.2.1, w_p0.2.2.2.2.1, w_t.2.2.2.2.2.1, w_t.2.2.2.2.2.2.1, w_t.2.2.2.2.2.2.2)) := hc_t
  replace hc_t_before0 := ho11 a_t_before0 _ hc_t_before0 (Ne.symm n_t_t_before0)
  replace hc_t_before1 := ho11 a_t_before1 _ hc_t_before1 (Ne.symm n_t_t_before1)
  have hf12 := fun (q : Nat) (f : va_E) (hf : σ q = some f) (n0 : q ≠ a_t) (n1 : q ≠ a_t_before0) (n2 : q ≠ a_t_before1) => ho11 q f (hf10 q f hf n0 n1 n2) n0
  refine lv_aload_n hx hb dX0_copyFrom_48 rfl (lv_at hl 0 rfl) ?_
  refine lv_aload_n hx hb dX0_copyFrom_49 rfl (lv_at hl 1 rfl) ?_
  refine mw_get (ci := 0) (C := RX0) (T := TX0) (N := 11) (v := .long w_p0.2.2.2.2.2.1) hC i_X0_copyFrom_X0 hM (hf12 a_p0 _ hc_p0 n_p0_t n_p0_t_before0 n_p0_t_before1) rfl 8 (by decide) l_X0_copyFrom_7 rfl rfl dX0_copyFrom_50 ?_
  refine mw_put (ci := 0) (C := RX0) (T := TX0) (N := 11) (ty := .long) hC i_X0_copyFrom_X0 tyX0 tyX0_ok nmX0 hM hS hc_t rfl 8 (by decide) l_X0_copyFrom_7 rfl rfl (by decide +kernel) rfl rfl (Nat.le_of_ble_eq_true rfl) dX0_copyFrom_53 (fun H locs σ1 hM hS hc_t ho13 => ?_)
  replace hc_t : σ1 a_t = some (cl0 a_t_before0 a_t_before1 a_p0_grid (w_p0.1, w_p0.2.1, w_p0.2.2.1, w_p0.2.2.2.1, w_p0.2.2.2.2.1, w_p0.2.2.2.2.2.1, w_t.2.2.2.2.2.2.1, w_t.2.2.2.2.2.2.2)) := hc_t
  replace hc_t_before0 := ho13 a_t_before0 _ hc_t_before0 (Ne.symm n_t_t_before0)
  replace hc_t_before1 := ho13 a_t_before1 _ hc_t_before1 (Ne.symm n_t_t_before1)
  have hf14 := fun (q : Nat) (f : va_E) (hf : σ q = some f) (n0 : q ≠ a_t) (n1 : q ≠ a_t_before0) (n2 : q ≠ a_t_before1) => ho13 q f (hf12 q f hf n0 n1 n2) n0
  refine lv_aload_n hx hb dX0_copyFrom_56 rfl (lv_at hl 0 rfl) ?_
  refine lv_aload_n hx hb dX0_copyFrom_57 rfl (lv_at hl 1 rfl) ?_
  refine mw_get (ci := 0) (C := RX0) (T := TX0) (N := 11) (v := .int w_p0.2.2.2.2.2.2.1) hC i_X0_copyFrom_X0 hM (hf14 a_p0 _ hc_p0 n_p0_t n_p0_t_before0 n_p0_t_before1) rfl 9 (by decide) l_X0_copyFrom_8 rfl rfl dX0_copyFrom_58 ?_
  refine mw_put (ci := 0) (C := RX0) (T := TX0) (N := 11) (ty := .int) hC i_X0_copyFrom_X0 tyX0 tyX0_ok nmX0 hM hS hc_t rfl 9 (by decide) l_X0_copyFrom_8 rfl rfl (by decide +kernel) rfl rfl (Nat.le_of_ble_eq_true rfl) dX0_copyFrom_61 (fun H locs σ1 hM hS hc_t ho15 => ?_)
  replace hc_t : σ1 a_t = some (cl0 a_t_before0 a_t_before1 a_p0_grid (w_p0.1, w_p0.2.1, w_p0.2.2.1, w_p0.2.2.2.1, w_p0.2.2.2.2.1, w_p0.2.2.2.2.2.1, w_p0.2.2.2.2.2.2.1, w_t.2.2.2.2.2.2.2)) := hc_t
  replace hc_t_before0 := ho15 a_t_before0 _ hc_t_before0 (Ne.symm n_t_t_before0)
  replace hc_t_before1 := ho15 a_t_before1 _ hc_t_before1 (Ne.symm n_t_t_before1)
  have hf16 := fun (q : Nat) (f : va_E) (hf : σ q = some f) (n0 : q ≠ a_t) (n1 : q ≠ a_t_before0) (n2 : q ≠ a_t_before1) => ho15 q f (hf14 q f hf n0 n1 n2) n0
  refine lv_aload_n hx hb dX0_copyFrom_64 rfl (lv_at hl 0 rfl) ?_
  refine lv_aload_n hx hb dX0_copyFrom_65 rfl (lv_at hl 1 rfl) ?_
  refine mw_get (ci := 0) (C := RX0) (T := TX0) (N := 11) (v := .int w_p0.2.2.2.2.2.2.2) hC i_X0_copyFrom_X0 hM (hf16 a_p0 _ hc_p0 n_p0_t n_p0_t_before0 n_p0_t_before1) rfl 10 (by decide) l_X0_copyFrom_9 rfl rfl dX0_copyFrom_66 ?_
  refine mw_put (ci := 0) (C := RX0) (T := TX0) (N := 11) (ty := .int) hC i_X0_copyFrom_X0 tyX0 tyX0_ok nmX0 hM hS hc_t rfl 10 (by decide) l_X0_copyFrom_9 rfl rfl (by decide +kernel) rfl rfl (Nat.le_of_ble_eq_true rfl) dX0_copyFrom_69 (fun H locs σ1 hM hS hc_t ho17 => ?_)
  replace hc_t : σ1 a_t = some (cl0 a_t_before0 a_t_before1 a_p0_grid (w_p0.1, w_p0.2.1, w_p0.2.2.1, w_p0.2.2.2.1, w_p0.2.2.2.2.1, w_p0.2.2.2.2.2.1, w_p0.2.2.2.2.2.2.1, w_p0.2.2.2.2.2.2.2)) := hc_t
  replace hc_t_before0 := ho17 a_t_before0 _ hc_t_before0 (Ne.symm n_t_t_before0)
  replace hc_t_before1 := ho17 a_t_before1 _ hc_t_before1 (Ne.symm n_t_t_before1)
  have hf18 := fun (q : Nat) (f : va_E) (hf : σ q = some f) (n0 : q ≠ a_t) (n1 : q ≠ a_t_before0) (n2 : q ≠ a_t_before1) => ho17 q f (hf16 q f hf n0 n1 n2) n0
  refine lv_iconst (v := 0) hx hb dX0_copyFrom_72 (by decide) ?_
  refine lv_istore_n (lv' := [(2, .int 0), (0, .ref a_t), (1, .ref a_p0)]) hx hb dX0_copyFrom_73 rfl hl (by decide) rfl (fun ls hl => ?_)
  have L74 : ∀ (fu0 : Nat) (x2 : Int32) (y_t : Int32 × Int32 × Int32 × Int32 × Int64 × Int64 × Int32 × Int32) (g_t_before0 : Nat → Int64) (g_t_before1 : Nat → Int64) (H : Heap) (locs : List Loc) (σ1 : mwm), MW z D σ1 H → va_S (zA z) s.heap H locs → σ1 a_t = some (cl0 a_t_before0 a_t_before1 a_p0_grid y_t) → σ1 a_t_before0 = some (eJ K 121 g_t_before0) → σ1 a_t_before1 = some (eJ K 121 g_t_before1) → (∀ (q : Nat) (f : va_E), σ q = some f → q ≠ a_t → q ≠ a_t_before0 → q ≠ a_t_before1 → σ1 q = some f) → fX0_copyFrom_74 w_t w_p0 f_t_before0 f_t_before1 f_p0_before0 f_p0_before1 fu0 x2 y_t g_t_before0 g_t_before1 = some v → ∀ ls : Array Slot, lv_has ls 3 [(2, .int x2), (0, .ref a_t), (1, .ref a_p0)] → W p l e ({ frames := 0, cells := 0, slots := 0, locals := 0 } : Room) s m ([.ref a_t, .ref a_p0] : List Value).toArray below meth c H locs 0 0 (MQ below (qwV z D (fun σ2 => σ2 a_t = some (cl0 a_t_before0 a_t_before1 a_p0_grid v.1) ∧ σ2 a_t_before0 = some (eJ K 121 v.2.1) ∧ σ2 a_t_before1 = some (eJ K 121 v.2.2) ∧ ∀ (q : Nat) (f : va_E), σ q = some f → q ≠ a_t → q ≠ a_t_before0 → q ≠ a_t_before1 → σ2 q = some f)) ([.ref a_t, .ref a_p0] : List Value).toArray s 0 0 (zA z)) (F0 m 74 ls []) := by
    intro fu0
    induction fu0 with
    | zero =>
      intro x2 y_t g_t_before0 g_t_before1 H locs σ1 hM hS hc_t hc_t_before0 hc_t_before1 hfL h
      unfold fX0_copyFrom_74 at h
      cases h
    | succ fu0 ih0 =>
      intro x2 y_t g_t_before0 g_t_before1 H locs σ1 hM hS hc_t hc_t_before0 hc_t_before1 hfL h ls hl
      unfold fX0_copyFrom_74 at h
      refine lv_iload_n hx hb dX0_copyFrom_74 rfl (lv_at hl 0 rfl) ?_
      refine lv_aload_n hx hb dX0_copyFrom_75 rfl (lv_at hl 1 rfl) ?_
      refine mw_get (ci := 0) (C := RX0) (T := TX0) (N := 11) (v := .int y_t.2.1) hC i_X0_copyFrom_X0 hM hc_t rfl 4 (by decide) l_X0_copyFrom_3 rfl rfl dX0_copyFrom_76 ?_
      refine lv_icmp_gt (tgt := 118) hx hb dX0_copyFrom_79 (by decide) (fun c19 => ?_) (fun c19 => ?_)
      · replace h := it_pos c19 h
        refine lv_iconst (v := 0) hx hb dX0_copyFrom_118 (by decide) ?_
        refine lv_istore_n (lv' := [(2, .int 0), (0, .ref a_t), (1, .ref a_p0)]) hx hb dX0_copyFrom_119 rfl hl (by decide) rfl (fun ls hl => ?_)
        have L120 : ∀ (fu1 : Nat) (x2 : Int32) (y_t : Int32 × Int32 × Int32 × Int32 × Int64 × Int64 × Int32 × Int32) (g_t_before0 : Nat → Int64) (g_t_before1 : Nat → Int64) (H : Heap) (locs : List Loc) (σ1 : mwm), MW z D σ1 H → va_S (zA z) s.heap H locs → σ1 a_t = some (cl0 a_t_before0 a_t_before1 a_p0_grid y_t) → σ1 a_t_before0 = some (eJ K 121 g_t_before0) → σ1 a_t_before1 = some (eJ K 121 g_t_before1) → (∀ (q : Nat) (f : va_E), σ q = some f → q ≠ a_t → q ≠ a_t_before0 → q ≠ a_t_before1 → σ1 q = some f) → fX0_copyFrom_120 w_t w_p0 f_t_before0 f_t_before1 f_p0_before0 f_p0_before1 (fX0_copyFrom_74 w_t w_p0 f_t_before0 f_t_before1 f_p0_before0 f_p0_before1 fu0) fu1 x2 y_t g_t_before0 g_t_before1 = some v → ∀ ls : Array Slot, lv_has ls 3 [(2, .int x2), (0, .ref a_t), (1, .ref a_p0)] → W p l e ({ frames := 0, cells := 0, slots := 0, locals := 0 } : Room) s m ([.ref a_t, .ref a_p0] : List Value).toArray below meth c H locs 0 0 (MQ below (qwV z D (fun σ2 => σ2 a_t = some (cl0 a_t_before0 a_t_before1 a_p0_grid v.1) ∧ σ2 a_t_before0 = some (eJ K 121 v.2.1) ∧ σ2 a_t_before1 = some (eJ K 121 v.2.2) ∧ ∀ (q : Nat) (f : va_E), σ q = some f → q ≠ a_t → q ≠ a_t_before0 → q ≠ a_t_before1 → σ2 q = some f)) ([.ref a_t, .ref a_p0] : List Value).toArray s 0 0 (zA z)) (F0 m 120 ls []) := by
          intro fu1
          induction fu1 with
          | zero =>
            intro x2 y_t g_t_before0 g_t_before1 H locs σ1 hM hS hc_t hc_t_before0 hc_t_before1 hfL h
            unfold fX0_copyFrom_120 at h
            cases h
          | succ fu1 ih1 =>
            intro x2 y_t g_t_before0 g_t_before1 H locs σ1 hM hS hc_t hc_t_before0 hc_t_before1 hfL h ls hl
            unfold fX0_copyFrom_120 at h
            refine lv_iload_n hx hb dX0_copyFrom_120 rfl (lv_at hl 0 rfl) ?_
            refine lv_aload_n hx hb dX0_copyFrom_121 rfl (lv_at hl 1 rfl) ?_
            refine mw_get (ci := 0) (C := RX0) (T := TX0) (N := 11) (v := .int y_t.2.1) hC i_X0_copyFrom_X0 hM hc_t rfl 4 (by decide) l_X0_copyFrom_3 rfl rfl dX0_copyFrom_122 ?_
            refine lv_icmp_gt (tgt := 164) hx hb dX0_copyFrom_125 (by decide) (fun c20 => ?_) (fun c20 => ?_)
            · replace h := it_pos c20 h
              cases h
              exact W.vret hx hb hr (fun t ht hW => ⟨⟨_, rfl, ⟨hc_t, hc_t_before0, hc_t_before1, hfL⟩, by show MW z D _ t.heap; rw [ht]; exact hM⟩, hS.F ht⟩) hS.2.2 dX0_copyFrom_164 hlocks
            · replace h := it_neg c20 h
              refine lv_iload_n hx hb dX0_copyFrom_128 rfl (lv_at hl 0 rfl) ?_
              refine lv_aload_n hx hb dX0_copyFrom_129 rfl (lv_at hl 1 rfl) ?_
              refine mw_get (ci := 0) (C := RX0) (T := TX0) (N := 11) (v := .ref a_t_before1) hC i_X0_copyFrom_X0 hM hc_t rfl 1 (by decide) l_X0_copyFrom_10 rfl rfl dX0_copyFrom_130 ?_
              refine mw_len (v := 121) hC hM hc_t_before1 0 rfl rfl dX0_copyFrom_133 ?_
              refine lv_icmp_ge (tgt := 164) hx hb dX0_copyFrom_134 (by decide) (fun c21 => ?_) (fun c21 => ?_)
              · replace h := it_pos c21 h
                cases h
                exact W.vret hx hb hr (fun t ht hW => ⟨⟨_, rfl, ⟨hc_t, hc_t_before0, hc_t_before1, hfL⟩, by show MW z D _ t.heap; rw [ht]; exact hM⟩, hS.F ht⟩) hS.2.2 dX0_copyFrom_164 hlocks
              · replace h := it_neg c21 h
                refine lv_iload_n hx hb dX0_copyFrom_137 rfl (lv_at hl 0 rfl) ?_
                refine lv_aload_n hx hb dX0_copyFrom_138 rfl (lv_at hl 2 rfl) ?_
                refine mw_get (ci := 0) (C := RX0) (T := TX0) (N := 11) (v := .ref a_p0_before1) hC i_X0_copyFrom_X0 hM (hfL a_p0 _ hc_p0 n_p0_t n_p0_t_before0 n_p0_t_before1) rfl 1 (by decide) l_X0_copyFrom_10 rfl rfl dX0_copyFrom_139 ?_
                refine mw_len (v := 121) hC hM (hfL a_p0_before1 _ hc_p0_before1 n_p0_before1_t n_p0_before1_t_before0 n_p0_before1_t_before1) 0 rfl rfl dX0_copyFrom_142 ?_
                refine lv_icmp_ge (tgt := 164) hx hb dX0_copyFrom_143 (by decide) (fun c22 => ?_) (fun c22 => ?_)
                · replace h := it_pos c22 h
                  cases h
                  exact W.vret hx hb hr (fun t ht hW => ⟨⟨_, rfl, ⟨hc_t, hc_t_before0, hc_t_before1, hfL⟩, by show MW z D _ t.heap; rw [ht]; exact hM⟩, hS.F ht⟩) hS.2.2 dX0_copyFrom_164 hlocks
                · replace h := it_neg c22 h
                  refine lv_aload_n hx hb dX0_copyFrom_146 rfl (lv_at hl 1 rfl) ?_
                  refine mw_get (ci := 0) (C := RX0) (T := TX0) (N := 11) (v := .ref a_t_before1) hC i_X0_copyFrom_X0 hM hc_t rfl 1 (by decide) l_X0_copyFrom_10 rfl rfl dX0_copyFrom_147 ?_
                  refine lv_iload_n hx hb dX0_copyFrom_150 rfl (lv_at hl 0 rfl) ?_
                  refine lv_aload_n hx hb dX0_copyFrom_151 rfl (lv_at hl 2 rfl) ?_
                  refine mw_get (ci := 0) (C := RX0) (T := TX0) (N := 11) (v := .ref a_p0_before1) hC i_X0_copyFrom_X0 hM (hfL a_p0 _ hc_p0 n_p0_t n_p0_t_before0 n_p0_t_before1) rfl 1 (by decide) l_X0_copyFrom_10 rfl rfl dX0_copyFrom_152 ?_
                  refine lv_iload_n hx hb dX0_copyFrom_155 rfl (lv_at hl 0 rfl) ?_
                  obtain ⟨c23, h⟩ := gd_some h
                  refine mw_ldJ hC hM (hfL a_p0_before1 _ hc_p0_before1 n_p0_before1_t n_p0_before1_t_before0 n_p0_before1_t_before1) (inB_ok c23) dX0_copyFrom_156 ?_
                  obtain ⟨c24, h⟩ := gd_some h
                  refine mw_stJ hC hM hS hc_t_before1 (inB_ok c24) dX0_copyFrom_157 (fun H locs σ1 hM hS hc_t_before1 ho25 => ?_)
                  replace hc_t_before1 : σ1 a_t_before1 = some (eJ K 121 (vp_updL g_t_before1 x2.toNatClampNeg (f_p0_before1 x2.toNatClampNeg))) := hc_t_before1
                  replace hc_t := ho25 a_t _ hc_t n_t_t_before1
                  replace hc_t_before0 := ho25 a_t_before0 _ hc_t_before0 n_t_before0_t_before1
                  have hf26 := fun (q : Nat) (f : va_E) (hf : σ q = some f) (n0 : q ≠ a_t) (n1 : q ≠ a_t_before0) (n2 : q ≠ a_t_before1) => ho25 q f (hfL q f hf n0 n1 n2) n2
                  refine lv_iinc (v := (x2 + 1)) (lv' := [(2, .int (x2 + 1)), (0, .ref a_t), (1, .ref a_p0)]) hx hb dX0_copyFrom_158 hl (k := 0) rfl rfl (by decide) rfl (fun ls hl => ?_)
                  refine lv_goto (tgt := 120) hx hb dX0_copyFrom_161 (by decide) ?_
                  exact ih1 (x2 + 1) y_t g_t_before0 (vp_updL g_t_before1 x2.toNatClampNeg (f_p0_before1 x2.toNatClampNeg)) _ _ _ hM hS hc_t hc_t_before0 hc_t_before1 hf26 h ls (lv_sub hl [0, 1, 2] rfl)
        exact L120 5000 0 y_t g_t_before0 g_t_before1 _ _ _ hM hS hc_t hc_t_before0 hc_t_before1 hfL h ls (lv_sub hl [0, 1, 2] rfl)
      · replace h := it_neg c19 h
        refine lv_iload_n hx hb dX0_copyFrom_82 rfl (lv_at hl 0 rfl) ?_
        refine lv_aload_n hx hb dX0_copyFrom_83 rfl (lv_at hl 1 rfl) ?_
        refine mw_get (ci := 0) (C := RX0) (T := TX0) (N := 11) (v := .ref a_t_before0) hC i_X0_copyFrom_X0 hM hc_t rfl 0 (by decide) l_X0_copyFrom_11 rfl rfl dX0_copyFrom_84 ?_
        refine mw_len (v := 121) hC hM hc_t_before0 0 rfl rfl dX0_copyFrom_87 ?_
        refine lv_icmp_ge (tgt := 118) hx hb dX0_copyFrom_88 (by decide) (fun c27 => ?_) (fun c27 => ?_)
        · replace h := it_pos c27 h
          refine lv_iconst (v := 0) hx hb dX0_copyFrom_118 (by decide) ?_
          refine lv_istore_n (lv' := [(2, .int 0), (0, .ref a_t), (1, .ref a_p0)]) hx hb dX0_copyFrom_119 rfl hl (by decide) rfl (fun ls hl => ?_)
          have L120 : ∀ (fu1 : Nat) (x2 : Int32) (y_t : Int32 × Int32 × Int32 × Int32 × Int64 × Int64 × Int32 × Int32) (g_t_before0 : Nat → Int64) (g_t_before1 : Nat → Int64) (H : Heap) (locs : List Loc) (σ1 : mwm), MW z D σ1 H → va_S (zA z) s.heap H locs → σ1 a_t = some (cl0 a_t_before0 a_t_before1 a_p0_grid y_t) → σ1 a_t_before0 = some (eJ K 121 g_t_before0) → σ1 a_t_before1 = some (eJ K 121 g_t_before1) → (∀ (q : Nat) (f : va_E), σ q = some f → q ≠ a_t → q ≠ a_t_before0 → q ≠ a_t_before1 → σ1 q = some f) → fX0_copyFrom_120 w_t w_p0 f_t_before0 f_t_before1 f_p0_before0 f_p0_before1 (fX0_copyFrom_74 w_t w_p0 f_t_before0 f_t_before1 f_p0_before0 f_p0_before1 fu0) fu1 x2 y_t g_t_before0 g_t_before1 = some v → ∀ ls : Array Slot, lv_has ls 3 [(2, .int x2), (0, .ref a_t), (1, .ref a_p0)] → W p l e ({ frames := 0, cells := 0, slots := 0, locals := 0 } : Room) s m ([.ref a_t, .ref a_p0] : List Value).toArray below meth c H locs 0 0 (MQ below (qwV z D (fun σ2 => σ2 a_t = some (cl0 a_t_before0 a_t_before1 a_p0_grid v.1) ∧ σ2 a_t_before0 = some (eJ K 121 v.2.1) ∧ σ2 a_t_before1 = some (eJ K 121 v.2.2) ∧ ∀ (q : Nat) (f : va_E), σ q = some f → q ≠ a_t → q ≠ a_t_before0 → q ≠ a_t_before1 → σ2 q = some f)) ([.ref a_t, .ref a_p0] : List Value).toArray s 0 0 (zA z)) (F0 m 120 ls []) := by
            intro fu1
            induction fu1 with
            | zero =>
              intro x2 y_t g_t_before0 g_t_before1 H locs σ1 hM hS hc_t hc_t_before0 hc_t_before1 hfL h
              unfold fX0_copyFrom_120 at h
              cases h
            | succ fu1 ih1 =>
              intro x2 y_t g_t_before0 g_t_before1 H locs σ1 hM hS hc_t hc_t_before0 hc_t_before1 hfL h ls hl
              unfold fX0_copyFrom_120 at h
              refine lv_iload_n hx hb dX0_copyFrom_120 rfl (lv_at hl 0 rfl) ?_
              refine lv_aload_n hx hb dX0_copyFrom_121 rfl (lv_at hl 1 rfl) ?_
              refine mw_get (ci := 0) (C := RX0) (T := TX0) (N := 11) (v := .int y_t.2.1) hC i_X0_copyFrom_X0 hM hc_t rfl 4 (by decide) l_X0_copyFrom_3 rfl rfl dX0_copyFrom_122 ?_
              refine lv_icmp_gt (tgt := 164) hx hb dX0_copyFrom_125 (by decide) (fun c28 => ?_) (fun c28 => ?_)
              · replace h := it_pos c28 h
                cases h
                exact W.vret hx hb hr (fun t ht hW => ⟨⟨_, rfl, ⟨hc_t, hc_t_before0, hc_t_before1, hfL⟩, by show MW z D _ t.heap; rw [ht]; exact hM⟩, hS.F ht⟩) hS.2.2 dX0_copyFrom_164 hlocks
              · replace h := it_neg c28 h
                refine lv_iload_n hx hb dX0_copyFrom_128 rfl (lv_at hl 0 rfl) ?_
                refine lv_aload_n hx hb dX0_copyFrom_129 rfl (lv_at hl 1 rfl) ?_
                refine mw_get (ci := 0) (C := RX0) (T := TX0) (N := 11) (v := .ref a_t_before1) hC i_X0_copyFrom_X0 hM hc_t rfl 1 (by decide) l_X0_copyFrom_10 rfl rfl dX0_copyFrom_130 ?_
                refine mw_len (v := 121) hC hM hc_t_before1 0 rfl rfl dX0_copyFrom_133 ?_
                refine lv_icmp_ge (tgt := 164) hx hb dX0_copyFrom_134 (by decide) (fun c29 => ?_) (fun c29 => ?_)
                · replace h := it_pos c29 h
                  cases h
                  exact W.vret hx hb hr (fun t ht hW => ⟨⟨_, rfl, ⟨hc_t, hc_t_before0, hc_t_before1, hfL⟩, by show MW z D _ t.heap; rw [ht]; exact hM⟩, hS.F ht⟩) hS.2.2 dX0_copyFrom_164 hlocks
                · replace h := it_neg c29 h
                  refine lv_iload_n hx hb dX0_copyFrom_137 rfl (lv_at hl 0 rfl) ?_
                  refine lv_aload_n hx hb dX0_copyFrom_138 rfl (lv_at hl 2 rfl) ?_
                  refine mw_get (ci := 0) (C := RX0) (T := TX0) (N := 11) (v := .ref a_p0_before1) hC i_X0_copyFrom_X0 hM (hfL a_p0 _ hc_p0 n_p0_t n_p0_t_before0 n_p0_t_before1) rfl 1 (by decide) l_X0_copyFrom_10 rfl rfl dX0_copyFrom_139 ?_
                  refine mw_len (v := 121) hC hM (hfL a_p0_before1 _ hc_p0_before1 n_p0_before1_t n_p0_before1_t_before0 n_p0_before1_t_before1) 0 rfl rfl dX0_copyFrom_142 ?_
                  refine lv_icmp_ge (tgt := 164) hx hb dX0_copyFrom_143 (by decide) (fun c30 => ?_) (fun c30 => ?_)
                  · replace h := it_pos c30 h
                    cases h
                    exact W.vret hx hb hr (fun t ht hW => ⟨⟨_, rfl, ⟨hc_t, hc_t_before0, hc_t_before1, hfL⟩, by show MW z D _ t.heap; rw [ht]; exact hM⟩, hS.F ht⟩) hS.2.2 dX0_copyFrom_164 hlocks
                  · replace h := it_neg c30 h
                    refine lv_aload_n hx hb dX0_copyFrom_146 rfl (lv_at hl 1 rfl) ?_
                    refine mw_get (ci := 0) (C := RX0) (T := TX0) (N := 11) (v := .ref a_t_before1) hC i_X0_copyFrom_X0 hM hc_t rfl 1 (by decide) l_X0_copyFrom_10 rfl rfl dX0_copyFrom_147 ?_
                    refine lv_iload_n hx hb dX0_copyFrom_150 rfl (lv_at hl 0 rfl) ?_
                    refine lv_aload_n hx hb dX0_copyFrom_151 rfl (lv_at hl 2 rfl) ?_
                    refine mw_get (ci := 0) (C := RX0) (T := TX0) (N := 11) (v := .ref a_p0_before1) hC i_X0_copyFrom_X0 hM (hfL a_p0 _ hc_p0 n_p0_t n_p0_t_before0 n_p0_t_before1) rfl 1 (by decide) l_X0_copyFrom_10 rfl rfl dX0_copyFrom_152 ?_
                    refine lv_iload_n hx hb dX0_copyFrom_155 rfl (lv_at hl 0 rfl) ?_
                    obtain ⟨c31, h⟩ := gd_some h
                    refine mw_ldJ hC hM (hfL a_p0_before1 _ hc_p0_before1 n_p0_before1_t n_p0_before1_t_before0 n_p0_before1_t_before1) (inB_ok c31) dX0_copyFrom_156 ?_
                    obtain ⟨c32, h⟩ := gd_some h
                    refine mw_stJ hC hM hS hc_t_before1 (inB_ok c32) dX0_copyFrom_157 (fun H locs σ1 hM hS hc_t_before1 ho33 => ?_)
                    replace hc_t_before1 : σ1 a_t_before1 = some (eJ K 121 (vp_updL g_t_before1 x2.toNatClampNeg (f_p0_before1 x2.toNatClampNeg))) := hc_t_before1
                    replace hc_t := ho33 a_t _ hc_t n_t_t_before1
                    replace hc_t_before0 := ho33 a_t_before0 _ hc_t_before0 n_t_before0_t_before1
                    have hf34 := fun (q : Nat) (f : va_E) (hf : σ q = some f) (n0 : q ≠ a_t) (n1 : q ≠ a_t_before0) (n2 : q ≠ a_t_before1) => ho33 q f (hfL q f hf n0 n1 n2) n2
                    refine lv_iinc (v := (x2 + 1)) (lv' := [(2, .int (x2 + 1)), (0, .ref a_t), (1, .ref a_p0)]) hx hb dX0_copyFrom_158 hl (k := 0) rfl rfl (by decide) rfl (fun ls hl => ?_)
                    refine lv_goto (tgt := 120) hx hb dX0_copyFrom_161 (by decide) ?_
                    exact ih1 (x2 + 1) y_t g_t_before0 (vp_updL g_t_before1 x2.toNatClampNeg (f_p0_before1 x2.toNatClampNeg)) _ _ _ hM hS hc_t hc_t_before0 hc_t_before1 hf34 h ls (lv_sub hl [0, 1, 2] rfl)
          exact L120 5000 0 y_t g_t_before0 g_t_before1 _ _ _ hM hS hc_t hc_t_before0 hc_t_before1 hfL h ls (lv_sub hl [0, 1, 2] rfl)
        · replace h := it_neg c27 h
          refine lv_iload_n hx hb dX0_copyFrom_91 rfl (lv_at hl 0 rfl) ?_
          refine lv_aload_n hx hb dX0_copyFrom_92 rfl (lv_at hl 2 rfl) ?_
          refine mw_get (ci := 0) (C := RX0) (T := TX0) (N := 11) (v := .ref a_p0_before0) hC i_X0_copyFrom_X0 hM (hfL a_p0 _ hc_p0 n_p0_t n_p0_t_before0 n_p0_t_before1) rfl 0 (by decide) l_X0_copyFrom_11 rfl rfl dX0_copyFrom_93 ?_
          refine mw_len (v := 121) hC hM (hfL a_p0_before0 _ hc_p0_before0 n_p0_before0_t n_p0_before0_t_before0 n_p0_before0_t_before1) 0 rfl rfl dX0_copyFrom_96 ?_
          refine lv_icmp_ge (tgt := 118) hx hb dX0_copyFrom_97 (by decide) (fun c35 => ?_) (fun c35 => ?_)
          · replace h := it_pos c35 h
            refine lv_iconst (v := 0) hx hb dX0_copyFrom_118 (by decide) ?_
            refine lv_istore_n (lv' := [(2, .int 0), (0, .ref a_t), (1, .ref a_p0)]) hx hb dX0_copyFrom_119 rfl hl (by decide) rfl (fun ls hl => ?_)
            have L120 : ∀ (fu1 : Nat) (x2 : Int32) (y_t : Int32 × Int32 × Int32 × Int32 × Int64 × Int64 × Int32 × Int32) (g_t_before0 : Nat → Int64) (g_t_before1 : Nat → Int64) (H : Heap) (locs : List Loc) (σ1 : mwm), MW z D σ1 H → va_S (zA z) s.heap H locs → σ1 a_t = some (cl0 a_t_before0 a_t_before1 a_p0_grid y_t) → σ1 a_t_before0 = some (eJ K 121 g_t_before0) → σ1 a_t_before1 = some (eJ K 121 g_t_before1) → (∀ (q : Nat) (f : va_E), σ q = some f → q ≠ a_t → q ≠ a_t_before0 → q ≠ a_t_before1 → σ1 q = some f) → fX0_copyFrom_120 w_t w_p0 f_t_before0 f_t_before1 f_p0_before0 f_p0_before1 (fX0_copyFrom_74 w_t w_p0 f_t_before0 f_t_before1 f_p0_before0 f_p0_before1 fu0) fu1 x2 y_t g_t_before0 g_t_before1 = some v → ∀ ls : Array Slot, lv_has ls 3 [(2, .int x2), (0, .ref a_t), (1, .ref a_p0)] → W p l e ({ frames := 0, cells := 0, slots := 0, locals := 0 } : Room) s m ([.ref a_t, .ref a_p0] : List Value).toArray below meth c H locs 0 0 (MQ below (qwV z D (fun σ2 => σ2 a_t = some (cl0 a_t_before0 a_t_before1 a_p0_grid v.1) ∧ σ2 a_t_before0 = some (eJ K 121 v.2.1) ∧ σ2 a_t_before1 = some (eJ K 121 v.2.2) ∧ ∀ (q : Nat) (f : va_E), σ q = some f → q ≠ a_t → q ≠ a_t_before0 → q ≠ a_t_before1 → σ2 q = some f)) ([.ref a_t, .ref a_p0] : List Value).toArray s 0 0 (zA z)) (F0 m 120 ls []) := by
              intro fu1
              induction fu1 with
              | zero =>
                intro x2 y_t g_t_before0 g_t_before1 H locs σ1 hM hS hc_t hc_t_before0 hc_t_before1 hfL h
                unfold fX0_copyFrom_120 at h
                cases h
              | succ fu1 ih1 =>
                intro x2 y_t g_t_before0 g_t_before1 H locs σ1 hM hS hc_t hc_t_before0 hc_t_before1 hfL h ls hl
                unfold fX0_copyFrom_120 at h
                refine lv_iload_n hx hb dX0_copyFrom_120 rfl (lv_at hl 0 rfl) ?_
                refine lv_aload_n hx hb dX0_copyFrom_121 rfl (lv_at hl 1 rfl) ?_
                refine mw_get (ci := 0) (C := RX0) (T := TX0) (N := 11) (v := .int y_t.2.1) hC i_X0_copyFrom_X0 hM hc_t rfl 4 (by decide) l_X0_copyFrom_3 rfl rfl dX0_copyFrom_122 ?_
                refine lv_icmp_gt (tgt := 164) hx hb dX0_copyFrom_125 (by decide) (fun c36 => ?_) (fun c36 => ?_)
                · replace h := it_pos c36 h
                  cases h
                  exact W.vret hx hb hr (fun t ht hW => ⟨⟨_, rfl, ⟨hc_t, hc_t_before0, hc_t_before1, hfL⟩, by show MW z D _ t.heap; rw [ht]; exact hM⟩, hS.F ht⟩) hS.2.2 dX0_copyFrom_164 hlocks
                · replace h := it_neg c36 h
                  refine lv_iload_n hx hb dX0_copyFrom_128 rfl (lv_at hl 0 rfl) ?_
                  refine lv_aload_n hx hb dX0_copyFrom_129 rfl (lv_at hl 1 rfl) ?_
                  refine mw_get (ci := 0) (C := RX0) (T := TX0) (N := 11) (v := .ref a_t_before1) hC i_X0_copyFrom_X0 hM hc_t rfl 1 (by decide) l_X0_copyFrom_10 rfl rfl dX0_copyFrom_130 ?_
                  refine mw_len (v := 121) hC hM hc_t_before1 0 rfl rfl dX0_copyFrom_133 ?_
                  refine lv_icmp_ge (tgt := 164) hx hb dX0_copyFrom_134 (by decide) (fun c37 => ?_) (fun c37 => ?_)
                  · replace h := it_pos c37 h
                    cases h
                    exact W.vret hx hb hr (fun t ht hW => ⟨⟨_, rfl, ⟨hc_t, hc_t_before0, hc_t_before1, hfL⟩, by show MW z D _ t.heap; rw [ht]; exact hM⟩, hS.F ht⟩) hS.2.2 dX0_copyFrom_164 hlocks
                  · replace h := it_neg c37 h
                    refine lv_iload_n hx hb dX0_copyFrom_137 rfl (lv_at hl 0 rfl) ?_
                    refine lv_aload_n hx hb dX0_copyFrom_138 rfl (lv_at hl 2 rfl) ?_
                    refine mw_get (ci := 0) (C := RX0) (T := TX0) (N := 11) (v := .ref a_p0_before1) hC i_X0_copyFrom_X0 hM (hfL a_p0 _ hc_p0 n_p0_t n_p0_t_before0 n_p0_t_before1) rfl 1 (by decide) l_X0_copyFrom_10 rfl rfl dX0_copyFrom_139 ?_
                    refine mw_len (v := 121) hC hM (hfL a_p0_before1 _ hc_p0_before1 n_p0_before1_t n_p0_before1_t_before0 n_p0_before1_t_before1) 0 rfl rfl dX0_copyFrom_142 ?_
                    refine lv_icmp_ge (tgt := 164) hx hb dX0_copyFrom_143 (by decide) (fun c38 => ?_) (fun c38 => ?_)
                    · replace h := it_pos c38 h
                      cases h
                      exact W.vret hx hb hr (fun t ht hW => ⟨⟨_, rfl, ⟨hc_t, hc_t_before0, hc_t_before1, hfL⟩, by show MW z D _ t.heap; rw [ht]; exact hM⟩, hS.F ht⟩) hS.2.2 dX0_copyFrom_164 hlocks
                    · replace h := it_neg c38 h
                      refine lv_aload_n hx hb dX0_copyFrom_146 rfl (lv_at hl 1 rfl) ?_
                      refine mw_get (ci := 0) (C := RX0) (T := TX0) (N := 11) (v := .ref a_t_before1) hC i_X0_copyFrom_X0 hM hc_t rfl 1 (by decide) l_X0_copyFrom_10 rfl rfl dX0_copyFrom_147 ?_
                      refine lv_iload_n hx hb dX0_copyFrom_150 rfl (lv_at hl 0 rfl) ?_
                      refine lv_aload_n hx hb dX0_copyFrom_151 rfl (lv_at hl 2 rfl) ?_
                      refine mw_get (ci := 0) (C := RX0) (T := TX0) (N := 11) (v := .ref a_p0_before1) hC i_X0_copyFrom_X0 hM (hfL a_p0 _ hc_p0 n_p0_t n_p0_t_before0 n_p0_t_before1) rfl 1 (by decide) l_X0_copyFrom_10 rfl rfl dX0_copyFrom_152 ?_
                      refine lv_iload_n hx hb dX0_copyFrom_155 rfl (lv_at hl 0 rfl) ?_
                      obtain ⟨c39, h⟩ := gd_some h
                      refine mw_ldJ hC hM (hfL a_p0_before1 _ hc_p0_before1 n_p0_before1_t n_p0_before1_t_before0 n_p0_before1_t_before1) (inB_ok c39) dX0_copyFrom_156 ?_
                      obtain ⟨c40, h⟩ := gd_some h
                      refine mw_stJ hC hM hS hc_t_before1 (inB_ok c40) dX0_copyFrom_157 (fun H locs σ1 hM hS hc_t_before1 ho41 => ?_)
                      replace hc_t_before1 : σ1 a_t_before1 = some (eJ K 121 (vp_updL g_t_before1 x2.toNatClampNeg (f_p0_before1 x2.toNatClampNeg))) := hc_t_before1
                      replace hc_t := ho41 a_t _ hc_t n_t_t_before1
                      replace hc_t_before0 := ho41 a_t_before0 _ hc_t_before0 n_t_before0_t_before1
                      have hf42 := fun (q : Nat) (f : va_E) (hf : σ q = some f) (n0 : q ≠ a_t) (n1 : q ≠ a_t_before0) (n2 : q ≠ a_t_before1) => ho41 q f (hfL q f hf n0 n1 n2) n2
                      refine lv_iinc (v := (x2 + 1)) (lv' := [(2, .int (x2 + 1)), (0, .ref a_t), (1, .ref a_p0)]) hx hb dX0_copyFrom_158 hl (k := 0) rfl rfl (by decide) rfl (fun ls hl => ?_)
                      refine lv_goto (tgt := 120) hx hb dX0_copyFrom_161 (by decide) ?_
                      exact ih1 (x2 + 1) y_t g_t_before0 (vp_updL g_t_before1 x2.toNatClampNeg (f_p0_before1 x2.toNatClampNeg)) _ _ _ hM hS hc_t hc_t_before0 hc_t_before1 hf42 h ls (lv_sub hl [0, 1, 2] rfl)
            exact L120 5000 0 y_t g_t_before0 g_t_before1 _ _ _ hM hS hc_t hc_t_before0 hc_t_before1 hfL h ls (lv_sub hl [0, 1, 2] rfl)
          · replace h := it_neg c35 h
            refine lv_aload_n hx hb dX0_copyFrom_100 rfl (lv_at hl 1 rfl) ?_
            refine mw_get (ci := 0) (C := RX0) (T := TX0) (N := 11) (v := .ref a_t_before0) hC i_X0_copyFrom_X0 hM hc_t rfl 0 (by decide) l_X0_copyFrom_11 rfl rfl dX0_copyFrom_101 ?_
            refine lv_iload_n hx hb dX0_copyFrom_104 rfl (lv_at hl 0 rfl) ?_
            refine lv_aload_n hx hb dX0_copyFrom_105 rfl (lv_at hl 2 rfl) ?_
            refine mw_get (ci := 0) (C := RX0) (T := TX0) (N := 11) (v := .ref a_p0_before0) hC i_X0_copyFrom_X0 hM (hfL a_p0 _ hc_p0 n_p0_t n_p0_t_before0 n_p0_t_before1) rfl 0 (by decide) l_X0_copyFrom_11 rfl rfl dX0_copyFrom_106 ?_
            refine lv_iload_n hx hb dX0_copyFrom_109 rfl (lv_at hl 0 rfl) ?_
            obtain ⟨c43, h⟩ := gd_some h
            refine mw_ldJ hC hM (hfL a_p0_before0 _ hc_p0_before0 n_p0_before0_t n_p0_before0_t_before0 n_p0_before0_t_before1) (inB_ok c43) dX0_copyFrom_110 ?_
            obtain ⟨c44, h⟩ := gd_some h
            refine mw_stJ hC hM hS hc_t_before0 (inB_ok c44) dX0_copyFrom_111 (fun H locs σ1 hM hS hc_t_before0 ho45 => ?_)
            replace hc_t_before0 : σ1 a_t_before0 = some (eJ K 121 (vp_updL g_t_before0 x2.toNatClampNeg (f_p0_before0 x2.toNatClampNeg))) := hc_t_before0
            replace hc_t := ho45 a_t _ hc_t n_t_t_before0
            replace hc_t_before1 := ho45 a_t_before1 _ hc_t_before1 (Ne.symm n_t_before0_t_before1)
            have hf46 := fun (q : Nat) (f : va_E) (hf : σ q = some f) (n0 : q ≠ a_t) (n1 : q ≠ a_t_before0) (n2 : q ≠ a_t_before1) => ho45 q f (hfL q f hf n0 n1 n2) n1
            refine lv_iinc (v := (x2 + 1)) (lv' := [(2, .int (x2 + 1)), (0, .ref a_t), (1, .ref a_p0)]) hx hb dX0_copyFrom_112 hl (k := 0) rfl rfl (by decide) rfl (fun ls hl => ?_)
            refine lv_goto (tgt := 74) hx hb dX0_copyFrom_115 (by decide) ?_
            exact ih0 (x2 + 1) y_t (vp_updL g_t_before0 x2.toNatClampNeg (f_p0_before0 x2.toNatClampNeg)) g_t_before1 _ _ _ hM hS hc_t hc_t_before0 hc_t_before1 hf46 h ls (lv_sub hl [0, 1, 2] rfl)
  exact L74 5000 0 (w_p0.1, w_p0.2.1, w_p0.2.2.1, w_p0.2.2.2.1, w_p0.2.2.2.2.1, w_p0.2.2.2.2.2.1, w_p0.2.2.2.2.2.2.1, w_p0.2.2.2.2.2.2.2) f_t_before0 f_t_before1 _ _ _ hM hS hc_t hc_t_before0 hc_t_before1 hf18 h ls (lv_sub hl [0, 1, 2] rfl)
theorem l_X0_turn_0 : Cond.fieldLink RX0 27 "CornerStones$Game" "moves" "I" ∈ wsX0_turn := (List.mem_cons_of_mem _ (List.mem_append_left _ (List.mem_of_getElem? (i := 0) rfl)))
theorem i_X0_turn_X0 : ∀ w ∈ wsX00, w ∈ wsX0_turn := fun _ h => (List.mem_cons_of_mem _ (List.mem_append_right _ h))
theorem q_X0_turn : yX0_turn.cls ≠ "java/lang/invoke/MethodHandle" ∧ yX0_turn.cls ≠ "java/lang/invoke/VarHandle" ∧ (parseMethodDescriptor yX0_turn.desc).map (fun d => d.parameters.length) = some 0 := by decide +kernel
def fX0_turn (w_t : Int32 × Int32 × Int32 × Int32 × Int64 × Int64 × Int32 × Int32) : Int32 := ((w_t.2.1 &&& 1))
set_option maxHeartbeats 4000000 in
set_option maxRecDepth 100000 in
theorem c_X0_turn {l : Launch} {z : Nat} {D : va_G} {K : Nat → ClassId} {σ : mwm} {a_t a_t_before0 a_t_before1 a_t_grid : Nat} {w_t : Int32 × Int32 × Int32 × Int32 × Int64 × Int64 × Int32 × Int32} (hc_t : σ a_t = some (cl0 a_t_before0 a_t_before1 a_t_grid w_t)) {v : Int32} (h : fX0_turn w_t = v) : Met l yX0_turn wsX0_turn ({ frames := 0, cells := 0, slots := 0, locals := 0 } : Room) (PCm z D K [.ref a_t] σ) (qsI v) 0 0 (fun _ => False) := by
  refine mt_enter (cc := cX0_turn) (maxL := 1) (ret := (some .int)) (own := RX0) (lv := [(0, .ref a_t)]) (by decide) rfl rfl (Nat.le_of_ble_eq_true rfl) rfl ?_
  intro p e s m below meth c ls hC hx hb hown hts hK hr hlocks hnm hz hM hS hl
  unfold fX0_turn at h
  refine lv_aload_n hx hb dX0_turn_0 rfl (lv_at hl 0 rfl) ?_
  refine mw_get (ci := 0) (C := RX0) (T := TX0) (N := 11) (v := .int w_t.2.1) hC i_X0_turn_X0 hM hc_t rfl 4 (by decide) l_X0_turn_0 rfl rfl dX0_turn_1 ?_
  refine lv_iconst (v := 1) hx hb dX0_turn_4 (by decide) ?_
  refine lv_iand hx hb dX0_turn_5 ?_
  subst h
  exact W.iret hx hb hr (fun t ht hW => ⟨_, rfl, rfl, ht⟩) (fun _ h9 => by cases h9) dX0_turn_6 hlocks
theorem l_X0_stonesOf_0 : Cond.fieldLink RX0 41 "CornerStones$Game" "stones1" "J" ∈ wsX0_stonesOf := (List.mem_cons_of_mem _ (List.mem_append_left _ (List.mem_of_getElem? (i := 1) rfl)))
theorem i_X0_stonesOf_X0 : ∀ w ∈ wsX00, w ∈ wsX0_stonesOf := fun _ h => (List.mem_cons_of_mem _ (List.mem_append_right _ h))
theorem l_X0_stonesOf_2 : Cond.fieldLink RX0 37 "CornerStones$Game" "stones0" "J" ∈ wsX0_stonesOf := (List.mem_cons_of_mem _ (List.mem_append_left _ (List.mem_of_getElem? (i := 0) rfl)))
theorem q_X0_stonesOf : yX0_stonesOf.cls ≠ "java/lang/invoke/MethodHandle" ∧ yX0_stonesOf.cls ≠ "java/lang/invoke/VarHandle" ∧ (parseMethodDescriptor yX0_stonesOf.desc).map (fun d => d.parameters.length) = some 1 := by decide +kernel
def fX0_stonesOf (w_t : Int32 × Int32 × Int32 × Int32 × Int64 × Int64 × Int32 × Int32) (p0 : Int32) : Int64 := if p0 = 0 then ((w_t.2.2.2.2.1)) else ((w_t.2.2.2.2.2.1))
set_option maxHeartbeats 4000000 in
set_option maxRecDepth 100000 in
theorem c_X0_stonesOf {l : Launch} {z : Nat} {D : va_G} {K : Nat → ClassId} {σ : mwm} {a_t a_t_before0 a_t_before1 a_t_grid : Nat} {w_t : Int32 × Int32 × Int32 × Int32 × Int64 × Int64 × Int32 × Int32} {p0 : Int32} (hc_t : σ a_t = some (cl0 a_t_before0 a_t_before1 a_t_grid w_t)) {v : Int64} (h : fX0_stonesOf w_t p0 = v) : Met l yX0_stonesOf wsX0_stonesOf ({ frames := 0, cells := 0, slots := 0, locals := 0 } : Room) (PCm z D K [.ref a_t, .int p0] σ) (qsL v) 0 0 (fun _ => False) := by
  refine mt_enter (cc := cX0_stonesOf) (maxL := 2) (ret := (some .long)) (own := RX0) (lv := [(0, .ref a_t), (1, .int p0)]) (by decide) rfl rfl (Nat.le_of_ble_eq_true rfl) rfl ?_
  intro p e s m below meth c ls hC hx hb hown hts hK hr hlocks hnm hz hM hS hl
  unfold fX0_stonesOf at h
  refine lv_iload_n hx hb dX0_stonesOf_0 rfl (lv_at hl 1 rfl) ?_
  refine lv_if_ne (tgt := 11) hx hb dX0_stonesOf_1 (by decide) (fun c1 => ?_) (fun c1 => ?_)
  · replace h := it_neg c1 h
    refine lv_aload_n hx hb dX0_stonesOf_11 rfl (lv_at hl 0 rfl) ?_
    refine mw_get (ci := 0) (C := RX0) (T := TX0) (N := 11) (v := .long w_t.2.2.2.2.2.1) hC i_X0_stonesOf_X0 hM hc_t rfl 8 (by decide) l_X0_stonesOf_0 rfl rfl dX0_stonesOf_12 ?_
    subst h
    exact W.lret hx hb hr (fun t ht hW => ⟨_, rfl, rfl, ht⟩) (fun _ h9 => by cases h9) dX0_stonesOf_15 hlocks
  · replace h := it_pos c1 h
    refine lv_aload_n hx hb dX0_stonesOf_4 rfl (lv_at hl 0 rfl) ?_
    refine mw_get (ci := 0) (C := RX0) (T := TX0) (N := 11) (v := .long w_t.2.2.2.2.1) hC i_X0_stonesOf_X0 hM hc_t rfl 7 (by decide) l_X0_stonesOf_2 rfl rfl dX0_stonesOf_5 ?_
    refine lv_goto (tgt := 15) hx hb dX0_stonesOf_8 (by decide) ?_
    subst h
    exact W.lret hx hb hr (fun t ht hW => ⟨_, rfl, rfl, ht⟩) (fun _ h9 => by cases h9) dX0_stonesOf_15 hlocks
theorem l_X0_captivesOf_0 : Cond.fieldLink RX0 47 "CornerStones$Game" "captives1" "I" ∈ wsX0_captivesOf := (List.mem_cons_of_mem _ (List.mem_append_left _ (List.mem_of_getElem? (i := 1) rfl)))
theorem i_X0_captivesOf_X0 : ∀ w ∈ wsX00, w ∈ wsX0_captivesOf := fun _ h => (List.mem_cons_of_mem _ (List.mem_append_right _ h))
theorem l_X0_captivesOf_2 : Cond.fieldLink RX0 44 "CornerStones$Game" "captives0" "I" ∈ wsX0_captivesOf := (List.mem_cons_of_mem _ (List.mem_append_left _ (List.mem_of_getElem? (i := 0) rfl)))
theorem q_X0_captivesOf : yX0_captivesOf.cls ≠ "java/lang/invoke/MethodHandle" ∧ yX0_captivesOf.cls ≠ "java/lang/invoke/VarHandle" ∧ (parseMethodDescriptor yX0_captivesOf.desc).map (fun d => d.parameters.length) = some 1 := by decide +kernel
def fX0_captivesOf (w_t : Int32 × Int32 × Int32 × Int32 × Int64 × Int64 × Int32 × Int32) (p0 : Int32) : Int32 := if p0 = 0 then ((w_t.2.2.2.2.2.2.1)) else ((w_t.2.2.2.2.2.2.2))
set_option maxHeartbeats 4000000 in
set_option maxRecDepth 100000 in
theorem c_X0_captivesOf {l : Launch} {z : Nat} {D : va_G} {K : Nat → ClassId} {σ : mwm} {a_t a_t_before0 a_t_before1 a_t_grid : Nat} {w_t : Int32 × Int32 × Int32 × Int32 × Int64 × Int64 × Int32 × Int32} {p0 : Int32} (hc_t : σ a_t = some (cl0 a_t_before0 a_t_before1 a_t_grid w_t)) {v : Int32} (h : fX0_captivesOf w_t p0 = v) : Met l yX0_captivesOf wsX0_captivesOf ({ frames := 0, cells := 0, slots := 0, locals := 0 } : Room) (PCm z D K [.ref a_t, .int p0] σ) (qsI v) 0 0 (fun _ => False) := by
  refine mt_enter (cc := cX0_captivesOf) (maxL := 2) (ret := (some .int)) (own := RX0) (lv := [(0, .ref a_t), (1, .int p0)]) (by decide) rfl rfl (Nat.le_of_ble_eq_true rfl) rfl ?_
  intro p e s m below meth c ls hC hx hb hown hts hK hr hlocks hnm hz hM hS hl
  unfold fX0_captivesOf at h
  refine lv_iload_n hx hb dX0_captivesOf_0 rfl (lv_at hl 1 rfl) ?_
  refine lv_if_ne (tgt := 11) hx hb dX0_captivesOf_1 (by decide) (fun c1 => ?_) (fun c1 => ?_)
  · replace h := it_neg c1 h
    refine lv_aload_n hx hb dX0_captivesOf_11 rfl (lv_at hl 0 rfl) ?_
    refine mw_get (ci := 0) (C := RX0) (T := TX0) (N := 11) (v := .int w_t.2.2.2.2.2.2.2) hC i_X0_captivesOf_X0 hM hc_t rfl 10 (by decide) l_X0_captivesOf_0 rfl rfl dX0_captivesOf_12 ?_
    subst h
    exact W.iret hx hb hr (fun t ht hW => ⟨_, rfl, rfl, ht⟩) (fun _ h9 => by cases h9) dX0_captivesOf_15 hlocks
  · replace h := it_pos c1 h
    refine lv_aload_n hx hb dX0_captivesOf_4 rfl (lv_at hl 0 rfl) ?_
    refine mw_get (ci := 0) (C := RX0) (T := TX0) (N := 11) (v := .int w_t.2.2.2.2.2.2.1) hC i_X0_captivesOf_X0 hM hc_t rfl 9 (by decide) l_X0_captivesOf_2 rfl rfl dX0_captivesOf_5 ?_
    refine lv_goto (tgt := 15) hx hb dX0_captivesOf_8 (by decide) ?_
    subst h
    exact W.iret hx hb hr (fun t ht hW => ⟨_, rfl, rfl, ht⟩) (fun _ h9 => by cases h9) dX0_captivesOf_15 hlocks
theorem l_X2_around_0 : Cond.fieldLink RX2 24 "CornerStones$Grid" "notFirst" "J" ∈ wsX2_around := (List.mem_cons_of_mem _ (List.mem_append_left _ (List.mem_of_getElem? (i := 0) rfl)))
theorem i_X2_around_X2 : ∀ w ∈ wsX20, w ∈ wsX2_around := fun _ h => (List.mem_cons_of_mem _ (List.mem_append_right _ h))
theorem l_X2_around_2 : Cond.fieldLink RX2 27 "CornerStones$Grid" "notLast" "J" ∈ wsX2_around := (List.mem_cons_of_mem _ (List.mem_append_left _ (List.mem_of_getElem? (i := 1) rfl)))
theorem l_X2_around_3 : Cond.fieldLink RX2 9 "CornerStones$Grid" "rows" "I" ∈ wsX2_around := (List.mem_cons_of_mem _ (List.mem_append_left _ (List.mem_of_getElem? (i := 2) rfl)))
theorem l_X2_around_4 : Cond.fieldLink RX2 18 "CornerStones$Grid" "all" "J" ∈ wsX2_around := (List.mem_cons_of_mem _ (List.mem_append_left _ (List.mem_of_getElem? (i := 3) rfl)))
theorem q_X2_around : yX2_around.cls ≠ "java/lang/invoke/MethodHandle" ∧ yX2_around.cls ≠ "java/lang/invoke/VarHandle" ∧ (parseMethodDescriptor yX2_around.desc).map (fun d => d.parameters.length) = some 1 := by decide +kernel
def fX2_around (w_t : Int32 × Int32 × Int64 × Int64 × Int64) (p0 : Int64) : Int64 := (((((shlL p0 1) &&& w_t.2.2.2.1) ||| ((ushrL p0 1) &&& w_t.2.2.2.2)) ||| (((shlL p0 w_t.1) ||| (ushrL p0 w_t.1)) &&& w_t.2.2.1)))
set_option maxHeartbeats 4000000 in
set_option maxRecDepth 100000 in
theorem c_X2_around {l : Launch} {z : Nat} {D : va_G} {K : Nat → ClassId} {σ : mwm} {a_t : Nat} {w_t : Int32 × Int32 × Int64 × Int64 × Int64} {p0 : Int64} (hc_t : σ a_t = some (cl2  w_t)) {v : Int64} (h : fX2_around w_t p0 = v) : Met l yX2_around wsX2_around ({ frames := 0, cells := 0, slots := 0, locals := 0 } : Room) (PCm z D K [.ref a_t, .long p0] σ) (qsL v) 0 0 (fun _ => False) := by
  refine mt_enter (cc := cX2_around) (maxL := 3) (ret := (some .long)) (own := RX2) (lv := [(0, .ref a_t), (1, .long p0)]) (by decide) rfl rfl (Nat.le_of_ble_eq_true rfl) rfl ?_
  intro p e s m below meth c ls hC hx hb hown hts hK hr hlocks hnm hz hM hS hl
  unfold fX2_around at h
  refine lv_lload_n hx hb dX2_around_0 rfl (lv_at hl 1 rfl) ?_
  refine lv_iconst (v := 1) hx hb dX2_around_1 (by decide) ?_
  refine lv_lshl (v := (shlL p0 1)) hx hb dX2_around_2 rfl ?_
  refine lv_aload_n hx hb dX2_around_3 rfl (lv_at hl 0 rfl) ?_
  refine mw_get (ci := 2) (C := RX2) (T := TX2) (N := 5) (v := .long w_t.2.2.2.1) hC i_X2_around_X2 hM hc_t rfl 3 (by decide) l_X2_around_0 rfl rfl dX2_around_4 ?_
  refine lv_land hx hb dX2_around_7 ?_
  refine lv_lload_n hx hb dX2_around_8 rfl (lv_at hl 1 rfl) ?_
  refine lv_iconst (v := 1) hx hb dX2_around_9 (by decide) ?_
  refine lv_lushr (v := (ushrL p0 1)) hx hb dX2_around_10 rfl ?_
  refine lv_aload_n hx hb dX2_around_11 rfl (lv_at hl 0 rfl) ?_
  refine mw_get (ci := 2) (C := RX2) (T := TX2) (N := 5) (v := .long w_t.2.2.2.2) hC i_X2_around_X2 hM hc_t rfl 4 (by decide) l_X2_around_2 rfl rfl dX2_around_12 ?_
  refine lv_land hx hb dX2_around_15 ?_
  refine lv_lor hx hb dX2_around_16 ?_
  refine lv_lload_n hx hb dX2_around_17 rfl (lv_at hl 1 rfl) ?_
  refine lv_aload_n hx hb dX2_around_18 rfl (lv_at hl 0 rfl) ?_
  refine mw_get (ci := 2) (C := RX2) (T := TX2) (N := 5) (v := .int w_t.1) hC i_X2_around_X2 hM hc_t rfl 0 (by decide) l_X2_around_3 rfl rfl dX2_around_19 ?_
  refine lv_lshl (v := (shlL p0 w_t.1)) hx hb dX2_around_22 rfl ?_
  refine lv_lload_n hx hb dX2_around_23 rfl (lv_at hl 1 rfl) ?_
  refine lv_aload_n hx hb dX2_around_24 rfl (lv_at hl 0 rfl) ?_
  refine mw_get (ci := 2) (C := RX2) (T := TX2) (N := 5) (v := .int w_t.1) hC i_X2_around_X2 hM hc_t rfl 0 (by decide) l_X2_around_3 rfl rfl dX2_around_25 ?_
  refine lv_lushr (v := (ushrL p0 w_t.1)) hx hb dX2_around_28 rfl ?_
  refine lv_lor hx hb dX2_around_29 ?_
  refine lv_aload_n hx hb dX2_around_30 rfl (lv_at hl 0 rfl) ?_
  refine mw_get (ci := 2) (C := RX2) (T := TX2) (N := 5) (v := .long w_t.2.2.1) hC i_X2_around_X2 hM hc_t rfl 2 (by decide) l_X2_around_4 rfl rfl dX2_around_31 ?_
  refine lv_land hx hb dX2_around_34 ?_
  refine lv_lor hx hb dX2_around_35 ?_
  subst h
  exact W.lret hx hb hr (fun t ht hW => ⟨_, rfl, rfl, ht⟩) (fun _ h9 => by cases h9) dX2_around_36 hlocks
theorem q_X2_connected : yX2_connected.cls ≠ "java/lang/invoke/MethodHandle" ∧ yX2_connected.cls ≠ "java/lang/invoke/VarHandle" ∧ (parseMethodDescriptor yX2_connected.desc).map (fun d => d.parameters.length) = some 2 := by decide +kernel
def fX2_connected_8 (w_t : Int32 × Int32 × Int64 × Int64 × Int64) (p0 : Int64) (p1 : Int64) : Nat → Int64 → Int32 → Option (Int64)
  | 0, _, _ => none
  | fu + 1, x5, x7 => if 49 ≤ x7 then (some (x5)) else (bnd (x5 ||| ((fX2_around w_t x5) &&& p0)) fun v2 => if v2 = x5 then (some (x5)) else (fX2_connected_8 w_t p0 p1 fu v2 (x7 + 1)))
def fX2_connected (w_t : Int32 × Int32 × Int64 × Int64 × Int64) (p0 : Int64) (p1 : Int64) : Option (Int64) := fX2_connected_8 w_t p0 p1 5000 (p1 &&& p0) 0 
set_option maxHeartbeats 4000000 in
set_option maxRecDepth 100000 in
theorem c_X2_connected {l : Launch} {z : Nat} {D : va_G} {K : Nat → ClassId} {σ : mwm} {a_t : Nat} {w_t : Int32 × Int32 × Int64 × Int64 × Int64} {p0 : Int64} {p1 : Int64} (hc_t : σ a_t = some (cl2  w_t)) {v : Int64} (h : fX2_connected w_t p0 p1 = some v) : Met l yX2_connected wsX2_connected ({ frames := 1, cells := 0, slots := 0, locals := 22 } : Room) (PCm z D K [.ref a_t, .long p0, .long p1] σ) (qsL v) 0 0 (fun _ => False) := by
  refine mt_enter (cc := cX2_connected) (maxL := 10) (ret := (some .long)) (own := RX2) (lv := [(0, .ref a_t), (1, .long p0), (3, .long p1)]) (by decide) rfl rfl (Nat.le_of_ble_eq_true rfl) rfl ?_
  intro p e s m below meth c ls hC hx hb hown hts hK hr hlocks hnm hz hM hS hl
  unfold fX2_connected at h
  refine lv_lload_n hx hb dX2_connected_0 rfl (lv_at hl 2 rfl) ?_
  refine lv_lload_n hx hb dX2_connected_1 rfl (lv_at hl 1 rfl) ?_
  refine lv_land hx hb dX2_connected_2 ?_
  refine lv_lstore (lv' := [(5, .long (p1 &&& p0)), (0, .ref a_t), (1, .long p0), (3, .long p1)]) hx hb dX2_connected_3 hl (by decide) rfl (fun ls hl => ?_)
  refine lv_iconst (v := 0) hx hb dX2_connected_5 (by decide) ?_
  refine lv_istore (lv' := [(7, .int 0), (5, .long (p1 &&& p0)), (0, .ref a_t), (1, .long p0), (3, .long p1)]) hx hb dX2_connected_6 hl (by decide) rfl (fun ls hl => ?_)
  have L8 : ∀ (fu0 : Nat) (x5 : Int64) (x7 : Int32), fX2_connected_8 w_t p0 p1 fu0 x5 x7 = some v → ∀ ls : Array Slot, lv_has ls 10 [(7, .int x7), (5, .long x5), (0, .ref a_t), (1, .long p0)] → W p l e ({ frames := 1, cells := 0, slots := 0, locals := 22 } : Room) s m ([.ref a_t, .long p0, .long p1] : List Value).toArray below meth c s.heap [] 0 0 (MQ below (qsL v) ([.ref a_t, .long p0, .long p1] : List Value).toArray s 0 0 (fun _ => False)) (F0 m 8 ls []) := by
    intro fu0
    induction fu0 with
    | zero =>
      intro x5 x7 h
      unfold fX2_connected_8 at h
      cases h
    | succ fu0 ih0 =>
      intro x5 x7 h ls hl
      unfold fX2_connected_8 at h
      refine lv_iload hx hb dX2_connected_8 (lv_at hl 0 rfl) ?_
      refine lv_bipush (v := 49) hx hb dX2_connected_10 (by decide) ?_
      refine lv_icmp_ge (tgt := 49) hx hb dX2_connected_12 (by decide) (fun c1 => ?_) (fun c1 => ?_)
      · replace h := it_pos c1 h
        refine lv_lload hx hb dX2_connected_49 (lv_at hl 1 rfl) ?_
        cases h
        exact W.lret hx hb hr (fun t ht hW => ⟨_, rfl, rfl, ht⟩) (fun _ h9 => by cases h9) dX2_connected_51 hlocks
      · replace h := it_neg c1 h
        refine lv_lload hx hb dX2_connected_15 (lv_at hl 1 rfl) ?_
        refine lv_aload_n hx hb dX2_connected_17 rfl (lv_at hl 2 rfl) ?_
        refine lv_lload hx hb dX2_connected_18 (lv_at hl 1 rfl) ?_
        refine mw_cl (mw_runV (As := [.long x5]) (rest := [.long x5]) (ci := 2) (C := RX2) (T := TX2) (N := 5) hC hM hS hc_t rfl (c_X2_around (a_t := a_t) (w_t := w_t) (p0 := x5) (hc_t := hc_t) (v := (fX2_around w_t x5)) rfl) gX2_connected_X2_around rfl rfl rfl rfl q_X2_around ⟨Nat.le_of_ble_eq_true rfl, Nat.le_of_ble_eq_true rfl⟩ rfl rfl (Nat.le_of_ble_eq_true rfl) hl.1 dX2_connected_20 ⟨Nat.le_of_ble_eq_true rfl, Nat.le_of_ble_eq_true rfl⟩) ?_
        refine lv_lload_n hx hb dX2_connected_23 rfl (lv_at hl 3 rfl) ?_
        refine lv_land hx hb dX2_connected_24 ?_
        refine lv_lor hx hb dX2_connected_25 ?_
        refine lv_topl (fun v2 ev2 => ?_)
        replace h := bnd_at ev2 h
        refine lv_lstore (lv' := [(8, .long v2), (7, .int x7), (5, .long x5), (0, .ref a_t), (1, .long p0)]) hx hb dX2_connected_26 hl (by decide) rfl (fun ls hl => ?_)
        refine lv_lload hx hb dX2_connected_28 (lv_at hl 0 rfl) ?_
        refine lv_lload hx hb dX2_connected_30 (lv_at hl 2 rfl) ?_
        refine W.lcmp hx hb dX2_connected_32 ?_
        refine lv_if_ne (tgt := 39) hx hb dX2_connected_33 (by decide) (fun c3 => ?_) (fun c3 => ?_)
        · replace c3 := mt (lg_cmp_eq _ _).mpr c3
          replace h := it_neg c3 h
          refine lv_lload hx hb dX2_connected_39 (lv_at hl 0 rfl) ?_
          refine lv_lstore (lv' := [(5, .long v2), (8, .long v2), (7, .int x7), (0, .ref a_t), (1, .long p0)]) hx hb dX2_connected_41 hl (by decide) rfl (fun ls hl => ?_)
          refine lv_iinc (v := (x7 + 1)) (lv' := [(7, .int (x7 + 1)), (5, .long v2), (8, .long v2), (0, .ref a_t), (1, .long p0)]) hx hb dX2_connected_43 hl (k := 2) rfl rfl (by decide) rfl (fun ls hl => ?_)
          refine lv_goto (tgt := 8) hx hb dX2_connected_46 (by decide) ?_
          exact ih0 v2 (x7 + 1) h ls (lv_sub hl [0, 1, 3, 4] rfl)
        · replace c3 := (lg_cmp_eq _ _).mp c3
          replace h := it_pos c3 h
          refine lv_lload hx hb dX2_connected_36 (lv_at hl 2 rfl) ?_
          cases h
          exact W.lret hx hb hr (fun t ht hW => ⟨_, rfl, rfl, ht⟩) (fun _ h9 => by cases h9) dX2_connected_38 hlocks
  exact L8 5000 (p1 &&& p0) 0  h ls (lv_sub hl [0, 1, 2, 3] rfl)
theorem l_X2_groups_0 : Cond.constantLong RX2 22 (-1) ∈ wsX2_groups := (List.mem_cons_of_mem _ (List.mem_append_left _ (List.mem_of_getElem? (i := 0) rfl)))
theorem q_X2_groups : yX2_groups.cls ≠ "java/lang/invoke/MethodHandle" ∧ yX2_groups.cls ≠ "java/lang/invoke/VarHandle" ∧ (parseMethodDescriptor yX2_groups.desc).map (fun d => d.parameters.length) = some 1 := by decide +kernel
def fX2_groups_8 (w_t : Int32 × Int32 × Int64 × Int64 × Int64) (p0 : Int64) : Nat → Int32 → Int64 → Int32 → Option (Int32)
  | 0, _, _, _ => none
  | fu + 1, x3, x4, x6 => if 49 ≤ x6 then (some (x3)) else (if x4 = 0 then (some (x3)) else ((fX2_connected w_t p0 (x4 &&& (-x4))).bind fun r3 => fX2_groups_8 w_t p0 fu (x3 + 1) (x4 &&& (r3 ^^^ (-1))) (x6 + 1)))
def fX2_groups (w_t : Int32 × Int32 × Int64 × Int64 × Int64) (p0 : Int64) : Option (Int32) := fX2_groups_8 w_t p0 5000 0 p0 0 
set_option maxHeartbeats 4000000 in
set_option maxRecDepth 100000 in
theorem c_X2_groups {l : Launch} {z : Nat} {D : va_G} {K : Nat → ClassId} {σ : mwm} {a_t : Nat} {w_t : Int32 × Int32 × Int64 × Int64 × Int64} {p0 : Int64} (hc_t : σ a_t = some (cl2  w_t)) {v : Int32} (h : fX2_groups w_t p0 = some v) : Met l yX2_groups wsX2_groups ({ frames := 2, cells := 0, slots := 0, locals := 51 } : Room) (PCm z D K [.ref a_t, .long p0] σ) (qsI v) 0 0 (fun _ => False) := by
  refine mt_enter (cc := cX2_groups) (maxL := 7) (ret := (some .int)) (own := RX2) (lv := [(0, .ref a_t), (1, .long p0)]) (by decide) rfl rfl (Nat.le_of_ble_eq_true rfl) rfl ?_
  intro p e s m below meth c ls hC hx hb hown hts hK hr hlocks hnm hz hM hS hl
  unfold fX2_groups at h
  refine lv_iconst (v := 0) hx hb dX2_groups_0 (by decide) ?_
  refine lv_istore_n (lv' := [(3, .int 0), (0, .ref a_t), (1, .long p0)]) hx hb dX2_groups_1 rfl hl (by decide) rfl (fun ls hl => ?_)
  refine lv_lload_n hx hb dX2_groups_2 rfl (lv_at hl 2 rfl) ?_
  refine lv_lstore (lv' := [(4, .long p0), (3, .int 0), (0, .ref a_t), (1, .long p0)]) hx hb dX2_groups_3 hl (by decide) rfl (fun ls hl => ?_)
  refine lv_iconst (v := 0) hx hb dX2_groups_5 (by decide) ?_
  refine lv_istore (lv' := [(6, .int 0), (4, .long p0), (3, .int 0), (0, .ref a_t), (1, .long p0)]) hx hb dX2_groups_6 hl (by decide) rfl (fun ls hl => ?_)
  have L8 : ∀ (fu0 : Nat) (x3 : Int32) (x4 : Int64) (x6 : Int32), fX2_groups_8 w_t p0 fu0 x3 x4 x6 = some v → ∀ ls : Array Slot, lv_has ls 7 [(6, .int x6), (4, .long x4), (3, .int x3), (0, .ref a_t), (1, .long p0)] → W p l e ({ frames := 2, cells := 0, slots := 0, locals := 51 } : Room) s m ([.ref a_t, .long p0] : List Value).toArray below meth c s.heap [] 0 0 (MQ below (qsI v) ([.ref a_t, .long p0] : List Value).toArray s 0 0 (fun _ => False)) (F0 m 8 ls []) := by
    intro fu0
    induction fu0 with
    | zero =>
      intro x3 x4 x6 h
      unfold fX2_groups_8 at h
      cases h
    | succ fu0 ih0 =>
      intro x3 x4 x6 h ls hl
      unfold fX2_groups_8 at h
      refine lv_iload hx hb dX2_groups_8 (lv_at hl 0 rfl) ?_
      refine lv_bipush (v := 49) hx hb dX2_groups_10 (by decide) ?_
      refine lv_icmp_ge (tgt := 51) hx hb dX2_groups_12 (by decide) (fun c1 => ?_) (fun c1 => ?_)
      · replace h := it_pos c1 h
        refine lv_iload_n hx hb dX2_groups_51 rfl (lv_at hl 2 rfl) ?_
        cases h
        exact W.iret hx hb hr (fun t ht hW => ⟨_, rfl, rfl, ht⟩) (fun _ h9 => by cases h9) dX2_groups_52 hlocks
      · replace h := it_neg c1 h
        refine lv_lload hx hb dX2_groups_15 (lv_at hl 1 rfl) ?_
        refine lv_lconst (v := 0) hx hb dX2_groups_17 (by decide) ?_
        refine W.lcmp hx hb dX2_groups_18 ?_
        refine lv_if_eq (tgt := 51) hx hb dX2_groups_19 (by decide) (fun c2 => ?_) (fun c2 => ?_)
        · replace c2 := (lg_cmp_eq _ _).mp c2
          replace h := it_pos c2 h
          refine lv_iload_n hx hb dX2_groups_51 rfl (lv_at hl 2 rfl) ?_
          cases h
          exact W.iret hx hb hr (fun t ht hW => ⟨_, rfl, rfl, ht⟩) (fun _ h9 => by cases h9) dX2_groups_52 hlocks
        · replace c2 := mt (lg_cmp_eq _ _).mpr c2
          replace h := it_neg c2 h
          refine lv_lload hx hb dX2_groups_22 (lv_at hl 1 rfl) ?_
          refine lv_aload_n hx hb dX2_groups_24 rfl (lv_at hl 3 rfl) ?_
          refine lv_lload_n hx hb dX2_groups_25 rfl (lv_at hl 4 rfl) ?_
          refine lv_lload hx hb dX2_groups_26 (lv_at hl 1 rfl) ?_
          refine lv_lload hx hb dX2_groups_28 (lv_at hl 1 rfl) ?_
          refine lv_lneg hx hb dX2_groups_30 ?_
          refine lv_land hx hb dX2_groups_31 ?_
          obtain ⟨r3, hr3, h⟩ := ob_some h
          refine mw_cl (mw_runV (As := [.long p0, .long (x4 &&& (-x4))]) (rest := [.long x4]) (ci := 2) (C := RX2) (T := TX2) (N := 5) hC hM hS hc_t rfl (c_X2_connected (a_t := a_t) (w_t := w_t) (p0 := p0) (p1 := (x4 &&& (-x4))) (hc_t := hc_t) (v := r3) hr3) gX2_groups_X2_connected rfl rfl rfl rfl q_X2_connected ⟨Nat.le_of_ble_eq_true rfl, Nat.le_of_ble_eq_true rfl⟩ rfl rfl (Nat.le_of_ble_eq_true rfl) hl.1 dX2_groups_32 ⟨Nat.le_of_ble_eq_true rfl, Nat.le_of_ble_eq_true rfl⟩) ?_
          refine lv_ldc2 (v := -1) hx hb hown (hts _ l_X2_groups_0) dX2_groups_35 ?_
          refine lv_lxor hx hb dX2_groups_38 ?_
          refine lv_land hx hb dX2_groups_39 ?_
          refine lv_lstore (lv' := [(4, .long (x4 &&& (r3 ^^^ (-1)))), (6, .int x6), (3, .int x3), (0, .ref a_t), (1, .long p0)]) hx hb dX2_groups_40 hl (by decide) rfl (fun ls hl => ?_)
          refine lv_iinc (v := (x3 + 1)) (lv' := [(3, .int (x3 + 1)), (4, .long (x4 &&& (r3 ^^^ (-1)))), (6, .int x6), (0, .ref a_t), (1, .long p0)]) hx hb dX2_groups_42 hl (k := 2) rfl rfl (by decide) rfl (fun ls hl => ?_)
          refine lv_iinc (v := (x6 + 1)) (lv' := [(6, .int (x6 + 1)), (3, .int (x3 + 1)), (4, .long (x4 &&& (r3 ^^^ (-1)))), (0, .ref a_t), (1, .long p0)]) hx hb dX2_groups_45 hl (k := 2) rfl rfl (by decide) rfl (fun ls hl => ?_)
          refine lv_goto (tgt := 8) hx hb dX2_groups_48 (by decide) ?_
          exact ih0 (x3 + 1) (x4 &&& (r3 ^^^ (-1))) (x6 + 1) h ls (lv_sub hl [0, 2, 1, 3, 4] rfl)
  exact L8 5000 0 p0 0  h ls (lv_sub hl [0, 1, 2, 3, 4] rfl)
theorem l_X0_groupsOf_0 : Cond.fieldLink RX0 18 "CornerStones$Game" "grid" "LCornerStones$Grid;" ∈ wsX0_groupsOf := (List.mem_cons_of_mem _ (List.mem_append_left _ (List.mem_append_left _ (List.mem_append_left _ (List.mem_of_getElem? (i := 0) rfl)))))
theorem i_X0_groupsOf_X0 : ∀ w ∈ wsX00, w ∈ wsX0_groupsOf := fun _ h => (List.mem_cons_of_mem _ (List.mem_append_left _ (List.mem_append_right _ h)))
theorem q_X0_groupsOf : yX0_groupsOf.cls ≠ "java/lang/invoke/MethodHandle" ∧ yX0_groupsOf.cls ≠ "java/lang/invoke/VarHandle" ∧ (parseMethodDescriptor yX0_groupsOf.desc).map (fun d => d.parameters.length) = some 1 := by decide +kernel
def fX0_groupsOf (w_t : Int32 × Int32 × Int32 × Int32 × Int64 × Int64 × Int32 × Int32) (w_t_grid : Int32 × Int32 × Int64 × Int64 × Int64) (p0 : Int32) : Option (Int32) := (fX2_groups w_t_grid (fX0_stonesOf w_t p0)).bind fun r1 => some (r1)
set_option maxHeartbeats 4000000 in
set_option maxRecDepth 100000 in
theorem c_X0_groupsOf {l : Launch} {z : Nat} {D : va_G} {K : Nat → ClassId} {σ : mwm} {a_t a_t_before0 a_t_before1 a_t_grid : Nat} {w_t : Int32 × Int32 × Int32 × Int32 × Int64 × Int64 × Int32 × Int32} {w_t_grid : Int32 × Int32 × Int64 × Int64 × Int64} {p0 : Int32} (hc_t : σ a_t = some (cl0 a_t_before0 a_t_before1 a_t_grid w_t)) (hc_t_grid : σ a_t_grid = some (cl2  w_t_grid)) {v : Int32} (h : fX0_groupsOf w_t w_t_grid p0 = some v) : Met l yX0_groupsOf wsX0_groupsOf ({ frames := 3, cells := 0, slots := 0, locals := 77 } : Room) (PCm z D K [.ref a_t, .int p0] σ) (qsI v) 0 0 (fun _ => False) := by
  refine mt_enter (cc := cX0_groupsOf) (maxL := 2) (ret := (some .int)) (own := RX0) (lv := [(0, .ref a_t), (1, .int p0)]) (by decide) rfl rfl (Nat.le_of_ble_eq_true rfl) rfl ?_
  intro p e s m below meth c ls hC hx hb hown hts hK hr hlocks hnm hz hM hS hl
  unfold fX0_groupsOf at h
  refine lv_aload_n hx hb dX0_groupsOf_0 rfl (lv_at hl 0 rfl) ?_
  refine mw_get (ci := 0) (C := RX0) (T := TX0) (N := 11) (v := .ref a_t_grid) hC i_X0_groupsOf_X0 hM hc_t rfl 2 (by decide) l_X0_groupsOf_0 rfl rfl dX0_groupsOf_1 ?_
  refine lv_aload_n hx hb dX0_groupsOf_4 rfl (lv_at hl 0 rfl) ?_
  refine lv_iload_n hx hb dX0_groupsOf_5 rfl (lv_at hl 1 rfl) ?_
  refine mw_cl (mw_runV (As := [.int p0]) (rest := [.ref a_t_grid]) (ci := 0) (C := RX0) (T := TX0) (N := 11) hC hM hS hc_t rfl (c_X0_stonesOf (a_t := a_t) (a_t_before0 := a_t_before0) (a_t_before1 := a_t_before1) (a_t_grid := a_t_grid) (w_t := w_t) (p0 := p0) (hc_t := hc_t) (v := (fX0_stonesOf w_t p0)) rfl) gX0_groupsOf_X0_stonesOf rfl rfl rfl rfl q_X0_stonesOf ⟨Nat.le_of_ble_eq_true rfl, Nat.le_of_ble_eq_true rfl⟩ rfl rfl (Nat.le_of_ble_eq_true rfl) hl.1 dX0_groupsOf_6 ⟨Nat.le_of_ble_eq_true rfl, Nat.le_of_ble_eq_true rfl⟩) ?_
  obtain ⟨r1, hr1, h⟩ := ob_some h
  refine mw_ci (mw_runV (As := [.long (fX0_stonesOf w_t p0)]) (rest := []) (ci := 2) (C := RX2) (T := TX2) (N := 5) hC hM hS hc_t_grid rfl (c_X2_groups (a_t := a_t_grid) (w_t := w_t_grid) (p0 := (fX0_stonesOf w_t p0)) (hc_t := hc_t_grid) (v := r1) hr1) gX0_groupsOf_X2_groups rfl rfl rfl rfl q_X2_groups ⟨Nat.le_of_ble_eq_true rfl, Nat.le_of_ble_eq_true rfl⟩ rfl rfl (Nat.le_of_ble_eq_true rfl) hl.1 dX0_groupsOf_9 ⟨Nat.le_of_ble_eq_true rfl, Nat.le_of_ble_eq_true rfl⟩) ?_
  cases h
  exact W.iret hx hb hr (fun t ht hW => ⟨_, rfl, rfl, ht⟩) (fun _ h9 => by cases h9) dX0_groupsOf_12 hlocks
theorem l_X2_liberties_0 : Cond.fieldLink RX2 18 "CornerStones$Grid" "all" "J" ∈ wsX2_liberties := (List.mem_cons_of_mem _ (List.mem_append_left _ (List.mem_of_getElem? (i := 0) rfl)))
theorem i_X2_liberties_X2 : ∀ w ∈ wsX20, w ∈ wsX2_liberties := fun _ h => (List.mem_cons_of_mem _ (List.mem_append_right _ h))
theorem l_X2_liberties_2 : Cond.constantLong RX2 22 (-1) ∈ wsX2_liberties := (List.mem_cons_of_mem _ (List.mem_append_left _ (List.mem_of_getElem? (i := 1) rfl)))
theorem q_X2_liberties : yX2_liberties.cls ≠ "java/lang/invoke/MethodHandle" ∧ yX2_liberties.cls ≠ "java/lang/invoke/VarHandle" ∧ (parseMethodDescriptor yX2_liberties.desc).map (fun d => d.parameters.length) = some 3 := by decide +kernel
def fX2_liberties (w_t : Int32 × Int32 × Int64 × Int64 × Int64) (p0 : Int64) (p1 : Int64) (p2 : Int64) : Option (Int64) := (fX2_connected w_t p0 p2).bind fun r1 => some ((((fX2_around w_t r1) &&& w_t.2.2.1) &&& ((p0 ||| p1) ^^^ (-1))))
set_option maxHeartbeats 4000000 in
set_option maxRecDepth 100000 in
theorem c_X2_liberties {l : Launch} {z : Nat} {D : va_G} {K : Nat → ClassId} {σ : mwm} {a_t : Nat} {w_t : Int32 × Int32 × Int64 × Int64 × Int64} {p0 : Int64} {p1 : Int64} {p2 : Int64} (hc_t : σ a_t = some (cl2  w_t)) {v : Int64} (h : fX2_liberties w_t p0 p1 p2 = some v) : Met l yX2_liberties wsX2_liberties ({ frames := 2, cells := 0, slots := 0, locals := 51 } : Room) (PCm z D K [.ref a_t, .long p0, .long p1, .long p2] σ) (qsL v) 0 0 (fun _ => False) := by
  refine mt_enter (cc := cX2_liberties) (maxL := 7) (ret := (some .long)) (own := RX2) (lv := [(0, .ref a_t), (1, .long p0), (3, .long p1), (5, .long p2)]) (by decide) rfl rfl (Nat.le_of_ble_eq_true rfl) rfl ?_
  intro p e s m below meth c ls hC hx hb hown hts hK hr hlocks hnm hz hM hS hl
  unfold fX2_liberties at h
  refine lv_aload_n hx hb dX2_liberties_0 rfl (lv_at hl 0 rfl) ?_
  refine lv_aload_n hx hb dX2_liberties_1 rfl (lv_at hl 0 rfl) ?_
  refine lv_lload_n hx hb dX2_liberties_2 rfl (lv_at hl 1 rfl) ?_
  refine lv_lload hx hb dX2_liberties_3 (lv_at hl 3 rfl) ?_
  obtain ⟨r1, hr1, h⟩ := ob_some h
  refine mw_cl (mw_runV (As := [.long p0, .long p2]) (rest := [.ref a_t]) (ci := 2) (C := RX2) (T := TX2) (N := 5) hC hM hS hc_t rfl (c_X2_connected (a_t := a_t) (w_t := w_t) (p0 := p0) (p1 := p2) (hc_t := hc_t) (v := r1) hr1) gX2_liberties_X2_connected rfl rfl rfl rfl q_X2_connected ⟨Nat.le_of_ble_eq_true rfl, Nat.le_of_ble_eq_true rfl⟩ rfl rfl (Nat.le_of_ble_eq_true rfl) hl.1 dX2_liberties_5 ⟨Nat.le_of_ble_eq_true rfl, Nat.le_of_ble_eq_true rfl⟩) ?_
  refine mw_cl (mw_runV (As := [.long r1]) (rest := []) (ci := 2) (C := RX2) (T := TX2) (N := 5) hC hM hS hc_t rfl (c_X2_around (a_t := a_t) (w_t := w_t) (p0 := r1) (hc_t := hc_t) (v := (fX2_around w_t r1)) rfl) gX2_liberties_X2_around rfl rfl rfl rfl q_X2_around ⟨Nat.le_of_ble_eq_true rfl, Nat.le_of_ble_eq_true rfl⟩ rfl rfl (Nat.le_of_ble_eq_true rfl) hl.1 dX2_liberties_8 ⟨Nat.le_of_ble_eq_true rfl, Nat.le_of_ble_eq_true rfl⟩) ?_
  refine lv_aload_n hx hb dX2_liberties_11 rfl (lv_at hl 0 rfl) ?_
  refine mw_get (ci := 2) (C := RX2) (T := TX2) (N := 5) (v := .long w_t.2.2.1) hC i_X2_liberties_X2 hM hc_t rfl 2 (by decide) l_X2_liberties_0 rfl rfl dX2_liberties_12 ?_
  refine lv_land hx hb dX2_liberties_15 ?_
  refine lv_lload_n hx hb dX2_liberties_16 rfl (lv_at hl 1 rfl) ?_
  refine lv_lload_n hx hb dX2_liberties_17 rfl (lv_at hl 2 rfl) ?_
  refine lv_lor hx hb dX2_liberties_18 ?_
  refine lv_ldc2 (v := -1) hx hb hown (hts _ l_X2_liberties_2) dX2_liberties_19 ?_
  refine lv_lxor hx hb dX2_liberties_22 ?_
  refine lv_land hx hb dX2_liberties_23 ?_
  cases h
  exact W.lret hx hb hr (fun t ht hW => ⟨_, rfl, rfl, ht⟩) (fun _ h9 => by cases h9) dX2_liberties_24 hlocks
theorem l_J13_bitCount_95d88_0 : Cond.constantLong RJ13 314 (6148914691236517205) ∈ wsJ13_bitCount_95d88 := (List.mem_cons_of_mem _ (List.mem_of_getElem? (i := 0) rfl))
theorem l_J13_bitCount_95d88_1 : Cond.constantLong RJ13 316 (3689348814741910323) ∈ wsJ13_bitCount_95d88 := (List.mem_cons_of_mem _ (List.mem_of_getElem? (i := 1) rfl))
theorem l_J13_bitCount_95d88_2 : Cond.constantLong RJ13 318 (1085102592571150095) ∈ wsJ13_bitCount_95d88 := (List.mem_cons_of_mem _ (List.mem_of_getElem? (i := 2) rfl))
theorem q_J13_bitCount_95d88 : yJ13_bitCount_95d88.cls ≠ "java/lang/invoke/MethodHandle" ∧ yJ13_bitCount_95d88.cls ≠ "java/lang/invoke/VarHandle" ∧ (parseMethodDescriptor yJ13_bitCount_95d88.desc).map (fun d => d.parameters.length) = some 1 := by decide +kernel
def fJ13_bitCount_95d88 (p0 : Int64) : Int32 := bnd (p0 - ((ushrL p0 1) &&& 6148914691236517205)) fun v1 => bnd ((v1 &&& 3689348814741910323) + ((ushrL v1 2) &&& 3689348814741910323)) fun v2 => bnd ((v2 + (ushrL v2 4)) &&& 1085102592571150095) fun v3 => bnd ((v3 + (ushrL v3 8)) + (ushrL (v3 + (ushrL v3 8)) 16)) fun v4 => ((((v4 + (ushrL v4 32)).toInt32) &&& 127))
set_option maxHeartbeats 4000000 in
set_option maxRecDepth 100000 in
theorem c_J13_bitCount_95d88 {l : Launch} {z : Nat} {D : va_G} {K : Nat → ClassId} {σ : mwm} {p0 : Int64} {v : Int32} (h : fJ13_bitCount_95d88 p0 = v) : Met l yJ13_bitCount_95d88 wsJ13_bitCount_95d88 ({ frames := 0, cells := 0, slots := 0, locals := 0 } : Room) (PCm z D K [.long p0] σ) (qsI v) 0 0 (fun _ => False) := by
  refine mt_enter (cc := cJ13_bitCount_95d88) (maxL := 2) (ret := (some .int)) (own := RJ13) (lv := [(0, .long p0)]) (by decide) rfl rfl (Nat.le_of_ble_eq_true rfl) rfl ?_
  intro p e s m below meth c ls hC hx hb hown hts hK hr hlocks hnm hz hM hS hl
  unfold fJ13_bitCount_95d88 at h
  refine lv_lload_n hx hb dJ13_bitCount_95d88_0 rfl (lv_at hl 0 rfl) ?_
  refine lv_lload_n hx hb dJ13_bitCount_95d88_1 rfl (lv_at hl 0 rfl) ?_
  refine lv_iconst (v := 1) hx hb dJ13_bitCount_95d88_2 (by decide) ?_
  refine lv_lushr (v := (ushrL p0 1)) hx hb dJ13_bitCount_95d88_3 rfl ?_
  refine lv_ldc2 (v := 6148914691236517205) hx hb hown (hts _ l_J13_bitCount_95d88_0) dJ13_bitCount_95d88_4 ?_
  refine lv_land hx hb dJ13_bitCount_95d88_7 ?_
  refine lv_lsub hx hb dJ13_bitCount_95d88_8 ?_
  refine lv_topl (fun v1 ev1 => ?_)
  replace h := bnd_at ev1 h
  refine lv_lstore_n (lv' := [(0, .long v1)]) hx hb dJ13_bitCount_95d88_9 rfl hl (by decide) rfl (fun ls hl => ?_)
  refine lv_lload_n hx hb dJ13_bitCount_95d88_10 rfl (lv_at hl 0 rfl) ?_
  refine lv_ldc2 (v := 3689348814741910323) hx hb hown (hts _ l_J13_bitCount_95d88_1) dJ13_bitCount_95d88_11 ?_
  refine lv_land hx hb dJ13_bitCount_95d88_14 ?_
  refine lv_lload_n hx hb dJ13_bitCount_95d88_15 rfl (lv_at hl 0 rfl) ?_
  refine lv_iconst (v := 2) hx hb dJ13_bitCount_95d88_16 (by decide) ?_
  refine lv_lushr (v := (ushrL v1 2)) hx hb dJ13_bitCount_95d88_17 rfl ?_
  refine lv_ldc2 (v := 3689348814741910323) hx hb hown (hts _ l_J13_bitCount_95d88_1) dJ13_bitCount_95d88_18 ?_
  refine lv_land hx hb dJ13_bitCount_95d88_21 ?_
  refine lv_ladd hx hb dJ13_bitCount_95d88_22 ?_
  refine lv_topl (fun v2 ev2 => ?_)
  replace h := bnd_at ev2 h
  refine lv_lstore_n (lv' := [(0, .long v2)]) hx hb dJ13_bitCount_95d88_23 rfl hl (by decide) rfl (fun ls hl => ?_)
  refine lv_lload_n hx hb dJ13_bitCount_95d88_24 rfl (lv_at hl 0 rfl) ?_
  refine lv_lload_n hx hb dJ13_bitCount_95d88_25 rfl (lv_at hl 0 rfl) ?_
  refine lv_iconst (v := 4) hx hb dJ13_bitCount_95d88_26 (by decide) ?_
  refine lv_lushr (v := (ushrL v2 4)) hx hb dJ13_bitCount_95d88_27 rfl ?_
  refine lv_ladd hx hb dJ13_bitCount_95d88_28 ?_
  refine lv_ldc2 (v := 1085102592571150095) hx hb hown (hts _ l_J13_bitCount_95d88_2) dJ13_bitCount_95d88_29 ?_
  refine lv_land hx hb dJ13_bitCount_95d88_32 ?_
  refine lv_topl (fun v3 ev3 => ?_)
  replace h := bnd_at ev3 h
  refine lv_lstore_n (lv' := [(0, .long v3)]) hx hb dJ13_bitCount_95d88_33 rfl hl (by decide) rfl (fun ls hl => ?_)
  refine lv_lload_n hx hb dJ13_bitCount_95d88_34 rfl (lv_at hl 0 rfl) ?_
  refine lv_lload_n hx hb dJ13_bitCount_95d88_35 rfl (lv_at hl 0 rfl) ?_
  refine lv_bipush (v := 8) hx hb dJ13_bitCount_95d88_36 (by decide) ?_
  refine lv_lushr (v := (ushrL v3 8)) hx hb dJ13_bitCount_95d88_38 rfl ?_
  refine lv_ladd hx hb dJ13_bitCount_95d88_39 ?_
  refine lv_lstore_n (lv' := [(0, .long (v3 + (ushrL v3 8)))]) hx hb dJ13_bitCount_95d88_40 rfl hl (by decide) rfl (fun ls hl => ?_)
  refine lv_lload_n hx hb dJ13_bitCount_95d88_41 rfl (lv_at hl 0 rfl) ?_
  refine lv_lload_n hx hb dJ13_bitCount_95d88_42 rfl (lv_at hl 0 rfl) ?_
  refine lv_bipush (v := 16) hx hb dJ13_bitCount_95d88_43 (by decide) ?_
  refine lv_lushr (v := (ushrL (v3 + (ushrL v3 8)) 16)) hx hb dJ13_bitCount_95d88_45 rfl ?_
  refine lv_ladd hx hb dJ13_bitCount_95d88_46 ?_
  refine lv_topl (fun v4 ev4 => ?_)
  replace h := bnd_at ev4 h
  refine lv_lstore_n (lv' := [(0, .long v4)]) hx hb dJ13_bitCount_95d88_47 rfl hl (by decide) rfl (fun ls hl => ?_)
  refine lv_lload_n hx hb dJ13_bitCount_95d88_48 rfl (lv_at hl 0 rfl) ?_
  refine lv_lload_n hx hb dJ13_bitCount_95d88_49 rfl (lv_at hl 0 rfl) ?_
  refine lv_bipush (v := 32) hx hb dJ13_bitCount_95d88_50 (by decide) ?_
  refine lv_lushr (v := (ushrL v4 32)) hx hb dJ13_bitCount_95d88_52 rfl ?_
  refine lv_ladd hx hb dJ13_bitCount_95d88_53 ?_
  refine lv_lstore_n (lv' := [(0, .long (v4 + (ushrL v4 32)))]) hx hb dJ13_bitCount_95d88_54 rfl hl (by decide) rfl (fun ls hl => ?_)
  refine lv_lload_n hx hb dJ13_bitCount_95d88_55 rfl (lv_at hl 0 rfl) ?_
  refine lv_l2i hx hb dJ13_bitCount_95d88_56 rfl ?_
  refine lv_bipush (v := 127) hx hb dJ13_bitCount_95d88_57 (by decide) ?_
  refine lv_iand hx hb dJ13_bitCount_95d88_59 ?_
  subst h
  exact W.iret hx hb hr (fun t ht hW => ⟨_, rfl, rfl, ht⟩) (fun _ h9 => by cases h9) dJ13_bitCount_95d88_60 hlocks
theorem l_X2_groupsWithOneLiberty_0 : Cond.constantLong RX2 22 (-1) ∈ wsX2_groupsWithOneLiberty := (List.mem_cons_of_mem _ (List.mem_append_left _ (List.mem_append_left _ (List.mem_of_getElem? (i := 0) rfl))))
theorem q_X2_groupsWithOneLiberty : yX2_groupsWithOneLiberty.cls ≠ "java/lang/invoke/MethodHandle" ∧ yX2_groupsWithOneLiberty.cls ≠ "java/lang/invoke/VarHandle" ∧ (parseMethodDescriptor yX2_groupsWithOneLiberty.desc).map (fun d => d.parameters.length) = some 2 := by decide +kernel
def fX2_groupsWithOneLiberty_9 (w_t : Int32 × Int32 × Int64 × Int64 × Int64) (p0 : Int64) (p1 : Int64) : Nat → Int32 → Int64 → Int32 → Option (Int32)
  | 0, _, _, _ => none
  | fu + 1, x5, x6, x8 => if 49 ≤ x8 then (some (x5)) else (if x6 = 0 then (some (x5)) else ((fX2_liberties w_t p0 p1 (x6 &&& (-x6))).bind fun r3 => if (fJ13_bitCount_95d88 r3) = 1 then ((fX2_connected w_t p0 (x6 &&& (-x6))).bind fun r6 => fX2_groupsWithOneLiberty_9 w_t p0 p1 fu (x5 + 1) (x6 &&& (r6 ^^^ (-1))) (x8 + 1)) else ((fX2_connected w_t p0 (x6 &&& (-x6))).bind fun r5 => fX2_groupsWithOneLiberty_9 w_t p0 p1 fu x5 (x6 &&& (r5 ^^^ (-1))) (x8 + 1))))
def fX2_groupsWithOneLiberty (w_t : Int32 × Int32 × Int64 × Int64 × Int64) (p0 : Int64) (p1 : Int64) : Option (Int32) := fX2_groupsWithOneLiberty_9 w_t p0 p1 5000 0 p0 0 
set_option maxHeartbeats 4000000 in
set_option maxRecDepth 100000 in
theorem c_X2_groupsWithOneLiberty {l : Launch} {z : Nat} {D : va_G} {K : Nat → ClassId} {σ : mwm} {a_t : Nat} {w_t : Int32 × Int32 × Int64 × Int64 × Int64} {p0 : Int64} {p1 : Int64} (hc_t : σ a_t = some (cl2  w_t)) {v : Int32} (h : fX2_groupsWithOneLiberty w_t p0 p1 = some v) : Met l yX2_groupsWithOneLiberty wsX2_groupsWithOneLiberty ({ frames := 3, cells := 0, slots := 0, locals := 77 } : Room) (PCm z D K [.ref a_t, .long p0, .long p1] σ) (qsI v) 0 0 (fun _ => False) := by
  refine mt_enter (cc := cX2_groupsWithOneLiberty) (maxL := 11) (ret := (some .int)) (own := RX2) (lv := [(0, .ref a_t), (1, .long p0), (3, .long p1)]) (by decide) rfl rfl (Nat.le_of_ble_eq_true rfl) rfl ?_
  intro p e s m below meth c ls hC hx hb hown hts hK hr hlocks hnm hz hM hS hl
  unfold fX2_groupsWithOneLiberty at h
  refine lv_iconst (v := 0) hx hb dX2_groupsWithOneLiberty_0 (by decide) ?_
  refine lv_istore (lv' := [(5, .int 0), (0, .ref a_t), (1, .long p0), (3, .long p1)]) hx hb dX2_groupsWithOneLiberty_1 hl (by decide) rfl (fun ls hl => ?_)
  refine lv_lload_n hx hb dX2_groupsWithOneLiberty_3 rfl (lv_at hl 2 rfl) ?_
  refine lv_lstore (lv' := [(6, .long p0), (5, .int 0), (0, .ref a_t), (1, .long p0), (3, .long p1)]) hx hb dX2_groupsWithOneLiberty_4 hl (by decide) rfl (fun ls hl => ?_)
  refine lv_iconst (v := 0) hx hb dX2_groupsWithOneLiberty_6 (by decide) ?_
  refine lv_istore (lv' := [(8, .int 0), (6, .long p0), (5, .int 0), (0, .ref a_t), (1, .long p0), (3, .long p1)]) hx hb dX2_groupsWithOneLiberty_7 hl (by decide) rfl (fun ls hl => ?_)
  have L9 : ∀ (fu0 : Nat) (x5 : Int32) (x6 : Int64) (x8 : Int32), fX2_groupsWithOneLiberty_9 w_t p0 p1 fu0 x5 x6 x8 = some v → ∀ ls : Array Slot, lv_has ls 11 [(8, .int x8), (6, .long x6), (5, .int x5), (0, .ref a_t), (1, .long p0), (3, .long p1)] → W p l e ({ frames := 3, cells := 0, slots := 0, locals := 77 } : Room) s m ([.ref a_t, .long p0, .long p1] : List Value).toArray below meth c s.heap [] 0 0 (MQ below (qsI v) ([.ref a_t, .long p0, .long p1] : List Value).toArray s 0 0 (fun _ => False)) (F0 m 9 ls []) := by
    intro fu0
    induction fu0 with
    | zero =>
      intro x5 x6 x8 h
      unfold fX2_groupsWithOneLiberty_9 at h
      cases h
    | succ fu0 ih0 =>
      intro x5 x6 x8 h ls hl
      unfold fX2_groupsWithOneLiberty_9 at h
      refine lv_iload hx hb dX2_groupsWithOneLiberty_9 (lv_at hl 0 rfl) ?_
      refine lv_bipush (v := 49) hx hb dX2_groupsWithOneLiberty_11 (by decide) ?_
      refine lv_icmp_ge (tgt := 71) hx hb dX2_groupsWithOneLiberty_13 (by decide) (fun c1 => ?_) (fun c1 => ?_)
      · replace h := it_pos c1 h
        refine lv_iload hx hb dX2_groupsWithOneLiberty_71 (lv_at hl 2 rfl) ?_
        cases h
        exact W.iret hx hb hr (fun t ht hW => ⟨_, rfl, rfl, ht⟩) (fun _ h9 => by cases h9) dX2_groupsWithOneLiberty_73 hlocks
      · replace h := it_neg c1 h
        refine lv_lload hx hb dX2_groupsWithOneLiberty_16 (lv_at hl 1 rfl) ?_
        refine lv_lconst (v := 0) hx hb dX2_groupsWithOneLiberty_18 (by decide) ?_
        refine W.lcmp hx hb dX2_groupsWithOneLiberty_19 ?_
        refine lv_if_eq (tgt := 71) hx hb dX2_groupsWithOneLiberty_20 (by decide) (fun c2 => ?_) (fun c2 => ?_)
        · replace c2 := (lg_cmp_eq _ _).mp c2
          replace h := it_pos c2 h
          refine lv_iload hx hb dX2_groupsWithOneLiberty_71 (lv_at hl 2 rfl) ?_
          cases h
          exact W.iret hx hb hr (fun t ht hW => ⟨_, rfl, rfl, ht⟩) (fun _ h9 => by cases h9) dX2_groupsWithOneLiberty_73 hlocks
        · replace c2 := mt (lg_cmp_eq _ _).mpr c2
          replace h := it_neg c2 h
          refine lv_lload hx hb dX2_groupsWithOneLiberty_23 (lv_at hl 1 rfl) ?_
          refine lv_lload hx hb dX2_groupsWithOneLiberty_25 (lv_at hl 1 rfl) ?_
          refine lv_lneg hx hb dX2_groupsWithOneLiberty_27 ?_
          refine lv_land hx hb dX2_groupsWithOneLiberty_28 ?_
          refine lv_lstore (lv' := [(9, .long (x6 &&& (-x6))), (8, .int x8), (6, .long x6), (5, .int x5), (0, .ref a_t), (1, .long p0), (3, .long p1)]) hx hb dX2_groupsWithOneLiberty_29 hl (by decide) rfl (fun ls hl => ?_)
          refine lv_aload_n hx hb dX2_groupsWithOneLiberty_31 rfl (lv_at hl 4 rfl) ?_
          refine lv_lload_n hx hb dX2_groupsWithOneLiberty_32 rfl (lv_at hl 5 rfl) ?_
          refine lv_lload_n hx hb dX2_groupsWithOneLiberty_33 rfl (lv_at hl 6 rfl) ?_
          refine lv_lload hx hb dX2_groupsWithOneLiberty_34 (lv_at hl 0 rfl) ?_
          obtain ⟨r3, hr3, h⟩ := ob_some h
          refine mw_cl (mw_runV (As := [.long p0, .long p1, .long (x6 &&& (-x6))]) (rest := []) (ci := 2) (C := RX2) (T := TX2) (N := 5) hC hM hS hc_t rfl (c_X2_liberties (a_t := a_t) (w_t := w_t) (p0 := p0) (p1 := p1) (p2 := (x6 &&& (-x6))) (hc_t := hc_t) (v := r3) hr3) gX2_groupsWithOneLiberty_X2_liberties rfl rfl rfl rfl q_X2_liberties ⟨Nat.le_of_ble_eq_true rfl, Nat.le_of_ble_eq_true rfl⟩ rfl rfl (Nat.le_of_ble_eq_true rfl) hl.1 dX2_groupsWithOneLiberty_36 ⟨Nat.le_of_ble_eq_true rfl, Nat.le_of_ble_eq_true rfl⟩) ?_
          refine mw_ci (mw_runS (As := [.long r3]) (rest := []) hC hM hS (c_J13_bitCount_95d88 (p0 := r3) (v := (fJ13_bitCount_95d88 r3)) rfl) gX2_groupsWithOneLiberty_J13_bitCount_95d88 rfl rfl rfl q_J13_bitCount_95d88 ⟨Nat.le_of_ble_eq_true rfl, Nat.le_of_ble_eq_true rfl⟩ rfl rfl (Nat.le_of_ble_eq_true rfl) hl.1 dX2_groupsWithOneLiberty_39 ⟨Nat.le_of_ble_eq_true rfl, Nat.le_of_ble_eq_true rfl⟩) ?_
          refine lv_iconst (v := 1) hx hb dX2_groupsWithOneLiberty_42 (by decide) ?_
          refine lv_icmp_ne (tgt := 49) hx hb dX2_groupsWithOneLiberty_43 (by decide) (fun c4 => ?_) (fun c4 => ?_)
          · replace h := it_neg c4 h
            refine lv_lload hx hb dX2_groupsWithOneLiberty_49 (lv_at hl 2 rfl) ?_
            refine lv_aload_n hx hb dX2_groupsWithOneLiberty_51 rfl (lv_at hl 4 rfl) ?_
            refine lv_lload_n hx hb dX2_groupsWithOneLiberty_52 rfl (lv_at hl 5 rfl) ?_
            refine lv_lload hx hb dX2_groupsWithOneLiberty_53 (lv_at hl 0 rfl) ?_
            obtain ⟨r5, hr5, h⟩ := ob_some h
            refine mw_cl (mw_runV (As := [.long p0, .long (x6 &&& (-x6))]) (rest := [.long x6]) (ci := 2) (C := RX2) (T := TX2) (N := 5) hC hM hS hc_t rfl (c_X2_connected (a_t := a_t) (w_t := w_t) (p0 := p0) (p1 := (x6 &&& (-x6))) (hc_t := hc_t) (v := r5) hr5) gX2_groupsWithOneLiberty_X2_connected rfl rfl rfl rfl q_X2_connected ⟨Nat.le_of_ble_eq_true rfl, Nat.le_of_ble_eq_true rfl⟩ rfl rfl (Nat.le_of_ble_eq_true rfl) hl.1 dX2_groupsWithOneLiberty_55 ⟨Nat.le_of_ble_eq_true rfl, Nat.le_of_ble_eq_true rfl⟩) ?_
            refine lv_ldc2 (v := -1) hx hb hown (hts _ l_X2_groupsWithOneLiberty_0) dX2_groupsWithOneLiberty_58 ?_
            refine lv_lxor hx hb dX2_groupsWithOneLiberty_61 ?_
            refine lv_land hx hb dX2_groupsWithOneLiberty_62 ?_
            refine lv_lstore (lv' := [(6, .long (x6 &&& (r5 ^^^ (-1)))), (9, .long (x6 &&& (-x6))), (8, .int x8), (5, .int x5), (0, .ref a_t), (1, .long p0), (3, .long p1)]) hx hb dX2_groupsWithOneLiberty_63 hl (by decide) rfl (fun ls hl => ?_)
            refine lv_iinc (v := (x8 + 1)) (lv' := [(8, .int (x8 + 1)), (6, .long (x6 &&& (r5 ^^^ (-1)))), (9, .long (x6 &&& (-x6))), (5, .int x5), (0, .ref a_t), (1, .long p0), (3, .long p1)]) hx hb dX2_groupsWithOneLiberty_65 hl (k := 2) rfl rfl (by decide) rfl (fun ls hl => ?_)
            refine lv_goto (tgt := 9) hx hb dX2_groupsWithOneLiberty_68 (by decide) ?_
            exact ih0 x5 (x6 &&& (r5 ^^^ (-1))) (x8 + 1) h ls (lv_sub hl [0, 1, 3, 4, 5, 6] rfl)
          · replace h := it_pos c4 h
            refine lv_iinc (v := (x5 + 1)) (lv' := [(5, .int (x5 + 1)), (9, .long (x6 &&& (-x6))), (8, .int x8), (6, .long x6), (0, .ref a_t), (1, .long p0), (3, .long p1)]) hx hb dX2_groupsWithOneLiberty_46 hl (k := 3) rfl rfl (by decide) rfl (fun ls hl => ?_)
            refine lv_lload hx hb dX2_groupsWithOneLiberty_49 (lv_at hl 3 rfl) ?_
            refine lv_aload_n hx hb dX2_groupsWithOneLiberty_51 rfl (lv_at hl 4 rfl) ?_
            refine lv_lload_n hx hb dX2_groupsWithOneLiberty_52 rfl (lv_at hl 5 rfl) ?_
            refine lv_lload hx hb dX2_groupsWithOneLiberty_53 (lv_at hl 1 rfl) ?_
            obtain ⟨r6, hr6, h⟩ := ob_some h
            refine mw_cl (mw_runV (As := [.long p0, .long (x6 &&& (-x6))]) (rest := [.long x6]) (ci := 2) (C := RX2) (T := TX2) (N := 5) hC hM hS hc_t rfl (c_X2_connected (a_t := a_t) (w_t := w_t) (p0 := p0) (p1 := (x6 &&& (-x6))) (hc_t := hc_t) (v := r6) hr6) gX2_groupsWithOneLiberty_X2_connected rfl rfl rfl rfl q_X2_connected ⟨Nat.le_of_ble_eq_true rfl, Nat.le_of_ble_eq_true rfl⟩ rfl rfl (Nat.le_of_ble_eq_true rfl) hl.1 dX2_groupsWithOneLiberty_55 ⟨Nat.le_of_ble_eq_true rfl, Nat.le_of_ble_eq_true rfl⟩) ?_
            refine lv_ldc2 (v := -1) hx hb hown (hts _ l_X2_groupsWithOneLiberty_0) dX2_groupsWithOneLiberty_58 ?_
            refine lv_lxor hx hb dX2_groupsWithOneLiberty_61 ?_
            refine lv_land hx hb dX2_groupsWithOneLiberty_62 ?_
            refine lv_lstore (lv' := [(6, .long (x6 &&& (r6 ^^^ (-1)))), (5, .int (x5 + 1)), (9, .long (x6 &&& (-x6))), (8, .int x8), (0, .ref a_t), (1, .long p0), (3, .long p1)]) hx hb dX2_groupsWithOneLiberty_63 hl (by decide) rfl (fun ls hl => ?_)
            refine lv_iinc (v := (x8 + 1)) (lv' := [(8, .int (x8 + 1)), (6, .long (x6 &&& (r6 ^^^ (-1)))), (5, .int (x5 + 1)), (9, .long (x6 &&& (-x6))), (0, .ref a_t), (1, .long p0), (3, .long p1)]) hx hb dX2_groupsWithOneLiberty_65 hl (k := 3) rfl rfl (by decide) rfl (fun ls hl => ?_)
            refine lv_goto (tgt := 9) hx hb dX2_groupsWithOneLiberty_68 (by decide) ?_
            exact ih0 (x5 + 1) (x6 &&& (r6 ^^^ (-1))) (x8 + 1) h ls (lv_sub hl [0, 1, 2, 4, 5, 6] rfl)
  exact L9 5000 0 p0 0  h ls (lv_sub hl [0, 1, 2, 3, 4, 5] rfl)
theorem l_X0_groupsWithOneLiberty_0 : Cond.fieldLink RX0 18 "CornerStones$Game" "grid" "LCornerStones$Grid;" ∈ wsX0_groupsWithOneLiberty := (List.mem_cons_of_mem _ (List.mem_append_left _ (List.mem_append_left _ (List.mem_append_left _ (List.mem_of_getElem? (i := 0) rfl)))))
theorem i_X0_groupsWithOneLiberty_X0 : ∀ w ∈ wsX00, w ∈ wsX0_groupsWithOneLiberty := fun _ h => (List.mem_cons_of_mem _ (List.mem_append_left _ (List.mem_append_right _ h)))
theorem l_X0_groupsWithOneLiberty_2 : Cond.fieldLink RX0 37 "CornerStones$Game" "stones0" "J" ∈ wsX0_groupsWithOneLiberty := (List.mem_cons_of_mem _ (List.mem_append_left _ (List.mem_append_left _ (List.mem_append_left _ (List.mem_of_getElem? (i := 1) rfl)))))
theorem l_X0_groupsWithOneLiberty_3 : Cond.fieldLink RX0 41 "CornerStones$Game" "stones1" "J" ∈ wsX0_groupsWithOneLiberty := (List.mem_cons_of_mem _ (List.mem_append_left _ (List.mem_append_left _ (List.mem_append_left _ (List.mem_of_getElem? (i := 2) rfl)))))
theorem q_X0_groupsWithOneLiberty : yX0_groupsWithOneLiberty.cls ≠ "java/lang/invoke/MethodHandle" ∧ yX0_groupsWithOneLiberty.cls ≠ "java/lang/invoke/VarHandle" ∧ (parseMethodDescriptor yX0_groupsWithOneLiberty.desc).map (fun d => d.parameters.length) = some 0 := by decide +kernel
def fX0_groupsWithOneLiberty (w_t : Int32 × Int32 × Int32 × Int32 × Int64 × Int64 × Int32 × Int32) (w_t_grid : Int32 × Int32 × Int64 × Int64 × Int64) : Option (Int32) := (fX2_groupsWithOneLiberty w_t_grid w_t.2.2.2.2.1 w_t.2.2.2.2.2.1).bind fun r1 => (fX2_groupsWithOneLiberty w_t_grid w_t.2.2.2.2.2.1 w_t.2.2.2.2.1).bind fun r2 => some ((r1 + r2))
set_option maxHeartbeats 4000000 in
set_option maxRecDepth 100000 in
theorem c_X0_groupsWithOneLiberty {l : Launch} {z : Nat} {D : va_G} {K : Nat → ClassId} {σ : mwm} {a_t a_t_before0 a_t_before1 a_t_grid : Nat} {w_t : Int32 × Int32 × Int32 × Int32 × Int64 × Int64 × Int32 × Int32} {w_t_grid : Int32 × Int32 × Int64 × Int64 × Int64} (hc_t : σ a_t = some (cl0 a_t_before0 a_t_before1 a_t_grid w_t)) (hc_t_grid : σ a_t_grid = some (cl2  w_t_grid)) {v : Int32} (h : fX0_groupsWithOneLiberty w_t w_t_grid = some v) : Met l yX0_groupsWithOneLiberty wsX0_groupsWithOneLiberty ({ frames := 4, cells := 0, slots := 0, locals := 107 } : Room) (PCm z D K [.ref a_t] σ) (qsI v) 0 0 (fun _ => False) := by
  refine mt_enter (cc := cX0_groupsWithOneLiberty) (maxL := 1) (ret := (some .int)) (own := RX0) (lv := [(0, .ref a_t)]) (by decide) rfl rfl (Nat.le_of_ble_eq_true rfl) rfl ?_
  intro p e s m below meth c ls hC hx hb hown hts hK hr hlocks hnm hz hM hS hl
  unfold fX0_groupsWithOneLiberty at h
  refine lv_aload_n hx hb dX0_groupsWithOneLiberty_0 rfl (lv_at hl 0 rfl) ?_
  refine mw_get (ci := 0) (C := RX0) (T := TX0) (N := 11) (v := .ref a_t_grid) hC i_X0_groupsWithOneLiberty_X0 hM hc_t rfl 2 (by decide) l_X0_groupsWithOneLiberty_0 rfl rfl dX0_groupsWithOneLiberty_1 ?_
  refine lv_aload_n hx hb dX0_groupsWithOneLiberty_4 rfl (lv_at hl 0 rfl) ?_
  refine mw_get (ci := 0) (C := RX0) (T := TX0) (N := 11) (v := .long w_t.2.2.2.2.1) hC i_X0_groupsWithOneLiberty_X0 hM hc_t rfl 7 (by decide) l_X0_groupsWithOneLiberty_2 rfl rfl dX0_groupsWithOneLiberty_5 ?_
  refine lv_aload_n hx hb dX0_groupsWithOneLiberty_8 rfl (lv_at hl 0 rfl) ?_
  refine mw_get (ci := 0) (C := RX0) (T := TX0) (N := 11) (v := .long w_t.2.2.2.2.2.1) hC i_X0_groupsWithOneLiberty_X0 hM hc_t rfl 8 (by decide) l_X0_groupsWithOneLiberty_3 rfl rfl dX0_groupsWithOneLiberty_9 ?_
  obtain ⟨r1, hr1, h⟩ := ob_some h
  refine mw_ci (mw_runV (As := [.long w_t.2.2.2.2.1, .long w_t.2.2.2.2.2.1]) (rest := []) (ci := 2) (C := RX2) (T := TX2) (N := 5) hC hM hS hc_t_grid rfl (c_X2_groupsWithOneLiberty (a_t := a_t_grid) (w_t := w_t_grid) (p0 := w_t.2.2.2.2.1) (p1 := w_t.2.2.2.2.2.1) (hc_t := hc_t_grid) (v := r1) hr1) gX0_groupsWithOneLiberty_X2_groupsWithOneLiberty rfl rfl rfl rfl q_X2_groupsWithOneLiberty ⟨Nat.le_of_ble_eq_true rfl, Nat.le_of_ble_eq_true rfl⟩ rfl rfl (Nat.le_of_ble_eq_true rfl) hl.1 dX0_groupsWithOneLiberty_12 ⟨Nat.le_of_ble_eq_true rfl, Nat.le_of_ble_eq_true rfl⟩) ?_
  refine lv_aload_n hx hb dX0_groupsWithOneLiberty_15 rfl (lv_at hl 0 rfl) ?_
  refine mw_get (ci := 0) (C := RX0) (T := TX0) (N := 11) (v := .ref a_t_grid) hC i_X0_groupsWithOneLiberty_X0 hM hc_t rfl 2 (by decide) l_X0_groupsWithOneLiberty_0 rfl rfl dX0_groupsWithOneLiberty_16 ?_
  refine lv_aload_n hx hb dX0_groupsWithOneLiberty_19 rfl (lv_at hl 0 rfl) ?_
  refine mw_get (ci := 0) (C := RX0) (T := TX0) (N := 11) (v := .long w_t.2.2.2.2.2.1) hC i_X0_groupsWithOneLiberty_X0 hM hc_t rfl 8 (by decide) l_X0_groupsWithOneLiberty_3 rfl rfl dX0_groupsWithOneLiberty_20 ?_
  refine lv_aload_n hx hb dX0_groupsWithOneLiberty_23 rfl (lv_at hl 0 rfl) ?_
  refine mw_get (ci := 0) (C := RX0) (T := TX0) (N := 11) (v := .long w_t.2.2.2.2.1) hC i_X0_groupsWithOneLiberty_X0 hM hc_t rfl 7 (by decide) l_X0_groupsWithOneLiberty_2 rfl rfl dX0_groupsWithOneLiberty_24 ?_
  obtain ⟨r2, hr2, h⟩ := ob_some h
  refine mw_ci (mw_runV (As := [.long w_t.2.2.2.2.2.1, .long w_t.2.2.2.2.1]) (rest := [.int r1]) (ci := 2) (C := RX2) (T := TX2) (N := 5) hC hM hS hc_t_grid rfl (c_X2_groupsWithOneLiberty (a_t := a_t_grid) (w_t := w_t_grid) (p0 := w_t.2.2.2.2.2.1) (p1 := w_t.2.2.2.2.1) (hc_t := hc_t_grid) (v := r2) hr2) gX0_groupsWithOneLiberty_X2_groupsWithOneLiberty rfl rfl rfl rfl q_X2_groupsWithOneLiberty ⟨Nat.le_of_ble_eq_true rfl, Nat.le_of_ble_eq_true rfl⟩ rfl rfl (Nat.le_of_ble_eq_true rfl) hl.1 dX0_groupsWithOneLiberty_27 ⟨Nat.le_of_ble_eq_true rfl, Nat.le_of_ble_eq_true rfl⟩) ?_
  refine lv_iadd hx hb dX0_groupsWithOneLiberty_30 ?_
  cases h
  exact W.iret hx hb hr (fun t ht hW => ⟨_, rfl, rfl, ht⟩) (fun _ h9 => by cases h9) dX0_groupsWithOneLiberty_31 hlocks
theorem l_X2_enclosed_0 : Cond.fieldLink RX2 18 "CornerStones$Grid" "all" "J" ∈ wsX2_enclosed := (List.mem_cons_of_mem _ (List.mem_append_left _ (List.mem_of_getElem? (i := 0) rfl)))
theorem i_X2_enclosed_X2 : ∀ w ∈ wsX20, w ∈ wsX2_enclosed := fun _ h => (List.mem_cons_of_mem _ (List.mem_append_right _ h))
theorem l_X2_enclosed_2 : Cond.constantLong RX2 22 (-1) ∈ wsX2_enclosed := (List.mem_cons_of_mem _ (List.mem_append_left _ (List.mem_of_getElem? (i := 1) rfl)))
theorem q_X2_enclosed : yX2_enclosed.cls ≠ "java/lang/invoke/MethodHandle" ∧ yX2_enclosed.cls ≠ "java/lang/invoke/VarHandle" ∧ (parseMethodDescriptor yX2_enclosed.desc).map (fun d => d.parameters.length) = some 2 := by decide +kernel
def fX2_enclosed (w_t : Int32 × Int32 × Int64 × Int64 × Int64) (p0 : Int64) (p1 : Int64) : Option (Int64) := bnd (w_t.2.2.1 &&& ((p0 ||| p1) ^^^ (-1))) fun v1 => (fX2_connected w_t v1 (fX2_around w_t p0)).bind fun r2 => (fX2_connected w_t v1 (fX2_around w_t p1)).bind fun r3 => some ((r2 &&& (r3 ^^^ (-1))))
set_option maxHeartbeats 4000000 in
set_option maxRecDepth 100000 in
theorem c_X2_enclosed {l : Launch} {z : Nat} {D : va_G} {K : Nat → ClassId} {σ : mwm} {a_t : Nat} {w_t : Int32 × Int32 × Int64 × Int64 × Int64} {p0 : Int64} {p1 : Int64} (hc_t : σ a_t = some (cl2  w_t)) {v : Int64} (h : fX2_enclosed w_t p0 p1 = some v) : Met l yX2_enclosed wsX2_enclosed ({ frames := 2, cells := 0, slots := 0, locals := 51 } : Room) (PCm z D K [.ref a_t, .long p0, .long p1] σ) (qsL v) 0 0 (fun _ => False) := by
  refine mt_enter (cc := cX2_enclosed) (maxL := 7) (ret := (some .long)) (own := RX2) (lv := [(0, .ref a_t), (1, .long p0), (3, .long p1)]) (by decide) rfl rfl (Nat.le_of_ble_eq_true rfl) rfl ?_
  intro p e s m below meth c ls hC hx hb hown hts hK hr hlocks hnm hz hM hS hl
  unfold fX2_enclosed at h
  refine lv_aload_n hx hb dX2_enclosed_0 rfl (lv_at hl 0 rfl) ?_
  refine mw_get (ci := 2) (C := RX2) (T := TX2) (N := 5) (v := .long w_t.2.2.1) hC i_X2_enclosed_X2 hM hc_t rfl 2 (by decide) l_X2_enclosed_0 rfl rfl dX2_enclosed_1 ?_
  refine lv_lload_n hx hb dX2_enclosed_4 rfl (lv_at hl 1 rfl) ?_
  refine lv_lload_n hx hb dX2_enclosed_5 rfl (lv_at hl 2 rfl) ?_
  refine lv_lor hx hb dX2_enclosed_6 ?_
  refine lv_ldc2 (v := -1) hx hb hown (hts _ l_X2_enclosed_2) dX2_enclosed_7 ?_
  refine lv_lxor hx hb dX2_enclosed_10 ?_
  refine lv_land hx hb dX2_enclosed_11 ?_
  refine lv_topl (fun v1 ev1 => ?_)
  replace h := bnd_at ev1 h
  refine lv_lstore (lv' := [(5, .long v1), (0, .ref a_t), (1, .long p0), (3, .long p1)]) hx hb dX2_enclosed_12 hl (by decide) rfl (fun ls hl => ?_)
  refine lv_aload_n hx hb dX2_enclosed_14 rfl (lv_at hl 1 rfl) ?_
  refine lv_lload hx hb dX2_enclosed_15 (lv_at hl 0 rfl) ?_
  refine lv_aload_n hx hb dX2_enclosed_17 rfl (lv_at hl 1 rfl) ?_
  refine lv_lload_n hx hb dX2_enclosed_18 rfl (lv_at hl 2 rfl) ?_
  refine mw_cl (mw_runV (As := [.long p0]) (rest := [.long v1, .ref a_t]) (ci := 2) (C := RX2) (T := TX2) (N := 5) hC hM hS hc_t rfl (c_X2_around (a_t := a_t) (w_t := w_t) (p0 := p0) (hc_t := hc_t) (v := (fX2_around w_t p0)) rfl) gX2_enclosed_X2_around rfl rfl rfl rfl q_X2_around ⟨Nat.le_of_ble_eq_true rfl, Nat.le_of_ble_eq_true rfl⟩ rfl rfl (Nat.le_of_ble_eq_true rfl) hl.1 dX2_enclosed_19 ⟨Nat.le_of_ble_eq_true rfl, Nat.le_of_ble_eq_true rfl⟩) ?_
  obtain ⟨r2, hr2, h⟩ := ob_some h
  refine mw_cl (mw_runV (As := [.long v1, .long (fX2_around w_t p0)]) (rest := []) (ci := 2) (C := RX2) (T := TX2) (N := 5) hC hM hS hc_t rfl (c_X2_connected (a_t := a_t) (w_t := w_t) (p0 := v1) (p1 := (fX2_around w_t p0)) (hc_t := hc_t) (v := r2) hr2) gX2_enclosed_X2_connected rfl rfl rfl rfl q_X2_connected ⟨Nat.le_of_ble_eq_true rfl, Nat.le_of_ble_eq_true rfl⟩ rfl rfl (Nat.le_of_ble_eq_true rfl) hl.1 dX2_enclosed_22 ⟨Nat.le_of_ble_eq_true rfl, Nat.le_of_ble_eq_true rfl⟩) ?_
  refine lv_aload_n hx hb dX2_enclosed_25 rfl (lv_at hl 1 rfl) ?_
  refine lv_lload hx hb dX2_enclosed_26 (lv_at hl 0 rfl) ?_
  refine lv_aload_n hx hb dX2_enclosed_28 rfl (lv_at hl 1 rfl) ?_
  refine lv_lload_n hx hb dX2_enclosed_29 rfl (lv_at hl 3 rfl) ?_
  refine mw_cl (mw_runV (As := [.long p1]) (rest := [.long v1, .ref a_t, .long r2]) (ci := 2) (C := RX2) (T := TX2) (N := 5) hC hM hS hc_t rfl (c_X2_around (a_t := a_t) (w_t := w_t) (p0 := p1) (hc_t := hc_t) (v := (fX2_around w_t p1)) rfl) gX2_enclosed_X2_around rfl rfl rfl rfl q_X2_around ⟨Nat.le_of_ble_eq_true rfl, Nat.le_of_ble_eq_true rfl⟩ rfl rfl (Nat.le_of_ble_eq_true rfl) hl.1 dX2_enclosed_30 ⟨Nat.le_of_ble_eq_true rfl, Nat.le_of_ble_eq_true rfl⟩) ?_
  obtain ⟨r3, hr3, h⟩ := ob_some h
  refine mw_cl (mw_runV (As := [.long v1, .long (fX2_around w_t p1)]) (rest := [.long r2]) (ci := 2) (C := RX2) (T := TX2) (N := 5) hC hM hS hc_t rfl (c_X2_connected (a_t := a_t) (w_t := w_t) (p0 := v1) (p1 := (fX2_around w_t p1)) (hc_t := hc_t) (v := r3) hr3) gX2_enclosed_X2_connected rfl rfl rfl rfl q_X2_connected ⟨Nat.le_of_ble_eq_true rfl, Nat.le_of_ble_eq_true rfl⟩ rfl rfl (Nat.le_of_ble_eq_true rfl) hl.1 dX2_enclosed_33 ⟨Nat.le_of_ble_eq_true rfl, Nat.le_of_ble_eq_true rfl⟩) ?_
  refine lv_ldc2 (v := -1) hx hb hown (hts _ l_X2_enclosed_2) dX2_enclosed_36 ?_
  refine lv_lxor hx hb dX2_enclosed_39 ?_
  refine lv_land hx hb dX2_enclosed_40 ?_
  cases h
  exact W.lret hx hb hr (fun t ht hW => ⟨_, rfl, rfl, ht⟩) (fun _ h9 => by cases h9) dX2_enclosed_41 hlocks
theorem l_X0_areaOf_0 : Cond.fieldLink RX0 18 "CornerStones$Game" "grid" "LCornerStones$Grid;" ∈ wsX0_areaOf := (List.mem_cons_of_mem _ (List.mem_append_left _ (List.mem_append_left _ (List.mem_append_left _ (List.mem_of_getElem? (i := 0) rfl)))))
theorem i_X0_areaOf_X0 : ∀ w ∈ wsX00, w ∈ wsX0_areaOf := fun _ h => (List.mem_cons_of_mem _ (List.mem_append_left _ (List.mem_append_right _ h)))
theorem q_X0_areaOf : yX0_areaOf.cls ≠ "java/lang/invoke/MethodHandle" ∧ yX0_areaOf.cls ≠ "java/lang/invoke/VarHandle" ∧ (parseMethodDescriptor yX0_areaOf.desc).map (fun d => d.parameters.length) = some 1 := by decide +kernel
def fX0_areaOf (w_t : Int32 × Int32 × Int32 × Int32 × Int64 × Int64 × Int32 × Int32) (w_t_grid : Int32 × Int32 × Int64 × Int64 × Int64) (p0 : Int32) : Option (Int32) := (fX2_enclosed w_t_grid (fX0_stonesOf w_t p0) (fX0_stonesOf w_t (1 - p0))).bind fun r1 => some (((fJ13_bitCount_95d88 (fX0_stonesOf w_t p0)) + (fJ13_bitCount_95d88 r1)))
set_option maxHeartbeats 4000000 in
set_option maxRecDepth 100000 in
theorem c_X0_areaOf {l : Launch} {z : Nat} {D : va_G} {K : Nat → ClassId} {σ : mwm} {a_t a_t_before0 a_t_before1 a_t_grid : Nat} {w_t : Int32 × Int32 × Int32 × Int32 × Int64 × Int64 × Int32 × Int32} {w_t_grid : Int32 × Int32 × Int64 × Int64 × Int64} {p0 : Int32} (hc_t : σ a_t = some (cl0 a_t_before0 a_t_before1 a_t_grid w_t)) (hc_t_grid : σ a_t_grid = some (cl2  w_t_grid)) {v : Int32} (h : fX0_areaOf w_t w_t_grid p0 = some v) : Met l yX0_areaOf wsX0_areaOf ({ frames := 3, cells := 0, slots := 0, locals := 77 } : Room) (PCm z D K [.ref a_t, .int p0] σ) (qsI v) 0 0 (fun _ => False) := by
  refine mt_enter (cc := cX0_areaOf) (maxL := 2) (ret := (some .int)) (own := RX0) (lv := [(0, .ref a_t), (1, .int p0)]) (by decide) rfl rfl (Nat.le_of_ble_eq_true rfl) rfl ?_
  intro p e s m below meth c ls hC hx hb hown hts hK hr hlocks hnm hz hM hS hl
  unfold fX0_areaOf at h
  refine lv_aload_n hx hb dX0_areaOf_0 rfl (lv_at hl 0 rfl) ?_
  refine lv_iload_n hx hb dX0_areaOf_1 rfl (lv_at hl 1 rfl) ?_
  refine mw_cl (mw_runV (As := [.int p0]) (rest := []) (ci := 0) (C := RX0) (T := TX0) (N := 11) hC hM hS hc_t rfl (c_X0_stonesOf (a_t := a_t) (a_t_before0 := a_t_before0) (a_t_before1 := a_t_before1) (a_t_grid := a_t_grid) (w_t := w_t) (p0 := p0) (hc_t := hc_t) (v := (fX0_stonesOf w_t p0)) rfl) gX0_areaOf_X0_stonesOf rfl rfl rfl rfl q_X0_stonesOf ⟨Nat.le_of_ble_eq_true rfl, Nat.le_of_ble_eq_true rfl⟩ rfl rfl (Nat.le_of_ble_eq_true rfl) hl.1 dX0_areaOf_2 ⟨Nat.le_of_ble_eq_true rfl, Nat.le_of_ble_eq_true rfl⟩) ?_
  refine mw_ci (mw_runS (As := [.long (fX0_stonesOf w_t p0)]) (rest := []) hC hM hS (c_J13_bitCount_95d88 (p0 := (fX0_stonesOf w_t p0)) (v := (fJ13_bitCount_95d88 (fX0_stonesOf w_t p0))) rfl) gX0_areaOf_J13_bitCount_95d88 rfl rfl rfl q_J13_bitCount_95d88 ⟨Nat.le_of_ble_eq_true rfl, Nat.le_of_ble_eq_true rfl⟩ rfl rfl (Nat.le_of_ble_eq_true rfl) hl.1 dX0_areaOf_5 ⟨Nat.le_of_ble_eq_true rfl, Nat.le_of_ble_eq_true rfl⟩) ?_
  refine lv_aload_n hx hb dX0_areaOf_8 rfl (lv_at hl 0 rfl) ?_
  refine mw_get (ci := 0) (C := RX0) (T := TX0) (N := 11) (v := .ref a_t_grid) hC i_X0_areaOf_X0 hM hc_t rfl 2 (by decide) l_X0_areaOf_0 rfl rfl dX0_areaOf_9 ?_
  refine lv_aload_n hx hb dX0_areaOf_12 rfl (lv_at hl 0 rfl) ?_
  refine lv_iload_n hx hb dX0_areaOf_13 rfl (lv_at hl 1 rfl) ?_
  refine mw_cl (mw_runV (As := [.int p0]) (rest := [.ref a_t_grid, .int (fJ13_bitCount_95d88 (fX0_stonesOf w_t p0))]) (ci := 0) (C := RX0) (T := TX0) (N := 11) hC hM hS hc_t rfl (c_X0_stonesOf (a_t := a_t) (a_t_before0 := a_t_before0) (a_t_before1 := a_t_before1) (a_t_grid := a_t_grid) (w_t := w_t) (p0 := p0) (hc_t := hc_t) (v := (fX0_stonesOf w_t p0)) rfl) gX0_areaOf_X0_stonesOf rfl rfl rfl rfl q_X0_stonesOf ⟨Nat.le_of_ble_eq_true rfl, Nat.le_of_ble_eq_true rfl⟩ rfl rfl (Nat.le_of_ble_eq_true rfl) hl.1 dX0_areaOf_14 ⟨Nat.le_of_ble_eq_true rfl, Nat.le_of_ble_eq_true rfl⟩) ?_
  refine lv_aload_n hx hb dX0_areaOf_17 rfl (lv_at hl 0 rfl) ?_
  refine lv_iconst (v := 1) hx hb dX0_areaOf_18 (by decide) ?_
  refine lv_iload_n hx hb dX0_areaOf_19 rfl (lv_at hl 1 rfl) ?_
  refine lv_isub hx hb dX0_areaOf_20 ?_
  refine mw_cl (mw_runV (As := [.int (1 - p0)]) (rest := [.long (fX0_stonesOf w_t p0), .ref a_t_grid, .int (fJ13_bitCount_95d88 (fX0_stonesOf w_t p0))]) (ci := 0) (C := RX0) (T := TX0) (N := 11) hC hM hS hc_t rfl (c_X0_stonesOf (a_t := a_t) (a_t_before0 := a_t_before0) (a_t_before1 := a_t_before1) (a_t_grid := a_t_grid) (w_t := w_t) (p0 := (1 - p0)) (hc_t := hc_t) (v := (fX0_stonesOf w_t (1 - p0))) rfl) gX0_areaOf_X0_stonesOf rfl rfl rfl rfl q_X0_stonesOf ⟨Nat.le_of_ble_eq_true rfl, Nat.le_of_ble_eq_true rfl⟩ rfl rfl (Nat.le_of_ble_eq_true rfl) hl.1 dX0_areaOf_21 ⟨Nat.le_of_ble_eq_true rfl, Nat.le_of_ble_eq_true rfl⟩) ?_
  obtain ⟨r1, hr1, h⟩ := ob_some h
  refine mw_cl (mw_runV (As := [.long (fX0_stonesOf w_t p0), .long (fX0_stonesOf w_t (1 - p0))]) (rest := [.int (fJ13_bitCount_95d88 (fX0_stonesOf w_t p0))]) (ci := 2) (C := RX2) (T := TX2) (N := 5) hC hM hS hc_t_grid rfl (c_X2_enclosed (a_t := a_t_grid) (w_t := w_t_grid) (p0 := (fX0_stonesOf w_t p0)) (p1 := (fX0_stonesOf w_t (1 - p0))) (hc_t := hc_t_grid) (v := r1) hr1) gX0_areaOf_X2_enclosed rfl rfl rfl rfl q_X2_enclosed ⟨Nat.le_of_ble_eq_true rfl, Nat.le_of_ble_eq_true rfl⟩ rfl rfl (Nat.le_of_ble_eq_true rfl) hl.1 dX0_areaOf_24 ⟨Nat.le_of_ble_eq_true rfl, Nat.le_of_ble_eq_true rfl⟩) ?_
  refine mw_ci (mw_runS (As := [.long r1]) (rest := [.int (fJ13_bitCount_95d88 (fX0_stonesOf w_t p0))]) hC hM hS (c_J13_bitCount_95d88 (p0 := r1) (v := (fJ13_bitCount_95d88 r1)) rfl) gX0_areaOf_J13_bitCount_95d88 rfl rfl rfl q_J13_bitCount_95d88 ⟨Nat.le_of_ble_eq_true rfl, Nat.le_of_ble_eq_true rfl⟩ rfl rfl (Nat.le_of_ble_eq_true rfl) hl.1 dX0_areaOf_27 ⟨Nat.le_of_ble_eq_true rfl, Nat.le_of_ble_eq_true rfl⟩) ?_
  refine lv_iadd hx hb dX0_areaOf_30 ?_
  cases h
  exact W.iret hx hb hr (fun t ht hW => ⟨_, rfl, rfl, ht⟩) (fun _ h9 => by cases h9) dX0_areaOf_31 hlocks
theorem l_X2_eyes_0 : Cond.fieldLink RX2 18 "CornerStones$Grid" "all" "J" ∈ wsX2_eyes := (List.mem_cons_of_mem _ (List.mem_append_left _ (List.mem_of_getElem? (i := 0) rfl)))
theorem i_X2_eyes_X2 : ∀ w ∈ wsX20, w ∈ wsX2_eyes := fun _ h => (List.mem_cons_of_mem _ (List.mem_append_right _ h))
theorem l_X2_eyes_2 : Cond.constantLong RX2 22 (-1) ∈ wsX2_eyes := (List.mem_cons_of_mem _ (List.mem_append_left _ (List.mem_of_getElem? (i := 1) rfl)))
theorem q_X2_eyes : yX2_eyes.cls ≠ "java/lang/invoke/MethodHandle" ∧ yX2_eyes.cls ≠ "java/lang/invoke/VarHandle" ∧ (parseMethodDescriptor yX2_eyes.desc).map (fun d => d.parameters.length) = some 2 := by decide +kernel
def fX2_eyes (w_t : Int32 × Int32 × Int64 × Int64 × Int64) (p0 : Int64) (p1 : Int64) : Int64 := (((w_t.2.2.1 &&& ((p0 ||| p1) ^^^ (-1))) &&& ((fX2_around w_t (w_t.2.2.1 &&& (p0 ^^^ (-1)))) ^^^ (-1))))
set_option maxHeartbeats 4000000 in
set_option maxRecDepth 100000 in
theorem c_X2_eyes {l : Launch} {z : Nat} {D : va_G} {K : Nat → ClassId} {σ : mwm} {a_t : Nat} {w_t : Int32 × Int32 × Int64 × Int64 × Int64} {p0 : Int64} {p1 : Int64} (hc_t : σ a_t = some (cl2  w_t)) {v : Int64} (h : fX2_eyes w_t p0 p1 = v) : Met l yX2_eyes wsX2_eyes ({ frames := 1, cells := 0, slots := 0, locals := 22 } : Room) (PCm z D K [.ref a_t, .long p0, .long p1] σ) (qsL v) 0 0 (fun _ => False) := by
  refine mt_enter (cc := cX2_eyes) (maxL := 5) (ret := (some .long)) (own := RX2) (lv := [(0, .ref a_t), (1, .long p0), (3, .long p1)]) (by decide) rfl rfl (Nat.le_of_ble_eq_true rfl) rfl ?_
  intro p e s m below meth c ls hC hx hb hown hts hK hr hlocks hnm hz hM hS hl
  unfold fX2_eyes at h
  refine lv_aload_n hx hb dX2_eyes_0 rfl (lv_at hl 0 rfl) ?_
  refine mw_get (ci := 2) (C := RX2) (T := TX2) (N := 5) (v := .long w_t.2.2.1) hC i_X2_eyes_X2 hM hc_t rfl 2 (by decide) l_X2_eyes_0 rfl rfl dX2_eyes_1 ?_
  refine lv_lload_n hx hb dX2_eyes_4 rfl (lv_at hl 1 rfl) ?_
  refine lv_lload_n hx hb dX2_eyes_5 rfl (lv_at hl 2 rfl) ?_
  refine lv_lor hx hb dX2_eyes_6 ?_
  refine lv_ldc2 (v := -1) hx hb hown (hts _ l_X2_eyes_2) dX2_eyes_7 ?_
  refine lv_lxor hx hb dX2_eyes_10 ?_
  refine lv_land hx hb dX2_eyes_11 ?_
  refine lv_aload_n hx hb dX2_eyes_12 rfl (lv_at hl 0 rfl) ?_
  refine lv_aload_n hx hb dX2_eyes_13 rfl (lv_at hl 0 rfl) ?_
  refine mw_get (ci := 2) (C := RX2) (T := TX2) (N := 5) (v := .long w_t.2.2.1) hC i_X2_eyes_X2 hM hc_t rfl 2 (by decide) l_X2_eyes_0 rfl rfl dX2_eyes_14 ?_
  refine lv_lload_n hx hb dX2_eyes_17 rfl (lv_at hl 1 rfl) ?_
  refine lv_ldc2 (v := -1) hx hb hown (hts _ l_X2_eyes_2) dX2_eyes_18 ?_
  refine lv_lxor hx hb dX2_eyes_21 ?_
  refine lv_land hx hb dX2_eyes_22 ?_
  refine mw_cl (mw_runV (As := [.long (w_t.2.2.1 &&& (p0 ^^^ (-1)))]) (rest := [.long (w_t.2.2.1 &&& ((p0 ||| p1) ^^^ (-1)))]) (ci := 2) (C := RX2) (T := TX2) (N := 5) hC hM hS hc_t rfl (c_X2_around (a_t := a_t) (w_t := w_t) (p0 := (w_t.2.2.1 &&& (p0 ^^^ (-1)))) (hc_t := hc_t) (v := (fX2_around w_t (w_t.2.2.1 &&& (p0 ^^^ (-1))))) rfl) gX2_eyes_X2_around rfl rfl rfl rfl q_X2_around ⟨Nat.le_of_ble_eq_true rfl, Nat.le_of_ble_eq_true rfl⟩ rfl rfl (Nat.le_of_ble_eq_true rfl) hl.1 dX2_eyes_23 ⟨Nat.le_of_ble_eq_true rfl, Nat.le_of_ble_eq_true rfl⟩) ?_
  refine lv_ldc2 (v := -1) hx hb hown (hts _ l_X2_eyes_2) dX2_eyes_26 ?_
  refine lv_lxor hx hb dX2_eyes_29 ?_
  refine lv_land hx hb dX2_eyes_30 ?_
  subst h
  exact W.lret hx hb hr (fun t ht hW => ⟨_, rfl, rfl, ht⟩) (fun _ h9 => by cases h9) dX2_eyes_31 hlocks
theorem l_X2_across_0 : Cond.fieldLink RX2 9 "CornerStones$Grid" "rows" "I" ∈ wsX2_across := (List.mem_cons_of_mem _ (List.mem_append_left _ (List.mem_of_getElem? (i := 0) rfl)))
theorem i_X2_across_X2 : ∀ w ∈ wsX20, w ∈ wsX2_across := fun _ h => (List.mem_cons_of_mem _ (List.mem_append_right _ h))
theorem l_X2_across_2 : Cond.fieldLink RX2 18 "CornerStones$Grid" "all" "J" ∈ wsX2_across := (List.mem_cons_of_mem _ (List.mem_append_left _ (List.mem_of_getElem? (i := 1) rfl)))
theorem l_X2_across_3 : Cond.fieldLink RX2 24 "CornerStones$Grid" "notFirst" "J" ∈ wsX2_across := (List.mem_cons_of_mem _ (List.mem_append_left _ (List.mem_of_getElem? (i := 2) rfl)))
theorem l_X2_across_4 : Cond.fieldLink RX2 27 "CornerStones$Grid" "notLast" "J" ∈ wsX2_across := (List.mem_cons_of_mem _ (List.mem_append_left _ (List.mem_of_getElem? (i := 3) rfl)))
theorem q_X2_across : yX2_across.cls ≠ "java/lang/invoke/MethodHandle" ∧ yX2_across.cls ≠ "java/lang/invoke/VarHandle" ∧ (parseMethodDescriptor yX2_across.desc).map (fun d => d.parameters.length) = some 1 := by decide +kernel
def fX2_across (w_t : Int32 × Int32 × Int64 × Int64 × Int64) (p0 : Int64) : Int64 := bnd (((shlL p0 w_t.1) ||| (ushrL p0 w_t.1)) &&& w_t.2.2.1) fun v1 => ((((shlL v1 1) &&& w_t.2.2.2.1) ||| ((ushrL v1 1) &&& w_t.2.2.2.2)))
set_option maxHeartbeats 4000000 in
set_option maxRecDepth 100000 in
theorem c_X2_across {l : Launch} {z : Nat} {D : va_G} {K : Nat → ClassId} {σ : mwm} {a_t : Nat} {w_t : Int32 × Int32 × Int64 × Int64 × Int64} {p0 : Int64} (hc_t : σ a_t = some (cl2  w_t)) {v : Int64} (h : fX2_across w_t p0 = v) : Met l yX2_across wsX2_across ({ frames := 0, cells := 0, slots := 0, locals := 0 } : Room) (PCm z D K [.ref a_t, .long p0] σ) (qsL v) 0 0 (fun _ => False) := by
  refine mt_enter (cc := cX2_across) (maxL := 5) (ret := (some .long)) (own := RX2) (lv := [(0, .ref a_t), (1, .long p0)]) (by decide) rfl rfl (Nat.le_of_ble_eq_true rfl) rfl ?_
  intro p e s m below meth c ls hC hx hb hown hts hK hr hlocks hnm hz hM hS hl
  unfold fX2_across at h
  refine lv_lload_n hx hb dX2_across_0 rfl (lv_at hl 1 rfl) ?_
  refine lv_aload_n hx hb dX2_across_1 rfl (lv_at hl 0 rfl) ?_
  refine mw_get (ci := 2) (C := RX2) (T := TX2) (N := 5) (v := .int w_t.1) hC i_X2_across_X2 hM hc_t rfl 0 (by decide) l_X2_across_0 rfl rfl dX2_across_2 ?_
  refine lv_lshl (v := (shlL p0 w_t.1)) hx hb dX2_across_5 rfl ?_
  refine lv_lload_n hx hb dX2_across_6 rfl (lv_at hl 1 rfl) ?_
  refine lv_aload_n hx hb dX2_across_7 rfl (lv_at hl 0 rfl) ?_
  refine mw_get (ci := 2) (C := RX2) (T := TX2) (N := 5) (v := .int w_t.1) hC i_X2_across_X2 hM hc_t rfl 0 (by decide) l_X2_across_0 rfl rfl dX2_across_8 ?_
  refine lv_lushr (v := (ushrL p0 w_t.1)) hx hb dX2_across_11 rfl ?_
  refine lv_lor hx hb dX2_across_12 ?_
  refine lv_aload_n hx hb dX2_across_13 rfl (lv_at hl 0 rfl) ?_
  refine mw_get (ci := 2) (C := RX2) (T := TX2) (N := 5) (v := .long w_t.2.2.1) hC i_X2_across_X2 hM hc_t rfl 2 (by decide) l_X2_across_2 rfl rfl dX2_across_14 ?_
  refine lv_land hx hb dX2_across_17 ?_
  refine lv_topl (fun v1 ev1 => ?_)
  replace h := bnd_at ev1 h
  refine lv_lstore_n (lv' := [(3, .long v1), (0, .ref a_t), (1, .long p0)]) hx hb dX2_across_18 rfl hl (by decide) rfl (fun ls hl => ?_)
  refine lv_lload_n hx hb dX2_across_19 rfl (lv_at hl 0 rfl) ?_
  refine lv_iconst (v := 1) hx hb dX2_across_20 (by decide) ?_
  refine lv_lshl (v := (shlL v1 1)) hx hb dX2_across_21 rfl ?_
  refine lv_aload_n hx hb dX2_across_22 rfl (lv_at hl 1 rfl) ?_
  refine mw_get (ci := 2) (C := RX2) (T := TX2) (N := 5) (v := .long w_t.2.2.2.1) hC i_X2_across_X2 hM hc_t rfl 3 (by decide) l_X2_across_3 rfl rfl dX2_across_23 ?_
  refine lv_land hx hb dX2_across_26 ?_
  refine lv_lload_n hx hb dX2_across_27 rfl (lv_at hl 0 rfl) ?_
  refine lv_iconst (v := 1) hx hb dX2_across_28 (by decide) ?_
  refine lv_lushr (v := (ushrL v1 1)) hx hb dX2_across_29 rfl ?_
  refine lv_aload_n hx hb dX2_across_30 rfl (lv_at hl 1 rfl) ?_
  refine mw_get (ci := 2) (C := RX2) (T := TX2) (N := 5) (v := .long w_t.2.2.2.2) hC i_X2_across_X2 hM hc_t rfl 4 (by decide) l_X2_across_4 rfl rfl dX2_across_31 ?_
  refine lv_land hx hb dX2_across_34 ?_
  refine lv_lor hx hb dX2_across_35 ?_
  subst h
  exact W.lret hx hb hr (fun t ht hW => ⟨_, rfl, rfl, ht⟩) (fun _ h9 => by cases h9) dX2_across_36 hlocks
theorem q_X2_falseAmong : yX2_falseAmong.cls ≠ "java/lang/invoke/MethodHandle" ∧ yX2_falseAmong.cls ≠ "java/lang/invoke/VarHandle" ∧ (parseMethodDescriptor yX2_falseAmong.desc).map (fun d => d.parameters.length) = some 2 := by decide +kernel
def fX2_falseAmong_9 (w_t : Int32 × Int32 × Int64 × Int64 × Int64) (p0 : Int64) (p1 : Int64) : Nat → Int64 → Int64 → Int32 → Option (Int64)
  | 0, _, _, _ => none
  | fu + 1, x5, x7, x9 => if 49 ≤ x9 then (some (x5)) else (if x7 = 0 then (some (x5)) else (bnd (fX2_across w_t (x7 &&& (-x7))) fun v3 => if 4 ≤ (fJ13_bitCount_95d88 v3) then (if (fJ13_bitCount_95d88 (v3 &&& p1)) < 2 then (fX2_falseAmong_9 w_t p0 p1 fu x5 (x7 ^^^ (x7 &&& (-x7))) (x9 + 1)) else (fX2_falseAmong_9 w_t p0 p1 fu (x5 ||| (x7 &&& (-x7))) (x7 ^^^ (x7 &&& (-x7))) (x9 + 1))) else (if (fJ13_bitCount_95d88 (v3 &&& p1)) < 1 then (fX2_falseAmong_9 w_t p0 p1 fu x5 (x7 ^^^ (x7 &&& (-x7))) (x9 + 1)) else (fX2_falseAmong_9 w_t p0 p1 fu (x5 ||| (x7 &&& (-x7))) (x7 ^^^ (x7 &&& (-x7))) (x9 + 1)))))
def fX2_falseAmong (w_t : Int32 × Int32 × Int64 × Int64 × Int64) (p0 : Int64) (p1 : Int64) : Option (Int64) := fX2_falseAmong_9 w_t p0 p1 5000 0 p0 0 
set_option maxHeartbeats 4000000 in
set_option maxRecDepth 100000 in
theorem c_X2_falseAmong {l : Launch} {z : Nat} {D : va_G} {K : Nat → ClassId} {σ : mwm} {a_t : Nat} {w_t : Int32 × Int32 × Int64 × Int64 × Int64} {p0 : Int64} {p1 : Int64} (hc_t : σ a_t = some (cl2  w_t)) {v : Int64} (h : fX2_falseAmong w_t p0 p1 = some v) : Met l yX2_falseAmong wsX2_falseAmong ({ frames := 1, cells := 0, slots := 0, locals := 24 } : Room) (PCm z D K [.ref a_t, .long p0, .long p1] σ) (qsL v) 0 0 (fun _ => False) := by
  refine mt_enter (cc := cX2_falseAmong) (maxL := 15) (ret := (some .long)) (own := RX2) (lv := [(0, .ref a_t), (1, .long p0), (3, .long p1)]) (by decide) rfl rfl (Nat.le_of_ble_eq_true rfl) rfl ?_
  intro p e s m below meth c ls hC hx hb hown hts hK hr hlocks hnm hz hM hS hl
  unfold fX2_falseAmong at h
  refine lv_lconst (v := 0) hx hb dX2_falseAmong_0 (by decide) ?_
  refine lv_lstore (lv' := [(5, .long 0), (0, .ref a_t), (1, .long p0), (3, .long p1)]) hx hb dX2_falseAmong_1 hl (by decide) rfl (fun ls hl => ?_)
  refine lv_lload_n hx hb dX2_falseAmong_3 rfl (lv_at hl 2 rfl) ?_
  refine lv_lstore (lv' := [(7, .long p0), (5, .long 0), (0, .ref a_t), (1, .long p0), (3, .long p1)]) hx hb dX2_falseAmong_4 hl (by decide) rfl (fun ls hl => ?_)
  refine lv_iconst (v := 0) hx hb dX2_falseAmong_6 (by decide) ?_
  refine lv_istore (lv' := [(9, .int 0), (7, .long p0), (5, .long 0), (0, .ref a_t), (1, .long p0), (3, .long p1)]) hx hb dX2_falseAmong_7 hl (by decide) rfl (fun ls hl => ?_)
  have L9 : ∀ (fu0 : Nat) (x5 : Int64) (x7 : Int64) (x9 : Int32), fX2_falseAmong_9 w_t p0 p1 fu0 x5 x7 x9 = some v → ∀ ls : Array Slot, lv_has ls 15 [(9, .int x9), (7, .long x7), (5, .long x5), (0, .ref a_t), (3, .long p1)] → W p l e ({ frames := 1, cells := 0, slots := 0, locals := 24 } : Room) s m ([.ref a_t, .long p0, .long p1] : List Value).toArray below meth c s.heap [] 0 0 (MQ below (qsL v) ([.ref a_t, .long p0, .long p1] : List Value).toArray s 0 0 (fun _ => False)) (F0 m 9 ls []) := by
    intro fu0
    induction fu0 with
    | zero =>
      intro x5 x7 x9 h
      unfold fX2_falseAmong_9 at h
      cases h
    | succ fu0 ih0 =>
      intro x5 x7 x9 h ls hl
      unfold fX2_falseAmong_9 at h
      refine lv_iload hx hb dX2_falseAmong_9 (lv_at hl 0 rfl) ?_
      refine lv_bipush (v := 49) hx hb dX2_falseAmong_11 (by decide) ?_
      refine lv_icmp_ge (tgt := 87) hx hb dX2_falseAmong_13 (by decide) (fun c1 => ?_) (fun c1 => ?_)
      · replace h := it_pos c1 h
        refine lv_lload hx hb dX2_falseAmong_87 (lv_at hl 2 rfl) ?_
        cases h
        exact W.lret hx hb hr (fun t ht hW => ⟨_, rfl, rfl, ht⟩) (fun _ h9 => by cases h9) dX2_falseAmong_89 hlocks
      · replace h := it_neg c1 h
        refine lv_lload hx hb dX2_falseAmong_16 (lv_at hl 1 rfl) ?_
        refine lv_lconst (v := 0) hx hb dX2_falseAmong_18 (by decide) ?_
        refine W.lcmp hx hb dX2_falseAmong_19 ?_
        refine lv_if_eq (tgt := 87) hx hb dX2_falseAmong_20 (by decide) (fun c2 => ?_) (fun c2 => ?_)
        · replace c2 := (lg_cmp_eq _ _).mp c2
          replace h := it_pos c2 h
          refine lv_lload hx hb dX2_falseAmong_87 (lv_at hl 2 rfl) ?_
          cases h
          exact W.lret hx hb hr (fun t ht hW => ⟨_, rfl, rfl, ht⟩) (fun _ h9 => by cases h9) dX2_falseAmong_89 hlocks
        · replace c2 := mt (lg_cmp_eq _ _).mpr c2
          replace h := it_neg c2 h
          refine lv_lload hx hb dX2_falseAmong_23 (lv_at hl 1 rfl) ?_
          refine lv_lload hx hb dX2_falseAmong_25 (lv_at hl 1 rfl) ?_
          refine lv_lneg hx hb dX2_falseAmong_27 ?_
          refine lv_land hx hb dX2_falseAmong_28 ?_
          refine lv_lstore (lv' := [(10, .long (x7 &&& (-x7))), (9, .int x9), (7, .long x7), (5, .long x5), (0, .ref a_t), (3, .long p1)]) hx hb dX2_falseAmong_29 hl (by decide) rfl (fun ls hl => ?_)
          refine lv_aload_n hx hb dX2_falseAmong_31 rfl (lv_at hl 4 rfl) ?_
          refine lv_lload hx hb dX2_falseAmong_32 (lv_at hl 0 rfl) ?_
          refine mw_cl (mw_runV (As := [.long (x7 &&& (-x7))]) (rest := []) (ci := 2) (C := RX2) (T := TX2) (N := 5) hC hM hS hc_t rfl (c_X2_across (a_t := a_t) (w_t := w_t) (p0 := (x7 &&& (-x7))) (hc_t := hc_t) (v := (fX2_across w_t (x7 &&& (-x7)))) rfl) gX2_falseAmong_X2_across rfl rfl rfl rfl q_X2_across ⟨Nat.le_of_ble_eq_true rfl, Nat.le_of_ble_eq_true rfl⟩ rfl rfl (Nat.le_of_ble_eq_true rfl) hl.1 dX2_falseAmong_34 ⟨Nat.le_of_ble_eq_true rfl, Nat.le_of_ble_eq_true rfl⟩) ?_
          refine lv_topl (fun v3 ev3 => ?_)
          replace h := bnd_at ev3 h
          refine lv_lstore (lv' := [(12, .long v3), (10, .long (x7 &&& (-x7))), (9, .int x9), (7, .long x7), (5, .long x5), (0, .ref a_t), (3, .long p1)]) hx hb dX2_falseAmong_37 hl (by decide) rfl (fun ls hl => ?_)
          refine lv_lload hx hb dX2_falseAmong_39 (lv_at hl 0 rfl) ?_
          refine mw_ci (mw_runS (As := [.long v3]) (rest := []) hC hM hS (c_J13_bitCount_95d88 (p0 := v3) (v := (fJ13_bitCount_95d88 v3)) rfl) gX2_falseAmong_J13_bitCount_95d88 rfl rfl rfl q_J13_bitCount_95d88 ⟨Nat.le_of_ble_eq_true rfl, Nat.le_of_ble_eq_true rfl⟩ rfl rfl (Nat.le_of_ble_eq_true rfl) hl.1 dX2_falseAmong_41 ⟨Nat.le_of_ble_eq_true rfl, Nat.le_of_ble_eq_true rfl⟩) ?_
          refine lv_iconst (v := 4) hx hb dX2_falseAmong_44 (by decide) ?_
          refine lv_icmp_ge (tgt := 52) hx hb dX2_falseAmong_45 (by decide) (fun c4 => ?_) (fun c4 => ?_)
          · replace h := it_pos c4 h
            refine lv_iconst (v := 2) hx hb dX2_falseAmong_52 (by decide) ?_
            refine lv_istore (lv' := [(14, .int 2), (12, .long v3), (10, .long (x7 &&& (-x7))), (9, .int x9), (7, .long x7), (5, .long x5), (0, .ref a_t), (3, .long p1)]) hx hb dX2_falseAmong_53 hl (by decide) rfl (fun ls hl => ?_)
            refine lv_lload hx hb dX2_falseAmong_55 (lv_at hl 1 rfl) ?_
            refine lv_lload_n hx hb dX2_falseAmong_57 rfl (lv_at hl 7 rfl) ?_
            refine lv_land hx hb dX2_falseAmong_58 ?_
            refine mw_ci (mw_runS (As := [.long (v3 &&& p1)]) (rest := []) hC hM hS (c_J13_bitCount_95d88 (p0 := (v3 &&& p1)) (v := (fJ13_bitCount_95d88 (v3 &&& p1))) rfl) gX2_falseAmong_J13_bitCount_95d88 rfl rfl rfl q_J13_bitCount_95d88 ⟨Nat.le_of_ble_eq_true rfl, Nat.le_of_ble_eq_true rfl⟩ rfl rfl (Nat.le_of_ble_eq_true rfl) hl.1 dX2_falseAmong_59 ⟨Nat.le_of_ble_eq_true rfl, Nat.le_of_ble_eq_true rfl⟩) ?_
            refine lv_iload hx hb dX2_falseAmong_62 (lv_at hl 0 rfl) ?_
            refine lv_icmp_lt (tgt := 74) hx hb dX2_falseAmong_64 (by decide) (fun c5 => ?_) (fun c5 => ?_)
            · replace h := it_pos c5 h
              refine lv_lload hx hb dX2_falseAmong_74 (lv_at hl 4 rfl) ?_
              refine lv_lload hx hb dX2_falseAmong_76 (lv_at hl 2 rfl) ?_
              refine lv_lxor hx hb dX2_falseAmong_78 ?_
              refine lv_lstore (lv' := [(7, .long (x7 ^^^ (x7 &&& (-x7)))), (14, .int 2), (12, .long v3), (10, .long (x7 &&& (-x7))), (9, .int x9), (5, .long x5), (0, .ref a_t), (3, .long p1)]) hx hb dX2_falseAmong_79 hl (by decide) rfl (fun ls hl => ?_)
              refine lv_iinc (v := (x9 + 1)) (lv' := [(9, .int (x9 + 1)), (7, .long (x7 ^^^ (x7 &&& (-x7)))), (14, .int 2), (12, .long v3), (10, .long (x7 &&& (-x7))), (5, .long x5), (0, .ref a_t), (3, .long p1)]) hx hb dX2_falseAmong_81 hl (k := 4) rfl rfl (by decide) rfl (fun ls hl => ?_)
              refine lv_goto (tgt := 9) hx hb dX2_falseAmong_84 (by decide) ?_
              exact ih0 x5 (x7 ^^^ (x7 &&& (-x7))) (x9 + 1) h ls (lv_sub hl [0, 1, 5, 6, 7] rfl)
            · replace h := it_neg c5 h
              refine lv_lload hx hb dX2_falseAmong_67 (lv_at hl 5 rfl) ?_
              refine lv_lload hx hb dX2_falseAmong_69 (lv_at hl 2 rfl) ?_
              refine lv_lor hx hb dX2_falseAmong_71 ?_
              refine lv_lstore (lv' := [(5, .long (x5 ||| (x7 &&& (-x7)))), (14, .int 2), (12, .long v3), (10, .long (x7 &&& (-x7))), (9, .int x9), (7, .long x7), (0, .ref a_t), (3, .long p1)]) hx hb dX2_falseAmong_72 hl (by decide) rfl (fun ls hl => ?_)
              refine lv_lload hx hb dX2_falseAmong_74 (lv_at hl 5 rfl) ?_
              refine lv_lload hx hb dX2_falseAmong_76 (lv_at hl 3 rfl) ?_
              refine lv_lxor hx hb dX2_falseAmong_78 ?_
              refine lv_lstore (lv' := [(7, .long (x7 ^^^ (x7 &&& (-x7)))), (5, .long (x5 ||| (x7 &&& (-x7)))), (14, .int 2), (12, .long v3), (10, .long (x7 &&& (-x7))), (9, .int x9), (0, .ref a_t), (3, .long p1)]) hx hb dX2_falseAmong_79 hl (by decide) rfl (fun ls hl => ?_)
              refine lv_iinc (v := (x9 + 1)) (lv' := [(9, .int (x9 + 1)), (7, .long (x7 ^^^ (x7 &&& (-x7)))), (5, .long (x5 ||| (x7 &&& (-x7)))), (14, .int 2), (12, .long v3), (10, .long (x7 &&& (-x7))), (0, .ref a_t), (3, .long p1)]) hx hb dX2_falseAmong_81 hl (k := 5) rfl rfl (by decide) rfl (fun ls hl => ?_)
              refine lv_goto (tgt := 9) hx hb dX2_falseAmong_84 (by decide) ?_
              exact ih0 (x5 ||| (x7 &&& (-x7))) (x7 ^^^ (x7 &&& (-x7))) (x9 + 1) h ls (lv_sub hl [0, 1, 2, 6, 7] rfl)
          · replace h := it_neg c4 h
            refine lv_iconst (v := 1) hx hb dX2_falseAmong_48 (by decide) ?_
            refine lv_goto (tgt := 53) hx hb dX2_falseAmong_49 (by decide) ?_
            refine lv_istore (lv' := [(14, .int 1), (12, .long v3), (10, .long (x7 &&& (-x7))), (9, .int x9), (7, .long x7), (5, .long x5), (0, .ref a_t), (3, .long p1)]) hx hb dX2_falseAmong_53 hl (by decide) rfl (fun ls hl => ?_)
            refine lv_lload hx hb dX2_falseAmong_55 (lv_at hl 1 rfl) ?_
            refine lv_lload_n hx hb dX2_falseAmong_57 rfl (lv_at hl 7 rfl) ?_
            refine lv_land hx hb dX2_falseAmong_58 ?_
            refine mw_ci (mw_runS (As := [.long (v3 &&& p1)]) (rest := []) hC hM hS (c_J13_bitCount_95d88 (p0 := (v3 &&& p1)) (v := (fJ13_bitCount_95d88 (v3 &&& p1))) rfl) gX2_falseAmong_J13_bitCount_95d88 rfl rfl rfl q_J13_bitCount_95d88 ⟨Nat.le_of_ble_eq_true rfl, Nat.le_of_ble_eq_true rfl⟩ rfl rfl (Nat.le_of_ble_eq_true rfl) hl.1 dX2_falseAmong_59 ⟨Nat.le_of_ble_eq_true rfl, Nat.le_of_ble_eq_true rfl⟩) ?_
            refine lv_iload hx hb dX2_falseAmong_62 (lv_at hl 0 rfl) ?_
            refine lv_icmp_lt (tgt := 74) hx hb dX2_falseAmong_64 (by decide) (fun c6 => ?_) (fun c6 => ?_)
            · replace h := it_pos c6 h
              refine lv_lload hx hb dX2_falseAmong_74 (lv_at hl 4 rfl) ?_
              refine lv_lload hx hb dX2_falseAmong_76 (lv_at hl 2 rfl) ?_
              refine lv_lxor hx hb dX2_falseAmong_78 ?_
              refine lv_lstore (lv' := [(7, .long (x7 ^^^ (x7 &&& (-x7)))), (14, .int 1), (12, .long v3), (10, .long (x7 &&& (-x7))), (9, .int x9), (5, .long x5), (0, .ref a_t), (3, .long p1)]) hx hb dX2_falseAmong_79 hl (by decide) rfl (fun ls hl => ?_)
              refine lv_iinc (v := (x9 + 1)) (lv' := [(9, .int (x9 + 1)), (7, .long (x7 ^^^ (x7 &&& (-x7)))), (14, .int 1), (12, .long v3), (10, .long (x7 &&& (-x7))), (5, .long x5), (0, .ref a_t), (3, .long p1)]) hx hb dX2_falseAmong_81 hl (k := 4) rfl rfl (by decide) rfl (fun ls hl => ?_)
              refine lv_goto (tgt := 9) hx hb dX2_falseAmong_84 (by decide) ?_
              exact ih0 x5 (x7 ^^^ (x7 &&& (-x7))) (x9 + 1) h ls (lv_sub hl [0, 1, 5, 6, 7] rfl)
            · replace h := it_neg c6 h
              refine lv_lload hx hb dX2_falseAmong_67 (lv_at hl 5 rfl) ?_
              refine lv_lload hx hb dX2_falseAmong_69 (lv_at hl 2 rfl) ?_
              refine lv_lor hx hb dX2_falseAmong_71 ?_
              refine lv_lstore (lv' := [(5, .long (x5 ||| (x7 &&& (-x7)))), (14, .int 1), (12, .long v3), (10, .long (x7 &&& (-x7))), (9, .int x9), (7, .long x7), (0, .ref a_t), (3, .long p1)]) hx hb dX2_falseAmong_72 hl (by decide) rfl (fun ls hl => ?_)
              refine lv_lload hx hb dX2_falseAmong_74 (lv_at hl 5 rfl) ?_
              refine lv_lload hx hb dX2_falseAmong_76 (lv_at hl 3 rfl) ?_
              refine lv_lxor hx hb dX2_falseAmong_78 ?_
              refine lv_lstore (lv' := [(7, .long (x7 ^^^ (x7 &&& (-x7)))), (5, .long (x5 ||| (x7 &&& (-x7)))), (14, .int 1), (12, .long v3), (10, .long (x7 &&& (-x7))), (9, .int x9), (0, .ref a_t), (3, .long p1)]) hx hb dX2_falseAmong_79 hl (by decide) rfl (fun ls hl => ?_)
              refine lv_iinc (v := (x9 + 1)) (lv' := [(9, .int (x9 + 1)), (7, .long (x7 ^^^ (x7 &&& (-x7)))), (5, .long (x5 ||| (x7 &&& (-x7)))), (14, .int 1), (12, .long v3), (10, .long (x7 &&& (-x7))), (0, .ref a_t), (3, .long p1)]) hx hb dX2_falseAmong_81 hl (k := 5) rfl rfl (by decide) rfl (fun ls hl => ?_)
              refine lv_goto (tgt := 9) hx hb dX2_falseAmong_84 (by decide) ?_
              exact ih0 (x5 ||| (x7 &&& (-x7))) (x7 ^^^ (x7 &&& (-x7))) (x9 + 1) h ls (lv_sub hl [0, 1, 2, 6, 7] rfl)
  exact L9 5000 0 p0 0  h ls (lv_sub hl [0, 1, 2, 3, 5] rfl)
theorem l_X0_falseEyes_0 : Cond.fieldLink RX0 18 "CornerStones$Game" "grid" "LCornerStones$Grid;" ∈ wsX0_falseEyes := (List.mem_cons_of_mem _ (List.mem_append_left _ (List.mem_append_left _ (List.mem_append_left _ (List.mem_of_getElem? (i := 0) rfl)))))
theorem i_X0_falseEyes_X0 : ∀ w ∈ wsX00, w ∈ wsX0_falseEyes := fun _ h => (List.mem_cons_of_mem _ (List.mem_append_left _ (List.mem_append_right _ h)))
theorem q_X0_falseEyes : yX0_falseEyes.cls ≠ "java/lang/invoke/MethodHandle" ∧ yX0_falseEyes.cls ≠ "java/lang/invoke/VarHandle" ∧ (parseMethodDescriptor yX0_falseEyes.desc).map (fun d => d.parameters.length) = some 1 := by decide +kernel
def fX0_falseEyes (w_t : Int32 × Int32 × Int32 × Int32 × Int64 × Int64 × Int32 × Int32) (w_t_grid : Int32 × Int32 × Int64 × Int64 × Int64) (p0 : Int32) : Option (Int64) := (fX2_falseAmong w_t_grid (fX2_eyes w_t_grid (fX0_stonesOf w_t p0) (fX0_stonesOf w_t (1 - p0))) (fX0_stonesOf w_t (1 - p0))).bind fun r1 => some (r1)
set_option maxHeartbeats 4000000 in
set_option maxRecDepth 100000 in
theorem c_X0_falseEyes {l : Launch} {z : Nat} {D : va_G} {K : Nat → ClassId} {σ : mwm} {a_t a_t_before0 a_t_before1 a_t_grid : Nat} {w_t : Int32 × Int32 × Int32 × Int32 × Int64 × Int64 × Int32 × Int32} {w_t_grid : Int32 × Int32 × Int64 × Int64 × Int64} {p0 : Int32} (hc_t : σ a_t = some (cl0 a_t_before0 a_t_before1 a_t_grid w_t)) (hc_t_grid : σ a_t_grid = some (cl2  w_t_grid)) {v : Int64} (h : fX0_falseEyes w_t w_t_grid p0 = some v) : Met l yX0_falseEyes wsX0_falseEyes ({ frames := 2, cells := 0, slots := 0, locals := 58 } : Room) (PCm z D K [.ref a_t, .int p0] σ) (qsL v) 0 0 (fun _ => False) := by
  refine mt_enter (cc := cX0_falseEyes) (maxL := 2) (ret := (some .long)) (own := RX0) (lv := [(0, .ref a_t), (1, .int p0)]) (by decide) rfl rfl (Nat.le_of_ble_eq_true rfl) rfl ?_
  intro p e s m below meth c ls hC hx hb hown hts hK hr hlocks hnm hz hM hS hl
  unfold fX0_falseEyes at h
  refine lv_aload_n hx hb dX0_falseEyes_0 rfl (lv_at hl 0 rfl) ?_
  refine mw_get (ci := 0) (C := RX0) (T := TX0) (N := 11) (v := .ref a_t_grid) hC i_X0_falseEyes_X0 hM hc_t rfl 2 (by decide) l_X0_falseEyes_0 rfl rfl dX0_falseEyes_1 ?_
  refine lv_aload_n hx hb dX0_falseEyes_4 rfl (lv_at hl 0 rfl) ?_
  refine mw_get (ci := 0) (C := RX0) (T := TX0) (N := 11) (v := .ref a_t_grid) hC i_X0_falseEyes_X0 hM hc_t rfl 2 (by decide) l_X0_falseEyes_0 rfl rfl dX0_falseEyes_5 ?_
  refine lv_aload_n hx hb dX0_falseEyes_8 rfl (lv_at hl 0 rfl) ?_
  refine lv_iload_n hx hb dX0_falseEyes_9 rfl (lv_at hl 1 rfl) ?_
  refine mw_cl (mw_runV (As := [.int p0]) (rest := [.ref a_t_grid, .ref a_t_grid]) (ci := 0) (C := RX0) (T := TX0) (N := 11) hC hM hS hc_t rfl (c_X0_stonesOf (a_t := a_t) (a_t_before0 := a_t_before0) (a_t_before1 := a_t_before1) (a_t_grid := a_t_grid) (w_t := w_t) (p0 := p0) (hc_t := hc_t) (v := (fX0_stonesOf w_t p0)) rfl) gX0_falseEyes_X0_stonesOf rfl rfl rfl rfl q_X0_stonesOf ⟨Nat.le_of_ble_eq_true rfl, Nat.le_of_ble_eq_true rfl⟩ rfl rfl (Nat.le_of_ble_eq_true rfl) hl.1 dX0_falseEyes_10 ⟨Nat.le_of_ble_eq_true rfl, Nat.le_of_ble_eq_true rfl⟩) ?_
  refine lv_aload_n hx hb dX0_falseEyes_13 rfl (lv_at hl 0 rfl) ?_
  refine lv_iconst (v := 1) hx hb dX0_falseEyes_14 (by decide) ?_
  refine lv_iload_n hx hb dX0_falseEyes_15 rfl (lv_at hl 1 rfl) ?_
  refine lv_isub hx hb dX0_falseEyes_16 ?_
  refine mw_cl (mw_runV (As := [.int (1 - p0)]) (rest := [.long (fX0_stonesOf w_t p0), .ref a_t_grid, .ref a_t_grid]) (ci := 0) (C := RX0) (T := TX0) (N := 11) hC hM hS hc_t rfl (c_X0_stonesOf (a_t := a_t) (a_t_before0 := a_t_before0) (a_t_before1 := a_t_before1) (a_t_grid := a_t_grid) (w_t := w_t) (p0 := (1 - p0)) (hc_t := hc_t) (v := (fX0_stonesOf w_t (1 - p0))) rfl) gX0_falseEyes_X0_stonesOf rfl rfl rfl rfl q_X0_stonesOf ⟨Nat.le_of_ble_eq_true rfl, Nat.le_of_ble_eq_true rfl⟩ rfl rfl (Nat.le_of_ble_eq_true rfl) hl.1 dX0_falseEyes_17 ⟨Nat.le_of_ble_eq_true rfl, Nat.le_of_ble_eq_true rfl⟩) ?_
  refine mw_cl (mw_runV (As := [.long (fX0_stonesOf w_t p0), .long (fX0_stonesOf w_t (1 - p0))]) (rest := [.ref a_t_grid]) (ci := 2) (C := RX2) (T := TX2) (N := 5) hC hM hS hc_t_grid rfl (c_X2_eyes (a_t := a_t_grid) (w_t := w_t_grid) (p0 := (fX0_stonesOf w_t p0)) (p1 := (fX0_stonesOf w_t (1 - p0))) (hc_t := hc_t_grid) (v := (fX2_eyes w_t_grid (fX0_stonesOf w_t p0) (fX0_stonesOf w_t (1 - p0)))) rfl) gX0_falseEyes_X2_eyes rfl rfl rfl rfl q_X2_eyes ⟨Nat.le_of_ble_eq_true rfl, Nat.le_of_ble_eq_true rfl⟩ rfl rfl (Nat.le_of_ble_eq_true rfl) hl.1 dX0_falseEyes_20 ⟨Nat.le_of_ble_eq_true rfl, Nat.le_of_ble_eq_true rfl⟩) ?_
  refine lv_aload_n hx hb dX0_falseEyes_23 rfl (lv_at hl 0 rfl) ?_
  refine lv_iconst (v := 1) hx hb dX0_falseEyes_24 (by decide) ?_
  refine lv_iload_n hx hb dX0_falseEyes_25 rfl (lv_at hl 1 rfl) ?_
  refine lv_isub hx hb dX0_falseEyes_26 ?_
  refine mw_cl (mw_runV (As := [.int (1 - p0)]) (rest := [.long (fX2_eyes w_t_grid (fX0_stonesOf w_t p0) (fX0_stonesOf w_t (1 - p0))), .ref a_t_grid]) (ci := 0) (C := RX0) (T := TX0) (N := 11) hC hM hS hc_t rfl (c_X0_stonesOf (a_t := a_t) (a_t_before0 := a_t_before0) (a_t_before1 := a_t_before1) (a_t_grid := a_t_grid) (w_t := w_t) (p0 := (1 - p0)) (hc_t := hc_t) (v := (fX0_stonesOf w_t (1 - p0))) rfl) gX0_falseEyes_X0_stonesOf rfl rfl rfl rfl q_X0_stonesOf ⟨Nat.le_of_ble_eq_true rfl, Nat.le_of_ble_eq_true rfl⟩ rfl rfl (Nat.le_of_ble_eq_true rfl) hl.1 dX0_falseEyes_27 ⟨Nat.le_of_ble_eq_true rfl, Nat.le_of_ble_eq_true rfl⟩) ?_
  obtain ⟨r1, hr1, h⟩ := ob_some h
  refine mw_cl (mw_runV (As := [.long (fX2_eyes w_t_grid (fX0_stonesOf w_t p0) (fX0_stonesOf w_t (1 - p0))), .long (fX0_stonesOf w_t (1 - p0))]) (rest := []) (ci := 2) (C := RX2) (T := TX2) (N := 5) hC hM hS hc_t_grid rfl (c_X2_falseAmong (a_t := a_t_grid) (w_t := w_t_grid) (p0 := (fX2_eyes w_t_grid (fX0_stonesOf w_t p0) (fX0_stonesOf w_t (1 - p0)))) (p1 := (fX0_stonesOf w_t (1 - p0))) (hc_t := hc_t_grid) (v := r1) hr1) gX0_falseEyes_X2_falseAmong rfl rfl rfl rfl q_X2_falseAmong ⟨Nat.le_of_ble_eq_true rfl, Nat.le_of_ble_eq_true rfl⟩ rfl rfl (Nat.le_of_ble_eq_true rfl) hl.1 dX0_falseEyes_30 ⟨Nat.le_of_ble_eq_true rfl, Nat.le_of_ble_eq_true rfl⟩) ?_
  cases h
  exact W.lret hx hb hr (fun t ht hW => ⟨_, rfl, rfl, ht⟩) (fun _ h9 => by cases h9) dX0_falseEyes_33 hlocks
theorem l_X0_trueEyes_0 : Cond.fieldLink RX0 18 "CornerStones$Game" "grid" "LCornerStones$Grid;" ∈ wsX0_trueEyes := (List.mem_cons_of_mem _ (List.mem_append_left _ (List.mem_append_left _ (List.mem_append_left _ (List.mem_of_getElem? (i := 0) rfl)))))
theorem i_X0_trueEyes_X0 : ∀ w ∈ wsX00, w ∈ wsX0_trueEyes := fun _ h => (List.mem_cons_of_mem _ (List.mem_append_left _ (List.mem_append_right _ h)))
theorem l_X0_trueEyes_2 : Cond.constantLong RX0 83 (-1) ∈ wsX0_trueEyes := (List.mem_cons_of_mem _ (List.mem_append_left _ (List.mem_append_left _ (List.mem_append_left _ (List.mem_of_getElem? (i := 1) rfl)))))
theorem q_X0_trueEyes : yX0_trueEyes.cls ≠ "java/lang/invoke/MethodHandle" ∧ yX0_trueEyes.cls ≠ "java/lang/invoke/VarHandle" ∧ (parseMethodDescriptor yX0_trueEyes.desc).map (fun d => d.parameters.length) = some 1 := by decide +kernel
def fX0_trueEyes (w_t : Int32 × Int32 × Int32 × Int32 × Int64 × Int64 × Int32 × Int32) (w_t_grid : Int32 × Int32 × Int64 × Int64 × Int64) (p0 : Int32) : Option (Int64) := bnd (fX2_eyes w_t_grid (fX0_stonesOf w_t p0) (fX0_stonesOf w_t (1 - p0))) fun v1 => (fX2_falseAmong w_t_grid v1 (fX0_stonesOf w_t (1 - p0))).bind fun r2 => some ((v1 &&& (r2 ^^^ (-1))))
set_option maxHeartbeats 4000000 in
set_option maxRecDepth 100000 in
theorem c_X0_trueEyes {l : Launch} {z : Nat} {D : va_G} {K : Nat → ClassId} {σ : mwm} {a_t a_t_before0 a_t_before1 a_t_grid : Nat} {w_t : Int32 × Int32 × Int32 × Int32 × Int64 × Int64 × Int32 × Int32} {w_t_grid : Int32 × Int32 × Int64 × Int64 × Int64} {p0 : Int32} (hc_t : σ a_t = some (cl0 a_t_before0 a_t_before1 a_t_grid w_t)) (hc_t_grid : σ a_t_grid = some (cl2  w_t_grid)) {v : Int64} (h : fX0_trueEyes w_t w_t_grid p0 = some v) : Met l yX0_trueEyes wsX0_trueEyes ({ frames := 2, cells := 0, slots := 0, locals := 58 } : Room) (PCm z D K [.ref a_t, .int p0] σ) (qsL v) 0 0 (fun _ => False) := by
  refine mt_enter (cc := cX0_trueEyes) (maxL := 4) (ret := (some .long)) (own := RX0) (lv := [(0, .ref a_t), (1, .int p0)]) (by decide) rfl rfl (Nat.le_of_ble_eq_true rfl) rfl ?_
  intro p e s m below meth c ls hC hx hb hown hts hK hr hlocks hnm hz hM hS hl
  unfold fX0_trueEyes at h
  refine lv_aload_n hx hb dX0_trueEyes_0 rfl (lv_at hl 0 rfl) ?_
  refine mw_get (ci := 0) (C := RX0) (T := TX0) (N := 11) (v := .ref a_t_grid) hC i_X0_trueEyes_X0 hM hc_t rfl 2 (by decide) l_X0_trueEyes_0 rfl rfl dX0_trueEyes_1 ?_
  refine lv_aload_n hx hb dX0_trueEyes_4 rfl (lv_at hl 0 rfl) ?_
  refine lv_iload_n hx hb dX0_trueEyes_5 rfl (lv_at hl 1 rfl) ?_
  refine mw_cl (mw_runV (As := [.int p0]) (rest := [.ref a_t_grid]) (ci := 0) (C := RX0) (T := TX0) (N := 11) hC hM hS hc_t rfl (c_X0_stonesOf (a_t := a_t) (a_t_before0 := a_t_before0) (a_t_before1 := a_t_before1) (a_t_grid := a_t_grid) (w_t := w_t) (p0 := p0) (hc_t := hc_t) (v := (fX0_stonesOf w_t p0)) rfl) gX0_trueEyes_X0_stonesOf rfl rfl rfl rfl q_X0_stonesOf ⟨Nat.le_of_ble_eq_true rfl, Nat.le_of_ble_eq_true rfl⟩ rfl rfl (Nat.le_of_ble_eq_true rfl) hl.1 dX0_trueEyes_6 ⟨Nat.le_of_ble_eq_true rfl, Nat.le_of_ble_eq_true rfl⟩) ?_
  refine lv_aload_n hx hb dX0_trueEyes_9 rfl (lv_at hl 0 rfl) ?_
  refine lv_iconst (v := 1) hx hb dX0_trueEyes_10 (by decide) ?_
  refine lv_iload_n hx hb dX0_trueEyes_11 rfl (lv_at hl 1 rfl) ?_
  refine lv_isub hx hb dX0_trueEyes_12 ?_
  refine mw_cl (mw_runV (As := [.int (1 - p0)]) (rest := [.long (fX0_stonesOf w_t p0), .ref a_t_grid]) (ci := 0) (C := RX0) (T := TX0) (N := 11) hC hM hS hc_t rfl (c_X0_stonesOf (a_t := a_t) (a_t_before0 := a_t_before0) (a_t_before1 := a_t_before1) (a_t_grid := a_t_grid) (w_t := w_t) (p0 := (1 - p0)) (hc_t := hc_t) (v := (fX0_stonesOf w_t (1 - p0))) rfl) gX0_trueEyes_X0_stonesOf rfl rfl rfl rfl q_X0_stonesOf ⟨Nat.le_of_ble_eq_true rfl, Nat.le_of_ble_eq_true rfl⟩ rfl rfl (Nat.le_of_ble_eq_true rfl) hl.1 dX0_trueEyes_13 ⟨Nat.le_of_ble_eq_true rfl, Nat.le_of_ble_eq_true rfl⟩) ?_
  refine mw_cl (mw_runV (As := [.long (fX0_stonesOf w_t p0), .long (fX0_stonesOf w_t (1 - p0))]) (rest := []) (ci := 2) (C := RX2) (T := TX2) (N := 5) hC hM hS hc_t_grid rfl (c_X2_eyes (a_t := a_t_grid) (w_t := w_t_grid) (p0 := (fX0_stonesOf w_t p0)) (p1 := (fX0_stonesOf w_t (1 - p0))) (hc_t := hc_t_grid) (v := (fX2_eyes w_t_grid (fX0_stonesOf w_t p0) (fX0_stonesOf w_t (1 - p0)))) rfl) gX0_trueEyes_X2_eyes rfl rfl rfl rfl q_X2_eyes ⟨Nat.le_of_ble_eq_true rfl, Nat.le_of_ble_eq_true rfl⟩ rfl rfl (Nat.le_of_ble_eq_true rfl) hl.1 dX0_trueEyes_16 ⟨Nat.le_of_ble_eq_true rfl, Nat.le_of_ble_eq_true rfl⟩) ?_
  refine lv_topl (fun v1 ev1 => ?_)
  replace h := bnd_at ev1 h
  refine lv_lstore_n (lv' := [(2, .long v1), (0, .ref a_t), (1, .int p0)]) hx hb dX0_trueEyes_19 rfl hl (by decide) rfl (fun ls hl => ?_)
  refine lv_lload_n hx hb dX0_trueEyes_20 rfl (lv_at hl 0 rfl) ?_
  refine lv_aload_n hx hb dX0_trueEyes_21 rfl (lv_at hl 1 rfl) ?_
  refine mw_get (ci := 0) (C := RX0) (T := TX0) (N := 11) (v := .ref a_t_grid) hC i_X0_trueEyes_X0 hM hc_t rfl 2 (by decide) l_X0_trueEyes_0 rfl rfl dX0_trueEyes_22 ?_
  refine lv_lload_n hx hb dX0_trueEyes_25 rfl (lv_at hl 0 rfl) ?_
  refine lv_aload_n hx hb dX0_trueEyes_26 rfl (lv_at hl 1 rfl) ?_
  refine lv_iconst (v := 1) hx hb dX0_trueEyes_27 (by decide) ?_
  refine lv_iload_n hx hb dX0_trueEyes_28 rfl (lv_at hl 2 rfl) ?_
  refine lv_isub hx hb dX0_trueEyes_29 ?_
  refine mw_cl (mw_runV (As := [.int (1 - p0)]) (rest := [.long v1, .ref a_t_grid, .long v1]) (ci := 0) (C := RX0) (T := TX0) (N := 11) hC hM hS hc_t rfl (c_X0_stonesOf (a_t := a_t) (a_t_before0 := a_t_before0) (a_t_before1 := a_t_before1) (a_t_grid := a_t_grid) (w_t := w_t) (p0 := (1 - p0)) (hc_t := hc_t) (v := (fX0_stonesOf w_t (1 - p0))) rfl) gX0_trueEyes_X0_stonesOf rfl rfl rfl rfl q_X0_stonesOf ⟨Nat.le_of_ble_eq_true rfl, Nat.le_of_ble_eq_true rfl⟩ rfl rfl (Nat.le_of_ble_eq_true rfl) hl.1 dX0_trueEyes_30 ⟨Nat.le_of_ble_eq_true rfl, Nat.le_of_ble_eq_true rfl⟩) ?_
  obtain ⟨r2, hr2, h⟩ := ob_some h
  refine mw_cl (mw_runV (As := [.long v1, .long (fX0_stonesOf w_t (1 - p0))]) (rest := [.long v1]) (ci := 2) (C := RX2) (T := TX2) (N := 5) hC hM hS hc_t_grid rfl (c_X2_falseAmong (a_t := a_t_grid) (w_t := w_t_grid) (p0 := v1) (p1 := (fX0_stonesOf w_t (1 - p0))) (hc_t := hc_t_grid) (v := r2) hr2) gX0_trueEyes_X2_falseAmong rfl rfl rfl rfl q_X2_falseAmong ⟨Nat.le_of_ble_eq_true rfl, Nat.le_of_ble_eq_true rfl⟩ rfl rfl (Nat.le_of_ble_eq_true rfl) hl.1 dX0_trueEyes_33 ⟨Nat.le_of_ble_eq_true rfl, Nat.le_of_ble_eq_true rfl⟩) ?_
  refine lv_ldc2 (v := -1) hx hb hown (hts _ l_X0_trueEyes_2) dX0_trueEyes_36 ?_
  refine lv_lxor hx hb dX0_trueEyes_39 ?_
  refine lv_land hx hb dX0_trueEyes_40 ?_
  cases h
  exact W.lret hx hb hr (fun t ht hW => ⟨_, rfl, rfl, ht⟩) (fun _ h9 => by cases h9) dX0_trueEyes_41 hlocks
theorem l_X0_colourAt_0 : Cond.fieldLink RX0 37 "CornerStones$Game" "stones0" "J" ∈ wsX0_colourAt := (List.mem_cons_of_mem _ (List.mem_append_left _ (List.mem_of_getElem? (i := 0) rfl)))
theorem i_X0_colourAt_X0 : ∀ w ∈ wsX00, w ∈ wsX0_colourAt := fun _ h => (List.mem_cons_of_mem _ (List.mem_append_right _ h))
theorem l_X0_colourAt_2 : Cond.fieldLink RX0 41 "CornerStones$Game" "stones1" "J" ∈ wsX0_colourAt := (List.mem_cons_of_mem _ (List.mem_append_left _ (List.mem_of_getElem? (i := 1) rfl)))
theorem q_X0_colourAt : yX0_colourAt.cls ≠ "java/lang/invoke/MethodHandle" ∧ yX0_colourAt.cls ≠ "java/lang/invoke/VarHandle" ∧ (parseMethodDescriptor yX0_colourAt.desc).map (fun d => d.parameters.length) = some 1 := by decide +kernel
def fX0_colourAt (w_t : Int32 × Int32 × Int32 × Int32 × Int64 × Int64 × Int32 × Int32) (p0 : Int32) : Int32 := if (w_t.2.2.2.2.1 &&& (shlL 1 p0)) = 0 then (if (w_t.2.2.2.2.2.1 &&& (shlL 1 p0)) = 0 then ((((-1) : Int32))) else (((1 : Int32)))) else (((0 : Int32)))
set_option maxHeartbeats 4000000 in
set_option maxRecDepth 100000 in
theorem c_X0_colourAt {l : Launch} {z : Nat} {D : va_G} {K : Nat → ClassId} {σ : mwm} {a_t a_t_before0 a_t_before1 a_t_grid : Nat} {w_t : Int32 × Int32 × Int32 × Int32 × Int64 × Int64 × Int32 × Int32} {p0 : Int32} (hc_t : σ a_t = some (cl0 a_t_before0 a_t_before1 a_t_grid w_t)) {v : Int32} (h : fX0_colourAt w_t p0 = v) : Met l yX0_colourAt wsX0_colourAt ({ frames := 0, cells := 0, slots := 0, locals := 0 } : Room) (PCm z D K [.ref a_t, .int p0] σ) (qsI v) 0 0 (fun _ => False) := by
  refine mt_enter (cc := cX0_colourAt) (maxL := 4) (ret := (some .int)) (own := RX0) (lv := [(0, .ref a_t), (1, .int p0)]) (by decide) rfl rfl (Nat.le_of_ble_eq_true rfl) rfl ?_
  intro p e s m below meth c ls hC hx hb hown hts hK hr hlocks hnm hz hM hS hl
  unfold fX0_colourAt at h
  refine lv_lconst (v := 1) hx hb dX0_colourAt_0 (by decide) ?_
  refine lv_iload_n hx hb dX0_colourAt_1 rfl (lv_at hl 1 rfl) ?_
  refine lv_lshl (v := (shlL 1 p0)) hx hb dX0_colourAt_2 rfl ?_
  refine lv_lstore_n (lv' := [(2, .long (shlL 1 p0)), (0, .ref a_t), (1, .int p0)]) hx hb dX0_colourAt_3 rfl hl (by decide) rfl (fun ls hl => ?_)
  refine lv_aload_n hx hb dX0_colourAt_4 rfl (lv_at hl 1 rfl) ?_
  refine mw_get (ci := 0) (C := RX0) (T := TX0) (N := 11) (v := .long w_t.2.2.2.2.1) hC i_X0_colourAt_X0 hM hc_t rfl 7 (by decide) l_X0_colourAt_0 rfl rfl dX0_colourAt_5 ?_
  refine lv_lload_n hx hb dX0_colourAt_8 rfl (lv_at hl 0 rfl) ?_
  refine lv_land hx hb dX0_colourAt_9 ?_
  refine lv_lconst (v := 0) hx hb dX0_colourAt_10 (by decide) ?_
  refine W.lcmp hx hb dX0_colourAt_11 ?_
  refine lv_if_eq (tgt := 17) hx hb dX0_colourAt_12 (by decide) (fun c1 => ?_) (fun c1 => ?_)
  · replace c1 := (lg_cmp_eq _ _).mp c1
    replace h := it_pos c1 h
    refine lv_aload_n hx hb dX0_colourAt_17 rfl (lv_at hl 1 rfl) ?_
    refine mw_get (ci := 0) (C := RX0) (T := TX0) (N := 11) (v := .long w_t.2.2.2.2.2.1) hC i_X0_colourAt_X0 hM hc_t rfl 8 (by decide) l_X0_colourAt_2 rfl rfl dX0_colourAt_18 ?_
    refine lv_lload_n hx hb dX0_colourAt_21 rfl (lv_at hl 0 rfl) ?_
    refine lv_land hx hb dX0_colourAt_22 ?_
    refine lv_lconst (v := 0) hx hb dX0_colourAt_23 (by decide) ?_
    refine W.lcmp hx hb dX0_colourAt_24 ?_
    refine lv_if_eq (tgt := 32) hx hb dX0_colourAt_25 (by decide) (fun c2 => ?_) (fun c2 => ?_)
    · replace c2 := (lg_cmp_eq _ _).mp c2
      replace h := it_pos c2 h
      refine lv_iconst (v := -1) hx hb dX0_colourAt_32 (by decide) ?_
      subst h
      exact W.iret hx hb hr (fun t ht hW => ⟨_, rfl, rfl, ht⟩) (fun _ h9 => by cases h9) dX0_colourAt_33 hlocks
    · replace c2 := mt (lg_cmp_eq _ _).mpr c2
      replace h := it_neg c2 h
      refine lv_iconst (v := 1) hx hb dX0_colourAt_28 (by decide) ?_
      refine lv_goto (tgt := 33) hx hb dX0_colourAt_29 (by decide) ?_
      subst h
      exact W.iret hx hb hr (fun t ht hW => ⟨_, rfl, rfl, ht⟩) (fun _ h9 => by cases h9) dX0_colourAt_33 hlocks
  · replace c1 := mt (lg_cmp_eq _ _).mpr c1
    replace h := it_neg c1 h
    refine lv_iconst (v := 0) hx hb dX0_colourAt_15 (by decide) ?_
    subst h
    exact W.iret hx hb hr (fun t ht hW => ⟨_, rfl, rfl, ht⟩) (fun _ h9 => by cases h9) dX0_colourAt_16 hlocks
theorem l_X0_groupAt_0 : Cond.fieldLink RX0 18 "CornerStones$Game" "grid" "LCornerStones$Grid;" ∈ wsX0_groupAt := (List.mem_cons_of_mem _ (List.mem_append_left _ (List.mem_append_left _ (List.mem_append_left _ (List.mem_of_getElem? (i := 0) rfl)))))
theorem i_X0_groupAt_X0 : ∀ w ∈ wsX00, w ∈ wsX0_groupAt := fun _ h => (List.mem_cons_of_mem _ (List.mem_append_left _ (List.mem_append_right _ h)))
theorem q_X0_groupAt : yX0_groupAt.cls ≠ "java/lang/invoke/MethodHandle" ∧ yX0_groupAt.cls ≠ "java/lang/invoke/VarHandle" ∧ (parseMethodDescriptor yX0_groupAt.desc).map (fun d => d.parameters.length) = some 1 := by decide +kernel
def fX0_groupAt (w_t : Int32 × Int32 × Int32 × Int32 × Int64 × Int64 × Int32 × Int32) (w_t_grid : Int32 × Int32 × Int64 × Int64 × Int64) (p0 : Int32) : Option (Int64) := if (fX0_colourAt w_t p0) = (-1) then (some ((0 : Int64))) else ((fX2_connected w_t_grid (fX0_stonesOf w_t (fX0_colourAt w_t p0)) (shlL 1 p0)).bind fun r2 => some (r2))
set_option maxHeartbeats 4000000 in
set_option maxRecDepth 100000 in
theorem c_X0_groupAt {l : Launch} {z : Nat} {D : va_G} {K : Nat → ClassId} {σ : mwm} {a_t a_t_before0 a_t_before1 a_t_grid : Nat} {w_t : Int32 × Int32 × Int32 × Int32 × Int64 × Int64 × Int32 × Int32} {w_t_grid : Int32 × Int32 × Int64 × Int64 × Int64} {p0 : Int32} (hc_t : σ a_t = some (cl0 a_t_before0 a_t_before1 a_t_grid w_t)) (hc_t_grid : σ a_t_grid = some (cl2  w_t_grid)) {v : Int64} (h : fX0_groupAt w_t w_t_grid p0 = some v) : Met l yX0_groupAt wsX0_groupAt ({ frames := 2, cells := 0, slots := 0, locals := 51 } : Room) (PCm z D K [.ref a_t, .int p0] σ) (qsL v) 0 0 (fun _ => False) := by
  refine mt_enter (cc := cX0_groupAt) (maxL := 3) (ret := (some .long)) (own := RX0) (lv := [(0, .ref a_t), (1, .int p0)]) (by decide) rfl rfl (Nat.le_of_ble_eq_true rfl) rfl ?_
  intro p e s m below meth c ls hC hx hb hown hts hK hr hlocks hnm hz hM hS hl
  unfold fX0_groupAt at h
  refine lv_aload_n hx hb dX0_groupAt_0 rfl (lv_at hl 0 rfl) ?_
  refine lv_iload_n hx hb dX0_groupAt_1 rfl (lv_at hl 1 rfl) ?_
  refine mw_ci (mw_runV (As := [.int p0]) (rest := []) (ci := 0) (C := RX0) (T := TX0) (N := 11) hC hM hS hc_t rfl (c_X0_colourAt (a_t := a_t) (a_t_before0 := a_t_before0) (a_t_before1 := a_t_before1) (a_t_grid := a_t_grid) (w_t := w_t) (p0 := p0) (hc_t := hc_t) (v := (fX0_colourAt w_t p0)) rfl) gX0_groupAt_X0_colourAt rfl rfl rfl rfl q_X0_colourAt ⟨Nat.le_of_ble_eq_true rfl, Nat.le_of_ble_eq_true rfl⟩ rfl rfl (Nat.le_of_ble_eq_true rfl) hl.1 dX0_groupAt_2 ⟨Nat.le_of_ble_eq_true rfl, Nat.le_of_ble_eq_true rfl⟩) ?_
  refine lv_istore_n (lv' := [(2, .int (fX0_colourAt w_t p0)), (0, .ref a_t), (1, .int p0)]) hx hb dX0_groupAt_5 rfl hl (by decide) rfl (fun ls hl => ?_)
  refine lv_iload_n hx hb dX0_groupAt_6 rfl (lv_at hl 0 rfl) ?_
  refine lv_iconst (v := -1) hx hb dX0_groupAt_7 (by decide) ?_
  refine lv_icmp_ne (tgt := 15) hx hb dX0_groupAt_8 (by decide) (fun c1 => ?_) (fun c1 => ?_)
  · replace h := it_neg c1 h
    refine lv_aload_n hx hb dX0_groupAt_15 rfl (lv_at hl 1 rfl) ?_
    refine mw_get (ci := 0) (C := RX0) (T := TX0) (N := 11) (v := .ref a_t_grid) hC i_X0_groupAt_X0 hM hc_t rfl 2 (by decide) l_X0_groupAt_0 rfl rfl dX0_groupAt_16 ?_
    refine lv_aload_n hx hb dX0_groupAt_19 rfl (lv_at hl 1 rfl) ?_
    refine lv_iload_n hx hb dX0_groupAt_20 rfl (lv_at hl 0 rfl) ?_
    refine mw_cl (mw_runV (As := [.int (fX0_colourAt w_t p0)]) (rest := [.ref a_t_grid]) (ci := 0) (C := RX0) (T := TX0) (N := 11) hC hM hS hc_t rfl (c_X0_stonesOf (a_t := a_t) (a_t_before0 := a_t_before0) (a_t_before1 := a_t_before1) (a_t_grid := a_t_grid) (w_t := w_t) (p0 := (fX0_colourAt w_t p0)) (hc_t := hc_t) (v := (fX0_stonesOf w_t (fX0_colourAt w_t p0))) rfl) gX0_groupAt_X0_stonesOf rfl rfl rfl rfl q_X0_stonesOf ⟨Nat.le_of_ble_eq_true rfl, Nat.le_of_ble_eq_true rfl⟩ rfl rfl (Nat.le_of_ble_eq_true rfl) hl.1 dX0_groupAt_21 ⟨Nat.le_of_ble_eq_true rfl, Nat.le_of_ble_eq_true rfl⟩) ?_
    refine lv_lconst (v := 1) hx hb dX0_groupAt_24 (by decide) ?_
    refine lv_iload_n hx hb dX0_groupAt_25 rfl (lv_at hl 2 rfl) ?_
    refine lv_lshl (v := (shlL 1 p0)) hx hb dX0_groupAt_26 rfl ?_
    obtain ⟨r2, hr2, h⟩ := ob_some h
    refine mw_cl (mw_runV (As := [.long (fX0_stonesOf w_t (fX0_colourAt w_t p0)), .long (shlL 1 p0)]) (rest := []) (ci := 2) (C := RX2) (T := TX2) (N := 5) hC hM hS hc_t_grid rfl (c_X2_connected (a_t := a_t_grid) (w_t := w_t_grid) (p0 := (fX0_stonesOf w_t (fX0_colourAt w_t p0))) (p1 := (shlL 1 p0)) (hc_t := hc_t_grid) (v := r2) hr2) gX0_groupAt_X2_connected rfl rfl rfl rfl q_X2_connected ⟨Nat.le_of_ble_eq_true rfl, Nat.le_of_ble_eq_true rfl⟩ rfl rfl (Nat.le_of_ble_eq_true rfl) hl.1 dX0_groupAt_27 ⟨Nat.le_of_ble_eq_true rfl, Nat.le_of_ble_eq_true rfl⟩) ?_
    cases h
    exact W.lret hx hb hr (fun t ht hW => ⟨_, rfl, rfl, ht⟩) (fun _ h9 => by cases h9) dX0_groupAt_30 hlocks
  · replace h := it_pos c1 h
    refine lv_lconst (v := 0) hx hb dX0_groupAt_11 (by decide) ?_
    refine lv_goto (tgt := 30) hx hb dX0_groupAt_12 (by decide) ?_
    cases h
    exact W.lret hx hb hr (fun t ht hW => ⟨_, rfl, rfl, ht⟩) (fun _ h9 => by cases h9) dX0_groupAt_30 hlocks
theorem l_X0_libertiesAt_0 : Cond.fieldLink RX0 18 "CornerStones$Game" "grid" "LCornerStones$Grid;" ∈ wsX0_libertiesAt := (List.mem_cons_of_mem _ (List.mem_append_left _ (List.mem_append_left _ (List.mem_append_left _ (List.mem_of_getElem? (i := 0) rfl)))))
theorem i_X0_libertiesAt_X0 : ∀ w ∈ wsX00, w ∈ wsX0_libertiesAt := fun _ h => (List.mem_cons_of_mem _ (List.mem_append_left _ (List.mem_append_right _ h)))
theorem q_X0_libertiesAt : yX0_libertiesAt.cls ≠ "java/lang/invoke/MethodHandle" ∧ yX0_libertiesAt.cls ≠ "java/lang/invoke/VarHandle" ∧ (parseMethodDescriptor yX0_libertiesAt.desc).map (fun d => d.parameters.length) = some 1 := by decide +kernel
def fX0_libertiesAt (w_t : Int32 × Int32 × Int32 × Int32 × Int64 × Int64 × Int32 × Int32) (w_t_grid : Int32 × Int32 × Int64 × Int64 × Int64) (p0 : Int32) : Option (Int64) := if (fX0_colourAt w_t p0) = (-1) then (some ((0 : Int64))) else ((fX2_liberties w_t_grid (fX0_stonesOf w_t (fX0_colourAt w_t p0)) (fX0_stonesOf w_t (1 - (fX0_colourAt w_t p0))) (shlL 1 p0)).bind fun r2 => some (r2))
set_option maxHeartbeats 4000000 in
set_option maxRecDepth 100000 in
theorem c_X0_libertiesAt {l : Launch} {z : Nat} {D : va_G} {K : Nat → ClassId} {σ : mwm} {a_t a_t_before0 a_t_before1 a_t_grid : Nat} {w_t : Int32 × Int32 × Int32 × Int32 × Int64 × Int64 × Int32 × Int32} {w_t_grid : Int32 × Int32 × Int64 × Int64 × Int64} {p0 : Int32} (hc_t : σ a_t = some (cl0 a_t_before0 a_t_before1 a_t_grid w_t)) (hc_t_grid : σ a_t_grid = some (cl2  w_t_grid)) {v : Int64} (h : fX0_libertiesAt w_t w_t_grid p0 = some v) : Met l yX0_libertiesAt wsX0_libertiesAt ({ frames := 3, cells := 0, slots := 0, locals := 77 } : Room) (PCm z D K [.ref a_t, .int p0] σ) (qsL v) 0 0 (fun _ => False) := by
  refine mt_enter (cc := cX0_libertiesAt) (maxL := 3) (ret := (some .long)) (own := RX0) (lv := [(0, .ref a_t), (1, .int p0)]) (by decide) rfl rfl (Nat.le_of_ble_eq_true rfl) rfl ?_
  intro p e s m below meth c ls hC hx hb hown hts hK hr hlocks hnm hz hM hS hl
  unfold fX0_libertiesAt at h
  refine lv_aload_n hx hb dX0_libertiesAt_0 rfl (lv_at hl 0 rfl) ?_
  refine lv_iload_n hx hb dX0_libertiesAt_1 rfl (lv_at hl 1 rfl) ?_
  refine mw_ci (mw_runV (As := [.int p0]) (rest := []) (ci := 0) (C := RX0) (T := TX0) (N := 11) hC hM hS hc_t rfl (c_X0_colourAt (a_t := a_t) (a_t_before0 := a_t_before0) (a_t_before1 := a_t_before1) (a_t_grid := a_t_grid) (w_t := w_t) (p0 := p0) (hc_t := hc_t) (v := (fX0_colourAt w_t p0)) rfl) gX0_libertiesAt_X0_colourAt rfl rfl rfl rfl q_X0_colourAt ⟨Nat.le_of_ble_eq_true rfl, Nat.le_of_ble_eq_true rfl⟩ rfl rfl (Nat.le_of_ble_eq_true rfl) hl.1 dX0_libertiesAt_2 ⟨Nat.le_of_ble_eq_true rfl, Nat.le_of_ble_eq_true rfl⟩) ?_
  refine lv_istore_n (lv' := [(2, .int (fX0_colourAt w_t p0)), (0, .ref a_t), (1, .int p0)]) hx hb dX0_libertiesAt_5 rfl hl (by decide) rfl (fun ls hl => ?_)
  refine lv_iload_n hx hb dX0_libertiesAt_6 rfl (lv_at hl 0 rfl) ?_
  refine lv_iconst (v := -1) hx hb dX0_libertiesAt_7 (by decide) ?_
  refine lv_icmp_ne (tgt := 15) hx hb dX0_libertiesAt_8 (by decide) (fun c1 => ?_) (fun c1 => ?_)
  · replace h := it_neg c1 h
    refine lv_aload_n hx hb dX0_libertiesAt_15 rfl (lv_at hl 1 rfl) ?_
    refine mw_get (ci := 0) (C := RX0) (T := TX0) (N := 11) (v := .ref a_t_grid) hC i_X0_libertiesAt_X0 hM hc_t rfl 2 (by decide) l_X0_libertiesAt_0 rfl rfl dX0_libertiesAt_16 ?_
    refine lv_aload_n hx hb dX0_libertiesAt_19 rfl (lv_at hl 1 rfl) ?_
    refine lv_iload_n hx hb dX0_libertiesAt_20 rfl (lv_at hl 0 rfl) ?_
    refine mw_cl (mw_runV (As := [.int (fX0_colourAt w_t p0)]) (rest := [.ref a_t_grid]) (ci := 0) (C := RX0) (T := TX0) (N := 11) hC hM hS hc_t rfl (c_X0_stonesOf (a_t := a_t) (a_t_before0 := a_t_before0) (a_t_before1 := a_t_before1) (a_t_grid := a_t_grid) (w_t := w_t) (p0 := (fX0_colourAt w_t p0)) (hc_t := hc_t) (v := (fX0_stonesOf w_t (fX0_colourAt w_t p0))) rfl) gX0_libertiesAt_X0_stonesOf rfl rfl rfl rfl q_X0_stonesOf ⟨Nat.le_of_ble_eq_true rfl, Nat.le_of_ble_eq_true rfl⟩ rfl rfl (Nat.le_of_ble_eq_true rfl) hl.1 dX0_libertiesAt_21 ⟨Nat.le_of_ble_eq_true rfl, Nat.le_of_ble_eq_true rfl⟩) ?_
    refine lv_aload_n hx hb dX0_libertiesAt_24 rfl (lv_at hl 1 rfl) ?_
    refine lv_iconst (v := 1) hx hb dX0_libertiesAt_25 (by decide) ?_
    refine lv_iload_n hx hb dX0_libertiesAt_26 rfl (lv_at hl 0 rfl) ?_
    refine lv_isub hx hb dX0_libertiesAt_27 ?_
    refine mw_cl (mw_runV (As := [.int (1 - (fX0_colourAt w_t p0))]) (rest := [.long (fX0_stonesOf w_t (fX0_colourAt w_t p0)), .ref a_t_grid]) (ci := 0) (C := RX0) (T := TX0) (N := 11) hC hM hS hc_t rfl (c_X0_stonesOf (a_t := a_t) (a_t_before0 := a_t_before0) (a_t_before1 := a_t_before1) (a_t_grid := a_t_grid) (w_t := w_t) (p0 := (1 - (fX0_colourAt w_t p0))) (hc_t := hc_t) (v := (fX0_stonesOf w_t (1 - (fX0_colourAt w_t p0)))) rfl) gX0_libertiesAt_X0_stonesOf rfl rfl rfl rfl q_X0_stonesOf ⟨Nat.le_of_ble_eq_true rfl, Nat.le_of_ble_eq_true rfl⟩ rfl rfl (Nat.le_of_ble_eq_true rfl) hl.1 dX0_libertiesAt_28 ⟨Nat.le_of_ble_eq_true rfl, Nat.le_of_ble_eq_true rfl⟩) ?_
    refine lv_lconst (v := 1) hx hb dX0_libertiesAt_31 (by decide) ?_
    refine lv_iload_n hx hb dX0_libertiesAt_32 rfl (lv_at hl 2 rfl) ?_
    refine lv_lshl (v := (shlL 1 p0)) hx hb dX0_libertiesAt_33 rfl ?_
    obtain ⟨r2, hr2, h⟩ := ob_some h
    refine mw_cl (mw_runV (As := [.long (fX0_stonesOf w_t (fX0_colourAt w_t p0)), .long (fX0_stonesOf w_t (1 - (fX0_colourAt w_t p0))), .long (shlL 1 p0)]) (rest := []) (ci := 2) (C := RX2) (T := TX2) (N := 5) hC hM hS hc_t_grid rfl (c_X2_liberties (a_t := a_t_grid) (w_t := w_t_grid) (p0 := (fX0_stonesOf w_t (fX0_colourAt w_t p0))) (p1 := (fX0_stonesOf w_t (1 - (fX0_colourAt w_t p0)))) (p2 := (shlL 1 p0)) (hc_t := hc_t_grid) (v := r2) hr2) gX0_libertiesAt_X2_liberties rfl rfl rfl rfl q_X2_liberties ⟨Nat.le_of_ble_eq_true rfl, Nat.le_of_ble_eq_true rfl⟩ rfl rfl (Nat.le_of_ble_eq_true rfl) hl.1 dX0_libertiesAt_34 ⟨Nat.le_of_ble_eq_true rfl, Nat.le_of_ble_eq_true rfl⟩) ?_
    cases h
    exact W.lret hx hb hr (fun t ht hW => ⟨_, rfl, rfl, ht⟩) (fun _ h9 => by cases h9) dX0_libertiesAt_37 hlocks
  · replace h := it_pos c1 h
    refine lv_lconst (v := 0) hx hb dX0_libertiesAt_11 (by decide) ?_
    refine lv_goto (tgt := 37) hx hb dX0_libertiesAt_12 (by decide) ?_
    cases h
    exact W.lret hx hb hr (fun t ht hW => ⟨_, rfl, rfl, ht⟩) (fun _ h9 => by cases h9) dX0_libertiesAt_37 hlocks
theorem l_X0_partAt_0 : Cond.fieldLink RX0 18 "CornerStones$Game" "grid" "LCornerStones$Grid;" ∈ wsX0_partAt := (List.mem_cons_of_mem _ (List.mem_append_left _ (List.mem_append_left _ (List.mem_of_getElem? (i := 0) rfl))))
theorem i_X0_partAt_X0 : ∀ w ∈ wsX00, w ∈ wsX0_partAt := fun _ h => (List.mem_cons_of_mem _ (List.mem_append_left _ (List.mem_append_right _ h)))
theorem l_X0_partAt_2 : Cond.fieldLink RX0 96 "CornerStones$Grid" "all" "J" ∈ wsX0_partAt := (List.mem_cons_of_mem _ (List.mem_append_left _ (List.mem_append_left _ (List.mem_of_getElem? (i := 1) rfl))))
theorem i_X0_partAt_X2 : ∀ w ∈ wsX20, w ∈ wsX0_partAt := fun _ h => (List.mem_cons_of_mem _ (List.mem_append_right _ h))
theorem l_X0_partAt_4 : Cond.fieldLink RX0 37 "CornerStones$Game" "stones0" "J" ∈ wsX0_partAt := (List.mem_cons_of_mem _ (List.mem_append_left _ (List.mem_append_left _ (List.mem_of_getElem? (i := 2) rfl))))
theorem l_X0_partAt_5 : Cond.fieldLink RX0 41 "CornerStones$Game" "stones1" "J" ∈ wsX0_partAt := (List.mem_cons_of_mem _ (List.mem_append_left _ (List.mem_append_left _ (List.mem_of_getElem? (i := 3) rfl))))
theorem l_X0_partAt_6 : Cond.constantLong RX0 83 (-1) ∈ wsX0_partAt := (List.mem_cons_of_mem _ (List.mem_append_left _ (List.mem_append_left _ (List.mem_of_getElem? (i := 4) rfl))))
theorem q_X0_partAt : yX0_partAt.cls ≠ "java/lang/invoke/MethodHandle" ∧ yX0_partAt.cls ≠ "java/lang/invoke/VarHandle" ∧ (parseMethodDescriptor yX0_partAt.desc).map (fun d => d.parameters.length) = some 1 := by decide +kernel
def fX0_partAt (w_t : Int32 × Int32 × Int32 × Int32 × Int64 × Int64 × Int32 × Int32) (w_t_grid : Int32 × Int32 × Int64 × Int64 × Int64) (p0 : Int32) : Option (Int64) := (fX2_connected w_t_grid (w_t_grid.2.2.1 &&& ((w_t.2.2.2.2.1 ||| w_t.2.2.2.2.2.1) ^^^ (-1))) (shlL 1 p0)).bind fun r1 => some (r1)
set_option maxHeartbeats 4000000 in
set_option maxRecDepth 100000 in
theorem c_X0_partAt {l : Launch} {z : Nat} {D : va_G} {K : Nat → ClassId} {σ : mwm} {a_t a_t_before0 a_t_before1 a_t_grid : Nat} {w_t : Int32 × Int32 × Int32 × Int32 × Int64 × Int64 × Int32 × Int32} {w_t_grid : Int32 × Int32 × Int64 × Int64 × Int64} {p0 : Int32} (hc_t : σ a_t = some (cl0 a_t_before0 a_t_before1 a_t_grid w_t)) (hc_t_grid : σ a_t_grid = some (cl2  w_t_grid)) {v : Int64} (h : fX0_partAt w_t w_t_grid p0 = some v) : Met l yX0_partAt wsX0_partAt ({ frames := 2, cells := 0, slots := 0, locals := 51 } : Room) (PCm z D K [.ref a_t, .int p0] σ) (qsL v) 0 0 (fun _ => False) := by
  refine mt_enter (cc := cX0_partAt) (maxL := 2) (ret := (some .long)) (own := RX0) (lv := [(0, .ref a_t), (1, .int p0)]) (by decide) rfl rfl (Nat.le_of_ble_eq_true rfl) rfl ?_
  intro p e s m below meth c ls hC hx hb hown hts hK hr hlocks hnm hz hM hS hl
  unfold fX0_partAt at h
  refine lv_aload_n hx hb dX0_partAt_0 rfl (lv_at hl 0 rfl) ?_
  refine mw_get (ci := 0) (C := RX0) (T := TX0) (N := 11) (v := .ref a_t_grid) hC i_X0_partAt_X0 hM hc_t rfl 2 (by decide) l_X0_partAt_0 rfl rfl dX0_partAt_1 ?_
  refine lv_aload_n hx hb dX0_partAt_4 rfl (lv_at hl 0 rfl) ?_
  refine mw_get (ci := 0) (C := RX0) (T := TX0) (N := 11) (v := .ref a_t_grid) hC i_X0_partAt_X0 hM hc_t rfl 2 (by decide) l_X0_partAt_0 rfl rfl dX0_partAt_5 ?_
  refine mw_get (ci := 2) (C := RX2) (T := TX2) (N := 5) (v := .long w_t_grid.2.2.1) hC i_X0_partAt_X2 hM hc_t_grid rfl 2 (by decide) l_X0_partAt_2 rfl rfl dX0_partAt_8 ?_
  refine lv_aload_n hx hb dX0_partAt_11 rfl (lv_at hl 0 rfl) ?_
  refine mw_get (ci := 0) (C := RX0) (T := TX0) (N := 11) (v := .long w_t.2.2.2.2.1) hC i_X0_partAt_X0 hM hc_t rfl 7 (by decide) l_X0_partAt_4 rfl rfl dX0_partAt_12 ?_
  refine lv_aload_n hx hb dX0_partAt_15 rfl (lv_at hl 0 rfl) ?_
  refine mw_get (ci := 0) (C := RX0) (T := TX0) (N := 11) (v := .long w_t.2.2.2.2.2.1) hC i_X0_partAt_X0 hM hc_t rfl 8 (by decide) l_X0_partAt_5 rfl rfl dX0_partAt_16 ?_
  refine lv_lor hx hb dX0_partAt_19 ?_
  refine lv_ldc2 (v := -1) hx hb hown (hts _ l_X0_partAt_6) dX0_partAt_20 ?_
  refine lv_lxor hx hb dX0_partAt_23 ?_
  refine lv_land hx hb dX0_partAt_24 ?_
  refine lv_lconst (v := 1) hx hb dX0_partAt_25 (by decide) ?_
  refine lv_iload_n hx hb dX0_partAt_26 rfl (lv_at hl 1 rfl) ?_
  refine lv_lshl (v := (shlL 1 p0)) hx hb dX0_partAt_27 rfl ?_
  obtain ⟨r1, hr1, h⟩ := ob_some h
  refine mw_cl (mw_runV (As := [.long (w_t_grid.2.2.1 &&& ((w_t.2.2.2.2.1 ||| w_t.2.2.2.2.2.1) ^^^ (-1))), .long (shlL 1 p0)]) (rest := []) (ci := 2) (C := RX2) (T := TX2) (N := 5) hC hM hS hc_t_grid rfl (c_X2_connected (a_t := a_t_grid) (w_t := w_t_grid) (p0 := (w_t_grid.2.2.1 &&& ((w_t.2.2.2.2.1 ||| w_t.2.2.2.2.2.1) ^^^ (-1)))) (p1 := (shlL 1 p0)) (hc_t := hc_t_grid) (v := r1) hr1) gX0_partAt_X2_connected rfl rfl rfl rfl q_X2_connected ⟨Nat.le_of_ble_eq_true rfl, Nat.le_of_ble_eq_true rfl⟩ rfl rfl (Nat.le_of_ble_eq_true rfl) hl.1 dX0_partAt_28 ⟨Nat.le_of_ble_eq_true rfl, Nat.le_of_ble_eq_true rfl⟩) ?_
  cases h
  exact W.lret hx hb hr (fun t ht hW => ⟨_, rfl, rfl, ht⟩) (fun _ h9 => by cases h9) dX0_partAt_31 hlocks
theorem q_X0_eyeAt : yX0_eyeAt.cls ≠ "java/lang/invoke/MethodHandle" ∧ yX0_eyeAt.cls ≠ "java/lang/invoke/VarHandle" ∧ (parseMethodDescriptor yX0_eyeAt.desc).map (fun d => d.parameters.length) = some 1 := by decide +kernel
def fX0_eyeAt (w_t : Int32 × Int32 × Int32 × Int32 × Int64 × Int64 × Int32 × Int32) (w_t_grid : Int32 × Int32 × Int64 × Int64 × Int64) (p0 : Int32) : Option (Int32) := (fX0_falseEyes w_t w_t_grid 0).bind fun r1 => (fX0_falseEyes w_t w_t_grid 1).bind fun r2 => if ((r1 ||| r2) &&& (shlL 1 p0)) = 0 then ((fX0_trueEyes w_t w_t_grid 0).bind fun r4 => (fX0_trueEyes w_t w_t_grid 1).bind fun r5 => if ((r4 ||| r5) &&& (shlL 1 p0)) = 0 then (some ((0 : Int32))) else (some ((2 : Int32)))) else (some ((1 : Int32)))
set_option maxHeartbeats 4000000 in
set_option maxRecDepth 100000 in
theorem c_X0_eyeAt {l : Launch} {z : Nat} {D : va_G} {K : Nat → ClassId} {σ : mwm} {a_t a_t_before0 a_t_before1 a_t_grid : Nat} {w_t : Int32 × Int32 × Int32 × Int32 × Int64 × Int64 × Int32 × Int32} {w_t_grid : Int32 × Int32 × Int64 × Int64 × Int64} {p0 : Int32} (hc_t : σ a_t = some (cl0 a_t_before0 a_t_before1 a_t_grid w_t)) (hc_t_grid : σ a_t_grid = some (cl2  w_t_grid)) {v : Int32} (h : fX0_eyeAt w_t w_t_grid p0 = some v) : Met l yX0_eyeAt wsX0_eyeAt ({ frames := 3, cells := 0, slots := 0, locals := 81 } : Room) (PCm z D K [.ref a_t, .int p0] σ) (qsI v) 0 0 (fun _ => False) := by
  refine mt_enter (cc := cX0_eyeAt) (maxL := 4) (ret := (some .int)) (own := RX0) (lv := [(0, .ref a_t), (1, .int p0)]) (by decide) rfl rfl (Nat.le_of_ble_eq_true rfl) rfl ?_
  intro p e s m below meth c ls hC hx hb hown hts hK hr hlocks hnm hz hM hS hl
  unfold fX0_eyeAt at h
  refine lv_lconst (v := 1) hx hb dX0_eyeAt_0 (by decide) ?_
  refine lv_iload_n hx hb dX0_eyeAt_1 rfl (lv_at hl 1 rfl) ?_
  refine lv_lshl (v := (shlL 1 p0)) hx hb dX0_eyeAt_2 rfl ?_
  refine lv_lstore_n (lv' := [(2, .long (shlL 1 p0)), (0, .ref a_t), (1, .int p0)]) hx hb dX0_eyeAt_3 rfl hl (by decide) rfl (fun ls hl => ?_)
  refine lv_aload_n hx hb dX0_eyeAt_4 rfl (lv_at hl 1 rfl) ?_
  refine lv_iconst (v := 0) hx hb dX0_eyeAt_5 (by decide) ?_
  obtain ⟨r1, hr1, h⟩ := ob_some h
  refine mw_cl (mw_runV (As := [.int 0]) (rest := []) (ci := 0) (C := RX0) (T := TX0) (N := 11) hC hM hS hc_t rfl (c_X0_falseEyes (a_t := a_t) (a_t_before0 := a_t_before0) (a_t_before1 := a_t_before1) (a_t_grid := a_t_grid) (w_t := w_t) (w_t_grid := w_t_grid) (p0 := 0) (hc_t := hc_t) (hc_t_grid := hc_t_grid) (v := r1) hr1) gX0_eyeAt_X0_falseEyes rfl rfl rfl rfl q_X0_falseEyes ⟨Nat.le_of_ble_eq_true rfl, Nat.le_of_ble_eq_true rfl⟩ rfl rfl (Nat.le_of_ble_eq_true rfl) hl.1 dX0_eyeAt_6 ⟨Nat.le_of_ble_eq_true rfl, Nat.le_of_ble_eq_true rfl⟩) ?_
  refine lv_aload_n hx hb dX0_eyeAt_9 rfl (lv_at hl 1 rfl) ?_
  refine lv_iconst (v := 1) hx hb dX0_eyeAt_10 (by decide) ?_
  obtain ⟨r2, hr2, h⟩ := ob_some h
  refine mw_cl (mw_runV (As := [.int 1]) (rest := [.long r1]) (ci := 0) (C := RX0) (T := TX0) (N := 11) hC hM hS hc_t rfl (c_X0_falseEyes (a_t := a_t) (a_t_before0 := a_t_before0) (a_t_before1 := a_t_before1) (a_t_grid := a_t_grid) (w_t := w_t) (w_t_grid := w_t_grid) (p0 := 1) (hc_t := hc_t) (hc_t_grid := hc_t_grid) (v := r2) hr2) gX0_eyeAt_X0_falseEyes rfl rfl rfl rfl q_X0_falseEyes ⟨Nat.le_of_ble_eq_true rfl, Nat.le_of_ble_eq_true rfl⟩ rfl rfl (Nat.le_of_ble_eq_true rfl) hl.1 dX0_eyeAt_11 ⟨Nat.le_of_ble_eq_true rfl, Nat.le_of_ble_eq_true rfl⟩) ?_
  refine lv_lor hx hb dX0_eyeAt_14 ?_
  refine lv_lload_n hx hb dX0_eyeAt_15 rfl (lv_at hl 0 rfl) ?_
  refine lv_land hx hb dX0_eyeAt_16 ?_
  refine lv_lconst (v := 0) hx hb dX0_eyeAt_17 (by decide) ?_
  refine W.lcmp hx hb dX0_eyeAt_18 ?_
  refine lv_if_eq (tgt := 24) hx hb dX0_eyeAt_19 (by decide) (fun c3 => ?_) (fun c3 => ?_)
  · replace c3 := (lg_cmp_eq _ _).mp c3
    replace h := it_pos c3 h
    refine lv_aload_n hx hb dX0_eyeAt_24 rfl (lv_at hl 1 rfl) ?_
    refine lv_iconst (v := 0) hx hb dX0_eyeAt_25 (by decide) ?_
    obtain ⟨r4, hr4, h⟩ := ob_some h
    refine mw_cl (mw_runV (As := [.int 0]) (rest := []) (ci := 0) (C := RX0) (T := TX0) (N := 11) hC hM hS hc_t rfl (c_X0_trueEyes (a_t := a_t) (a_t_before0 := a_t_before0) (a_t_before1 := a_t_before1) (a_t_grid := a_t_grid) (w_t := w_t) (w_t_grid := w_t_grid) (p0 := 0) (hc_t := hc_t) (hc_t_grid := hc_t_grid) (v := r4) hr4) gX0_eyeAt_X0_trueEyes rfl rfl rfl rfl q_X0_trueEyes ⟨Nat.le_of_ble_eq_true rfl, Nat.le_of_ble_eq_true rfl⟩ rfl rfl (Nat.le_of_ble_eq_true rfl) hl.1 dX0_eyeAt_26 ⟨Nat.le_of_ble_eq_true rfl, Nat.le_of_ble_eq_true rfl⟩) ?_
    refine lv_aload_n hx hb dX0_eyeAt_29 rfl (lv_at hl 1 rfl) ?_
    refine lv_iconst (v := 1) hx hb dX0_eyeAt_30 (by decide) ?_
    obtain ⟨r5, hr5, h⟩ := ob_some h
    refine mw_cl (mw_runV (As := [.int 1]) (rest := [.long r4]) (ci := 0) (C := RX0) (T := TX0) (N := 11) hC hM hS hc_t rfl (c_X0_trueEyes (a_t := a_t) (a_t_before0 := a_t_before0) (a_t_before1 := a_t_before1) (a_t_grid := a_t_grid) (w_t := w_t) (w_t_grid := w_t_grid) (p0 := 1) (hc_t := hc_t) (hc_t_grid := hc_t_grid) (v := r5) hr5) gX0_eyeAt_X0_trueEyes rfl rfl rfl rfl q_X0_trueEyes ⟨Nat.le_of_ble_eq_true rfl, Nat.le_of_ble_eq_true rfl⟩ rfl rfl (Nat.le_of_ble_eq_true rfl) hl.1 dX0_eyeAt_31 ⟨Nat.le_of_ble_eq_true rfl, Nat.le_of_ble_eq_true rfl⟩) ?_
    refine lv_lor hx hb dX0_eyeAt_34 ?_
    refine lv_lload_n hx hb dX0_eyeAt_35 rfl (lv_at hl 0 rfl) ?_
    refine lv_land hx hb dX0_eyeAt_36 ?_
    refine lv_lconst (v := 0) hx hb dX0_eyeAt_37 (by decide) ?_
    refine W.lcmp hx hb dX0_eyeAt_38 ?_
    refine lv_if_eq (tgt := 46) hx hb dX0_eyeAt_39 (by decide) (fun c6 => ?_) (fun c6 => ?_)
    · replace c6 := (lg_cmp_eq _ _).mp c6
      replace h := it_pos c6 h
      refine lv_iconst (v := 0) hx hb dX0_eyeAt_46 (by decide) ?_
      cases h
      exact W.iret hx hb hr (fun t ht hW => ⟨_, rfl, rfl, ht⟩) (fun _ h9 => by cases h9) dX0_eyeAt_47 hlocks
    · replace c6 := mt (lg_cmp_eq _ _).mpr c6
      replace h := it_neg c6 h
      refine lv_iconst (v := 2) hx hb dX0_eyeAt_42 (by decide) ?_
      refine lv_goto (tgt := 47) hx hb dX0_eyeAt_43 (by decide) ?_
      cases h
      exact W.iret hx hb hr (fun t ht hW => ⟨_, rfl, rfl, ht⟩) (fun _ h9 => by cases h9) dX0_eyeAt_47 hlocks
  · replace c3 := mt (lg_cmp_eq _ _).mpr c3
    replace h := it_neg c3 h
    refine lv_iconst (v := 1) hx hb dX0_eyeAt_22 (by decide) ?_
    cases h
    exact W.iret hx hb hr (fun t ht hW => ⟨_, rfl, rfl, ht⟩) (fun _ h9 => by cases h9) dX0_eyeAt_23 hlocks
theorem q_X0_trueEyesAt : yX0_trueEyesAt.cls ≠ "java/lang/invoke/MethodHandle" ∧ yX0_trueEyesAt.cls ≠ "java/lang/invoke/VarHandle" ∧ (parseMethodDescriptor yX0_trueEyesAt.desc).map (fun d => d.parameters.length) = some 1 := by decide +kernel
def fX0_trueEyesAt (w_t : Int32 × Int32 × Int32 × Int32 × Int64 × Int64 × Int32 × Int32) (w_t_grid : Int32 × Int32 × Int64 × Int64 × Int64) (p0 : Int32) : Option (Int32) := if (fX0_colourAt w_t p0) = (-1) then (some ((0 : Int32))) else ((fX0_libertiesAt w_t w_t_grid p0).bind fun r2 => (fX0_trueEyes w_t w_t_grid (fX0_colourAt w_t p0)).bind fun r3 => some ((fJ13_bitCount_95d88 (r2 &&& r3))))
set_option maxHeartbeats 4000000 in
set_option maxRecDepth 100000 in
theorem c_X0_trueEyesAt {l : Launch} {z : Nat} {D : va_G} {K : Nat → ClassId} {σ : mwm} {a_t a_t_before0 a_t_before1 a_t_grid : Nat} {w_t : Int32 × Int32 × Int32 × Int32 × Int64 × Int64 × Int32 × Int32} {w_t_grid : Int32 × Int32 × Int64 × Int64 × Int64} {p0 : Int32} (hc_t : σ a_t = some (cl0 a_t_before0 a_t_before1 a_t_grid w_t)) (hc_t_grid : σ a_t_grid = some (cl2  w_t_grid)) {v : Int32} (h : fX0_trueEyesAt w_t w_t_grid p0 = some v) : Met l yX0_trueEyesAt wsX0_trueEyesAt ({ frames := 4, cells := 0, slots := 0, locals := 99 } : Room) (PCm z D K [.ref a_t, .int p0] σ) (qsI v) 0 0 (fun _ => False) := by
  refine mt_enter (cc := cX0_trueEyesAt) (maxL := 3) (ret := (some .int)) (own := RX0) (lv := [(0, .ref a_t), (1, .int p0)]) (by decide) rfl rfl (Nat.le_of_ble_eq_true rfl) rfl ?_
  intro p e s m below meth c ls hC hx hb hown hts hK hr hlocks hnm hz hM hS hl
  unfold fX0_trueEyesAt at h
  refine lv_aload_n hx hb dX0_trueEyesAt_0 rfl (lv_at hl 0 rfl) ?_
  refine lv_iload_n hx hb dX0_trueEyesAt_1 rfl (lv_at hl 1 rfl) ?_
  refine mw_ci (mw_runV (As := [.int p0]) (rest := []) (ci := 0) (C := RX0) (T := TX0) (N := 11) hC hM hS hc_t rfl (c_X0_colourAt (a_t := a_t) (a_t_before0 := a_t_before0) (a_t_before1 := a_t_before1) (a_t_grid := a_t_grid) (w_t := w_t) (p0 := p0) (hc_t := hc_t) (v := (fX0_colourAt w_t p0)) rfl) gX0_trueEyesAt_X0_colourAt rfl rfl rfl rfl q_X0_colourAt ⟨Nat.le_of_ble_eq_true rfl, Nat.le_of_ble_eq_true rfl⟩ rfl rfl (Nat.le_of_ble_eq_true rfl) hl.1 dX0_trueEyesAt_2 ⟨Nat.le_of_ble_eq_true rfl, Nat.le_of_ble_eq_true rfl⟩) ?_
  refine lv_istore_n (lv' := [(2, .int (fX0_colourAt w_t p0)), (0, .ref a_t), (1, .int p0)]) hx hb dX0_trueEyesAt_5 rfl hl (by decide) rfl (fun ls hl => ?_)
  refine lv_iload_n hx hb dX0_trueEyesAt_6 rfl (lv_at hl 0 rfl) ?_
  refine lv_iconst (v := -1) hx hb dX0_trueEyesAt_7 (by decide) ?_
  refine lv_icmp_ne (tgt := 15) hx hb dX0_trueEyesAt_8 (by decide) (fun c1 => ?_) (fun c1 => ?_)
  · replace h := it_neg c1 h
    refine lv_aload_n hx hb dX0_trueEyesAt_15 rfl (lv_at hl 1 rfl) ?_
    refine lv_iload_n hx hb dX0_trueEyesAt_16 rfl (lv_at hl 2 rfl) ?_
    obtain ⟨r2, hr2, h⟩ := ob_some h
    refine mw_cl (mw_runV (As := [.int p0]) (rest := []) (ci := 0) (C := RX0) (T := TX0) (N := 11) hC hM hS hc_t rfl (c_X0_libertiesAt (a_t := a_t) (a_t_before0 := a_t_before0) (a_t_before1 := a_t_before1) (a_t_grid := a_t_grid) (w_t := w_t) (w_t_grid := w_t_grid) (p0 := p0) (hc_t := hc_t) (hc_t_grid := hc_t_grid) (v := r2) hr2) gX0_trueEyesAt_X0_libertiesAt rfl rfl rfl rfl q_X0_libertiesAt ⟨Nat.le_of_ble_eq_true rfl, Nat.le_of_ble_eq_true rfl⟩ rfl rfl (Nat.le_of_ble_eq_true rfl) hl.1 dX0_trueEyesAt_17 ⟨Nat.le_of_ble_eq_true rfl, Nat.le_of_ble_eq_true rfl⟩) ?_
    refine lv_aload_n hx hb dX0_trueEyesAt_20 rfl (lv_at hl 1 rfl) ?_
    refine lv_iload_n hx hb dX0_trueEyesAt_21 rfl (lv_at hl 0 rfl) ?_
    obtain ⟨r3, hr3, h⟩ := ob_some h
    refine mw_cl (mw_runV (As := [.int (fX0_colourAt w_t p0)]) (rest := [.long r2]) (ci := 0) (C := RX0) (T := TX0) (N := 11) hC hM hS hc_t rfl (c_X0_trueEyes (a_t := a_t) (a_t_before0 := a_t_before0) (a_t_before1 := a_t_before1) (a_t_grid := a_t_grid) (w_t := w_t) (w_t_grid := w_t_grid) (p0 := (fX0_colourAt w_t p0)) (hc_t := hc_t) (hc_t_grid := hc_t_grid) (v := r3) hr3) gX0_trueEyesAt_X0_trueEyes rfl rfl rfl rfl q_X0_trueEyes ⟨Nat.le_of_ble_eq_true rfl, Nat.le_of_ble_eq_true rfl⟩ rfl rfl (Nat.le_of_ble_eq_true rfl) hl.1 dX0_trueEyesAt_22 ⟨Nat.le_of_ble_eq_true rfl, Nat.le_of_ble_eq_true rfl⟩) ?_
    refine lv_land hx hb dX0_trueEyesAt_25 ?_
    refine mw_ci (mw_runS (As := [.long (r2 &&& r3)]) (rest := []) hC hM hS (c_J13_bitCount_95d88 (p0 := (r2 &&& r3)) (v := (fJ13_bitCount_95d88 (r2 &&& r3))) rfl) gX0_trueEyesAt_J13_bitCount_95d88 rfl rfl rfl q_J13_bitCount_95d88 ⟨Nat.le_of_ble_eq_true rfl, Nat.le_of_ble_eq_true rfl⟩ rfl rfl (Nat.le_of_ble_eq_true rfl) hl.1 dX0_trueEyesAt_26 ⟨Nat.le_of_ble_eq_true rfl, Nat.le_of_ble_eq_true rfl⟩) ?_
    cases h
    exact W.iret hx hb hr (fun t ht hW => ⟨_, rfl, rfl, ht⟩) (fun _ h9 => by cases h9) dX0_trueEyesAt_29 hlocks
  · replace h := it_pos c1 h
    refine lv_iconst (v := 0) hx hb dX0_trueEyesAt_11 (by decide) ?_
    refine lv_goto (tgt := 29) hx hb dX0_trueEyesAt_12 (by decide) ?_
    cases h
    exact W.iret hx hb hr (fun t ht hW => ⟨_, rfl, rfl, ht⟩) (fun _ h9 => by cases h9) dX0_trueEyesAt_29 hlocks
theorem l_X2_taken_0 : Cond.fieldLink RX2 18 "CornerStones$Grid" "all" "J" ∈ wsX2_taken := (List.mem_cons_of_mem _ (List.mem_append_left _ (List.mem_of_getElem? (i := 0) rfl)))
theorem i_X2_taken_X2 : ∀ w ∈ wsX20, w ∈ wsX2_taken := fun _ h => (List.mem_cons_of_mem _ (List.mem_append_right _ h))
theorem l_X2_taken_2 : Cond.constantLong RX2 22 (-1) ∈ wsX2_taken := (List.mem_cons_of_mem _ (List.mem_append_left _ (List.mem_of_getElem? (i := 1) rfl)))
theorem q_X2_taken : yX2_taken.cls ≠ "java/lang/invoke/MethodHandle" ∧ yX2_taken.cls ≠ "java/lang/invoke/VarHandle" ∧ (parseMethodDescriptor yX2_taken.desc).map (fun d => d.parameters.length) = some 3 := by decide +kernel
def fX2_taken (w_t : Int32 × Int32 × Int64 × Int64 × Int64) (p0 : Int64) (p1 : Int64) (p2 : Int64) : Option (Int64) := bnd (w_t.2.2.1 &&& (((p0 ||| p1) ||| p2) ^^^ (-1))) fun v1 => (fX2_connected w_t p1 (fX2_around w_t v1)).bind fun r2 => some ((p1 &&& (r2 ^^^ (-1))))
set_option maxHeartbeats 4000000 in
set_option maxRecDepth 100000 in
theorem c_X2_taken {l : Launch} {z : Nat} {D : va_G} {K : Nat → ClassId} {σ : mwm} {a_t : Nat} {w_t : Int32 × Int32 × Int64 × Int64 × Int64} {p0 : Int64} {p1 : Int64} {p2 : Int64} (hc_t : σ a_t = some (cl2  w_t)) {v : Int64} (h : fX2_taken w_t p0 p1 p2 = some v) : Met l yX2_taken wsX2_taken ({ frames := 2, cells := 0, slots := 0, locals := 51 } : Room) (PCm z D K [.ref a_t, .long p0, .long p1, .long p2] σ) (qsL v) 0 0 (fun _ => False) := by
  refine mt_enter (cc := cX2_taken) (maxL := 9) (ret := (some .long)) (own := RX2) (lv := [(0, .ref a_t), (1, .long p0), (3, .long p1), (5, .long p2)]) (by decide) rfl rfl (Nat.le_of_ble_eq_true rfl) rfl ?_
  intro p e s m below meth c ls hC hx hb hown hts hK hr hlocks hnm hz hM hS hl
  unfold fX2_taken at h
  refine lv_aload_n hx hb dX2_taken_0 rfl (lv_at hl 0 rfl) ?_
  refine mw_get (ci := 2) (C := RX2) (T := TX2) (N := 5) (v := .long w_t.2.2.1) hC i_X2_taken_X2 hM hc_t rfl 2 (by decide) l_X2_taken_0 rfl rfl dX2_taken_1 ?_
  refine lv_lload_n hx hb dX2_taken_4 rfl (lv_at hl 1 rfl) ?_
  refine lv_lload_n hx hb dX2_taken_5 rfl (lv_at hl 2 rfl) ?_
  refine lv_lor hx hb dX2_taken_6 ?_
  refine lv_lload hx hb dX2_taken_7 (lv_at hl 3 rfl) ?_
  refine lv_lor hx hb dX2_taken_9 ?_
  refine lv_ldc2 (v := -1) hx hb hown (hts _ l_X2_taken_2) dX2_taken_10 ?_
  refine lv_lxor hx hb dX2_taken_13 ?_
  refine lv_land hx hb dX2_taken_14 ?_
  refine lv_topl (fun v1 ev1 => ?_)
  replace h := bnd_at ev1 h
  refine lv_lstore (lv' := [(7, .long v1), (0, .ref a_t), (1, .long p0), (3, .long p1), (5, .long p2)]) hx hb dX2_taken_15 hl (by decide) rfl (fun ls hl => ?_)
  refine lv_lload_n hx hb dX2_taken_17 rfl (lv_at hl 3 rfl) ?_
  refine lv_aload_n hx hb dX2_taken_18 rfl (lv_at hl 1 rfl) ?_
  refine lv_lload_n hx hb dX2_taken_19 rfl (lv_at hl 3 rfl) ?_
  refine lv_aload_n hx hb dX2_taken_20 rfl (lv_at hl 1 rfl) ?_
  refine lv_lload hx hb dX2_taken_21 (lv_at hl 0 rfl) ?_
  refine mw_cl (mw_runV (As := [.long v1]) (rest := [.long p1, .ref a_t, .long p1]) (ci := 2) (C := RX2) (T := TX2) (N := 5) hC hM hS hc_t rfl (c_X2_around (a_t := a_t) (w_t := w_t) (p0 := v1) (hc_t := hc_t) (v := (fX2_around w_t v1)) rfl) gX2_taken_X2_around rfl rfl rfl rfl q_X2_around ⟨Nat.le_of_ble_eq_true rfl, Nat.le_of_ble_eq_true rfl⟩ rfl rfl (Nat.le_of_ble_eq_true rfl) hl.1 dX2_taken_23 ⟨Nat.le_of_ble_eq_true rfl, Nat.le_of_ble_eq_true rfl⟩) ?_
  obtain ⟨r2, hr2, h⟩ := ob_some h
  refine mw_cl (mw_runV (As := [.long p1, .long (fX2_around w_t v1)]) (rest := [.long p1]) (ci := 2) (C := RX2) (T := TX2) (N := 5) hC hM hS hc_t rfl (c_X2_connected (a_t := a_t) (w_t := w_t) (p0 := p1) (p1 := (fX2_around w_t v1)) (hc_t := hc_t) (v := r2) hr2) gX2_taken_X2_connected rfl rfl rfl rfl q_X2_connected ⟨Nat.le_of_ble_eq_true rfl, Nat.le_of_ble_eq_true rfl⟩ rfl rfl (Nat.le_of_ble_eq_true rfl) hl.1 dX2_taken_26 ⟨Nat.le_of_ble_eq_true rfl, Nat.le_of_ble_eq_true rfl⟩) ?_
  refine lv_ldc2 (v := -1) hx hb hown (hts _ l_X2_taken_2) dX2_taken_29 ?_
  refine lv_lxor hx hb dX2_taken_32 ?_
  refine lv_land hx hb dX2_taken_33 ?_
  cases h
  exact W.lret hx hb hr (fun t ht hW => ⟨_, rfl, rfl, ht⟩) (fun _ h9 => by cases h9) dX2_taken_34 hlocks
theorem l_X0_mustNotCome_0 : Cond.fieldLink RX0 53 "CornerStones$Game" "setting" "I" ∈ wsX0_mustNotCome := (List.mem_cons_of_mem _ (List.mem_append_left _ (List.mem_of_getElem? (i := 0) rfl)))
theorem i_X0_mustNotCome_X0 : ∀ w ∈ wsX00, w ∈ wsX0_mustNotCome := fun _ h => (List.mem_cons_of_mem _ (List.mem_append_right _ h))
theorem l_X0_mustNotCome_2 : Cond.fieldLink RX0 27 "CornerStones$Game" "moves" "I" ∈ wsX0_mustNotCome := (List.mem_cons_of_mem _ (List.mem_append_left _ (List.mem_of_getElem? (i := 1) rfl)))
theorem l_X0_mustNotCome_3 : Cond.methodLink RX0 119 Lib.Math.max.name ∈ wsX0_mustNotCome := (List.mem_cons_of_mem _ (List.mem_append_left _ (List.mem_of_getElem? (i := 2) rfl)))
theorem l_X0_mustNotCome_4 : Cond.static Lib.Math.max.name ∈ wsX0_mustNotCome := (List.mem_cons_of_mem _ (List.mem_append_left _ (List.mem_of_getElem? (i := 3) rfl)))
theorem l_X0_mustNotCome_5 : Cond.initialized "java/lang/Math" ∈ wsX0_mustNotCome := (List.mem_cons_of_mem _ (List.mem_append_left _ (List.mem_of_getElem? (i := 4) rfl)))
theorem l_X0_mustNotCome_6 : Cond.code Lib.Math.max.name Lib.Math.max.code 2 (some .int) ∈ wsX0_mustNotCome := (List.mem_cons_of_mem _ (List.mem_append_left _ (List.mem_of_getElem? (i := 5) rfl)))
theorem l_X0_mustNotCome_7 : Cond.fieldLink RX0 9 "CornerStones$Game" "before0" "[J" ∈ wsX0_mustNotCome := (List.mem_cons_of_mem _ (List.mem_append_left _ (List.mem_of_getElem? (i := 6) rfl)))
theorem l_X0_mustNotCome_8 : Cond.fieldLink RX0 15 "CornerStones$Game" "before1" "[J" ∈ wsX0_mustNotCome := (List.mem_cons_of_mem _ (List.mem_append_left _ (List.mem_of_getElem? (i := 7) rfl)))
theorem q_X0_mustNotCome : yX0_mustNotCome.cls ≠ "java/lang/invoke/MethodHandle" ∧ yX0_mustNotCome.cls ≠ "java/lang/invoke/VarHandle" ∧ (parseMethodDescriptor yX0_mustNotCome.desc).map (fun d => d.parameters.length) = some 2 := by decide +kernel
def fX0_mustNotCome_51 (w_t : Int32 × Int32 × Int32 × Int32 × Int64 × Int64 × Int32 × Int32) (f_t_before0 : Nat → Int64) (f_t_before1 : Nat → Int64) (p0 : Int64) (p1 : Int64) : Nat → Int32 → Int32 → Option (Bool)
  | 0, _, _ => none
  | fu + 1, x6, x7 => if x6 ≤ x7 then (some (false)) else (if 121 ≤ x7 then (some (false)) else (if 121 ≤ x7 then (some (false)) else (if inB x7 121 = true then (if (f_t_before0 x7.toNatClampNeg) = p0 then (if inB x7 121 = true then (if (f_t_before1 x7.toNatClampNeg) = p1 then (some (true)) else (fX0_mustNotCome_51 w_t f_t_before0 f_t_before1 p0 p1 fu x6 (x7 + 1))) else none) else (fX0_mustNotCome_51 w_t f_t_before0 f_t_before1 p0 p1 fu x6 (x7 + 1))) else none)))
def fX0_mustNotCome (w_t : Int32 × Int32 × Int32 × Int32 × Int64 × Int64 × Int32 × Int32) (f_t_before0 : Nat → Int64) (f_t_before1 : Nat → Int64) (p0 : Int64) (p1 : Int64) : Option (Bool) := if w_t.1 = 1 then (if w_t.1 = 1 then (fX0_mustNotCome_51 w_t f_t_before0 f_t_before1 p0 p1 5000 (w_t.2.1 + 1) 0 ) else (fX0_mustNotCome_51 w_t f_t_before0 f_t_before1 p0 p1 5000 w_t.2.1 0 )) else (if w_t.1 = 1 then (fX0_mustNotCome_51 w_t f_t_before0 f_t_before1 p0 p1 5000 (w_t.2.1 + 1) (imax (w_t.2.1 - 1) 0) ) else (fX0_mustNotCome_51 w_t f_t_before0 f_t_before1 p0 p1 5000 w_t.2.1 (imax (w_t.2.1 - 1) 0) ))
set_option maxHeartbeats 4000000 in
set_option maxRecDepth 100000 in
theorem c_X0_mustNotCome {l : Launch} {z : Nat} {D : va_G} {K : Nat → ClassId} {σ : mwm} {a_t a_t_before0 a_t_before1 a_t_grid : Nat} {w_t : Int32 × Int32 × Int32 × Int32 × Int64 × Int64 × Int32 × Int32} {f_t_before0 : Nat → Int64} {f_t_before1 : Nat → Int64} {p0 : Int64} {p1 : Int64} (hc_t : σ a_t = some (cl0 a_t_before0 a_t_before1 a_t_grid w_t)) (hc_t_before0 : σ a_t_before0 = some (eJ K 121 f_t_before0)) (hc_t_before1 : σ a_t_before1 = some (eJ K 121 f_t_before1)) {v : Bool} (h : fX0_mustNotCome w_t f_t_before0 f_t_before1 p0 p1 = some v) : Met l yX0_mustNotCome wsX0_mustNotCome ({ frames := 1, cells := 0, slots := 0, locals := 21 } : Room) (PCm z D K [.ref a_t, .long p0, .long p1] σ) (qsI (b2i v)) 0 0 (fun _ => False) := by
  refine mt_enter (cc := cX0_mustNotCome) (maxL := 8) (ret := (some .boolean)) (own := RX0) (lv := [(0, .ref a_t), (1, .long p0), (3, .long p1)]) (by decide) rfl rfl (Nat.le_of_ble_eq_true rfl) rfl ?_
  intro p e s m below meth c ls hC hx hb hown hts hK hr hlocks hnm hz hM hS hl
  unfold fX0_mustNotCome at h
  refine lv_aload_n hx hb dX0_mustNotCome_0 rfl (lv_at hl 0 rfl) ?_
  refine mw_get (ci := 0) (C := RX0) (T := TX0) (N := 11) (v := .int w_t.1) hC i_X0_mustNotCome_X0 hM hc_t rfl 3 (by decide) l_X0_mustNotCome_0 rfl rfl dX0_mustNotCome_1 ?_
  refine lv_iconst (v := 1) hx hb dX0_mustNotCome_4 (by decide) ?_
  refine lv_icmp_ne (tgt := 12) hx hb dX0_mustNotCome_5 (by decide) (fun c1 => ?_) (fun c1 => ?_)
  · replace h := it_neg c1 h
    refine lv_aload_n hx hb dX0_mustNotCome_12 rfl (lv_at hl 0 rfl) ?_
    refine mw_get (ci := 0) (C := RX0) (T := TX0) (N := 11) (v := .int w_t.2.1) hC i_X0_mustNotCome_X0 hM hc_t rfl 4 (by decide) l_X0_mustNotCome_2 rfl rfl dX0_mustNotCome_13 ?_
    refine lv_iconst (v := 1) hx hb dX0_mustNotCome_16 (by decide) ?_
    refine lv_isub hx hb dX0_mustNotCome_17 ?_
    refine lv_iconst (v := 0) hx hb dX0_mustNotCome_18 (by decide) ?_
    refine mw_max hC l_X0_mustNotCome_3 l_X0_mustNotCome_4 l_X0_mustNotCome_5 l_X0_mustNotCome_6 hl.1 (Nat.le_of_ble_eq_true rfl) (Nat.le_of_ble_eq_true rfl) (Nat.le_of_ble_eq_true rfl) (Nat.le_of_ble_eq_true rfl) dX0_mustNotCome_19 ?_
    refine lv_istore (lv' := [(5, .int (imax (w_t.2.1 - 1) 0)), (0, .ref a_t), (1, .long p0), (3, .long p1)]) hx hb dX0_mustNotCome_22 hl (by decide) rfl (fun ls hl => ?_)
    refine lv_aload_n hx hb dX0_mustNotCome_24 rfl (lv_at hl 1 rfl) ?_
    refine mw_get (ci := 0) (C := RX0) (T := TX0) (N := 11) (v := .int w_t.1) hC i_X0_mustNotCome_X0 hM hc_t rfl 3 (by decide) l_X0_mustNotCome_0 rfl rfl dX0_mustNotCome_25 ?_
    refine lv_iconst (v := 1) hx hb dX0_mustNotCome_28 (by decide) ?_
    refine lv_icmp_ne (tgt := 41) hx hb dX0_mustNotCome_29 (by decide) (fun c2 => ?_) (fun c2 => ?_)
    · replace h := it_neg c2 h
      refine lv_aload_n hx hb dX0_mustNotCome_41 rfl (lv_at hl 1 rfl) ?_
      refine mw_get (ci := 0) (C := RX0) (T := TX0) (N := 11) (v := .int w_t.2.1) hC i_X0_mustNotCome_X0 hM hc_t rfl 4 (by decide) l_X0_mustNotCome_2 rfl rfl dX0_mustNotCome_42 ?_
      refine lv_istore (lv' := [(6, .int w_t.2.1), (5, .int (imax (w_t.2.1 - 1) 0)), (0, .ref a_t), (1, .long p0), (3, .long p1)]) hx hb dX0_mustNotCome_45 hl (by decide) rfl (fun ls hl => ?_)
      refine lv_iload hx hb dX0_mustNotCome_47 (lv_at hl 1 rfl) ?_
      refine lv_istore (lv' := [(7, .int (imax (w_t.2.1 - 1) 0)), (6, .int w_t.2.1), (5, .int (imax (w_t.2.1 - 1) 0)), (0, .ref a_t), (1, .long p0), (3, .long p1)]) hx hb dX0_mustNotCome_49 hl (by decide) rfl (fun ls hl => ?_)
      have L51 : ∀ (fu0 : Nat) (x6 : Int32) (x7 : Int32), fX0_mustNotCome_51 w_t f_t_before0 f_t_before1 p0 p1 fu0 x6 x7 = some v → ∀ ls : Array Slot, lv_has ls 8 [(7, .int x7), (6, .int x6), (0, .ref a_t), (1, .long p0), (3, .long p1)] → W p l e ({ frames := 1, cells := 0, slots := 0, locals := 21 } : Room) s m ([.ref a_t, .long p0, .long p1] : List Value).toArray below meth c s.heap [] 0 0 (MQ below (qsI (b2i v)) ([.ref a_t, .long p0, .long p1] : List Value).toArray s 0 0 (fun _ => False)) (F0 m 51 ls []) := by
        intro fu0
        induction fu0 with
        | zero =>
          intro x6 x7 h
          unfold fX0_mustNotCome_51 at h
          cases h
        | succ fu0 ih0 =>
          intro x6 x7 h ls hl
          unfold fX0_mustNotCome_51 at h
          refine lv_iload hx hb dX0_mustNotCome_51 (lv_at hl 0 rfl) ?_
          refine lv_iload hx hb dX0_mustNotCome_53 (lv_at hl 1 rfl) ?_
          refine lv_icmp_ge (tgt := 110) hx hb dX0_mustNotCome_55 (by decide) (fun c3 => ?_) (fun c3 => ?_)
          · replace h := it_pos c3 h
            refine lv_iconst (v := 0) hx hb dX0_mustNotCome_110 (by decide) ?_
            cases h
            exact W.zret (ty := .boolean) (v := b2i false) hx hb hr (b2i_nar _) (fun t ht hW => ⟨_, rfl, rfl, ht⟩) (fun _ h9 => by cases h9) dX0_mustNotCome_111 hlocks
          · replace h := it_neg c3 h
            refine lv_iload hx hb dX0_mustNotCome_58 (lv_at hl 0 rfl) ?_
            refine lv_aload_n hx hb dX0_mustNotCome_60 rfl (lv_at hl 2 rfl) ?_
            refine mw_get (ci := 0) (C := RX0) (T := TX0) (N := 11) (v := .ref a_t_before0) hC i_X0_mustNotCome_X0 hM hc_t rfl 0 (by decide) l_X0_mustNotCome_7 rfl rfl dX0_mustNotCome_61 ?_
            refine mw_len (v := 121) hC hM hc_t_before0 0 rfl rfl dX0_mustNotCome_64 ?_
            refine lv_icmp_ge (tgt := 110) hx hb dX0_mustNotCome_65 (by decide) (fun c4 => ?_) (fun c4 => ?_)
            · replace h := it_pos c4 h
              refine lv_iconst (v := 0) hx hb dX0_mustNotCome_110 (by decide) ?_
              cases h
              exact W.zret (ty := .boolean) (v := b2i false) hx hb hr (b2i_nar _) (fun t ht hW => ⟨_, rfl, rfl, ht⟩) (fun _ h9 => by cases h9) dX0_mustNotCome_111 hlocks
            · replace h := it_neg c4 h
              refine lv_iload hx hb dX0_mustNotCome_68 (lv_at hl 0 rfl) ?_
              refine lv_aload_n hx hb dX0_mustNotCome_70 rfl (lv_at hl 2 rfl) ?_
              refine mw_get (ci := 0) (C := RX0) (T := TX0) (N := 11) (v := .ref a_t_before1) hC i_X0_mustNotCome_X0 hM hc_t rfl 1 (by decide) l_X0_mustNotCome_8 rfl rfl dX0_mustNotCome_71 ?_
              refine mw_len (v := 121) hC hM hc_t_before1 0 rfl rfl dX0_mustNotCome_74 ?_
              refine lv_icmp_ge (tgt := 110) hx hb dX0_mustNotCome_75 (by decide) (fun c5 => ?_) (fun c5 => ?_)
              · replace h := it_pos c5 h
                refine lv_iconst (v := 0) hx hb dX0_mustNotCome_110 (by decide) ?_
                cases h
                exact W.zret (ty := .boolean) (v := b2i false) hx hb hr (b2i_nar _) (fun t ht hW => ⟨_, rfl, rfl, ht⟩) (fun _ h9 => by cases h9) dX0_mustNotCome_111 hlocks
              · replace h := it_neg c5 h
                refine lv_aload_n hx hb dX0_mustNotCome_78 rfl (lv_at hl 2 rfl) ?_
                refine mw_get (ci := 0) (C := RX0) (T := TX0) (N := 11) (v := .ref a_t_before0) hC i_X0_mustNotCome_X0 hM hc_t rfl 0 (by decide) l_X0_mustNotCome_7 rfl rfl dX0_mustNotCome_79 ?_
                refine lv_iload hx hb dX0_mustNotCome_82 (lv_at hl 0 rfl) ?_
                obtain ⟨c6, h⟩ := gd_some h
                refine mw_ldJ hC hM hc_t_before0 (inB_ok c6) dX0_mustNotCome_84 ?_
                refine lv_lload_n hx hb dX0_mustNotCome_85 rfl (lv_at hl 3 rfl) ?_
                refine W.lcmp hx hb dX0_mustNotCome_86 ?_
                refine lv_if_ne (tgt := 104) hx hb dX0_mustNotCome_87 (by decide) (fun c7 => ?_) (fun c7 => ?_)
                · replace c7 := mt (lg_cmp_eq _ _).mpr c7
                  replace h := it_neg c7 h
                  refine lv_iinc (v := (x7 + 1)) (lv' := [(7, .int (x7 + 1)), (6, .int x6), (0, .ref a_t), (1, .long p0), (3, .long p1)]) hx hb dX0_mustNotCome_104 hl (k := 0) rfl rfl (by decide) rfl (fun ls hl => ?_)
                  refine lv_goto (tgt := 51) hx hb dX0_mustNotCome_107 (by decide) ?_
                  exact ih0 x6 (x7 + 1) h ls (lv_sub hl [0, 1, 2, 3, 4] rfl)
                · replace c7 := (lg_cmp_eq _ _).mp c7
                  replace h := it_pos c7 h
                  refine lv_aload_n hx hb dX0_mustNotCome_90 rfl (lv_at hl 2 rfl) ?_
                  refine mw_get (ci := 0) (C := RX0) (T := TX0) (N := 11) (v := .ref a_t_before1) hC i_X0_mustNotCome_X0 hM hc_t rfl 1 (by decide) l_X0_mustNotCome_8 rfl rfl dX0_mustNotCome_91 ?_
                  refine lv_iload hx hb dX0_mustNotCome_94 (lv_at hl 0 rfl) ?_
                  obtain ⟨c8, h⟩ := gd_some h
                  refine mw_ldJ hC hM hc_t_before1 (inB_ok c8) dX0_mustNotCome_96 ?_
                  refine lv_lload_n hx hb dX0_mustNotCome_97 rfl (lv_at hl 4 rfl) ?_
                  refine W.lcmp hx hb dX0_mustNotCome_98 ?_
                  refine lv_if_ne (tgt := 104) hx hb dX0_mustNotCome_99 (by decide) (fun c9 => ?_) (fun c9 => ?_)
                  · replace c9 := mt (lg_cmp_eq _ _).mpr c9
                    replace h := it_neg c9 h
                    refine lv_iinc (v := (x7 + 1)) (lv' := [(7, .int (x7 + 1)), (6, .int x6), (0, .ref a_t), (1, .long p0), (3, .long p1)]) hx hb dX0_mustNotCome_104 hl (k := 0) rfl rfl (by decide) rfl (fun ls hl => ?_)
                    refine lv_goto (tgt := 51) hx hb dX0_mustNotCome_107 (by decide) ?_
                    exact ih0 x6 (x7 + 1) h ls (lv_sub hl [0, 1, 2, 3, 4] rfl)
                  · replace c9 := (lg_cmp_eq _ _).mp c9
                    replace h := it_pos c9 h
                    refine lv_iconst (v := 1) hx hb dX0_mustNotCome_102 (by decide) ?_
                    cases h
                    exact W.zret (ty := .boolean) (v := b2i true) hx hb hr (b2i_nar _) (fun t ht hW => ⟨_, rfl, rfl, ht⟩) (fun _ h9 => by cases h9) dX0_mustNotCome_103 hlocks
      exact L51 5000 w_t.2.1 (imax (w_t.2.1 - 1) 0)  h ls (lv_sub hl [0, 1, 3, 4, 5] rfl)
    · replace h := it_pos c2 h
      refine lv_aload_n hx hb dX0_mustNotCome_32 rfl (lv_at hl 1 rfl) ?_
      refine mw_get (ci := 0) (C := RX0) (T := TX0) (N := 11) (v := .int w_t.2.1) hC i_X0_mustNotCome_X0 hM hc_t rfl 4 (by decide) l_X0_mustNotCome_2 rfl rfl dX0_mustNotCome_33 ?_
      refine lv_iconst (v := 1) hx hb dX0_mustNotCome_36 (by decide) ?_
      refine lv_iadd hx hb dX0_mustNotCome_37 ?_
      refine lv_goto (tgt := 45) hx hb dX0_mustNotCome_38 (by decide) ?_
      refine lv_istore (lv' := [(6, .int (w_t.2.1 + 1)), (5, .int (imax (w_t.2.1 - 1) 0)), (0, .ref a_t), (1, .long p0), (3, .long p1)]) hx hb dX0_mustNotCome_45 hl (by decide) rfl (fun ls hl => ?_)
      refine lv_iload hx hb dX0_mustNotCome_47 (lv_at hl 1 rfl) ?_
      refine lv_istore (lv' := [(7, .int (imax (w_t.2.1 - 1) 0)), (6, .int (w_t.2.1 + 1)), (5, .int (imax (w_t.2.1 - 1) 0)), (0, .ref a_t), (1, .long p0), (3, .long p1)]) hx hb dX0_mustNotCome_49 hl (by decide) rfl (fun ls hl => ?_)
      have L51 : ∀ (fu0 : Nat) (x6 : Int32) (x7 : Int32), fX0_mustNotCome_51 w_t f_t_before0 f_t_before1 p0 p1 fu0 x6 x7 = some v → ∀ ls : Array Slot, lv_has ls 8 [(7, .int x7), (6, .int x6), (0, .ref a_t), (1, .long p0), (3, .long p1)] → W p l e ({ frames := 1, cells := 0, slots := 0, locals := 21 } : Room) s m ([.ref a_t, .long p0, .long p1] : List Value).toArray below meth c s.heap [] 0 0 (MQ below (qsI (b2i v)) ([.ref a_t, .long p0, .long p1] : List Value).toArray s 0 0 (fun _ => False)) (F0 m 51 ls []) := by
        intro fu0
        induction fu0 with
        | zero =>
          intro x6 x7 h
          unfold fX0_mustNotCome_51 at h
          cases h
        | succ fu0 ih0 =>
          intro x6 x7 h ls hl
          unfold fX0_mustNotCome_51 at h
          refine lv_iload hx hb dX0_mustNotCome_51 (lv_at hl 0 rfl) ?_
          refine lv_iload hx hb dX0_mustNotCome_53 (lv_at hl 1 rfl) ?_
          refine lv_icmp_ge (tgt := 110) hx hb dX0_mustNotCome_55 (by decide) (fun c10 => ?_) (fun c10 => ?_)
          · replace h := it_pos c10 h
            refine lv_iconst (v := 0) hx hb dX0_mustNotCome_110 (by decide) ?_
            cases h
            exact W.zret (ty := .boolean) (v := b2i false) hx hb hr (b2i_nar _) (fun t ht hW => ⟨_, rfl, rfl, ht⟩) (fun _ h9 => by cases h9) dX0_mustNotCome_111 hlocks
          · replace h := it_neg c10 h
            refine lv_iload hx hb dX0_mustNotCome_58 (lv_at hl 0 rfl) ?_
            refine lv_aload_n hx hb dX0_mustNotCome_60 rfl (lv_at hl 2 rfl) ?_
            refine mw_get (ci := 0) (C := RX0) (T := TX0) (N := 11) (v := .ref a_t_before0) hC i_X0_mustNotCome_X0 hM hc_t rfl 0 (by decide) l_X0_mustNotCome_7 rfl rfl dX0_mustNotCome_61 ?_
            refine mw_len (v := 121) hC hM hc_t_before0 0 rfl rfl dX0_mustNotCome_64 ?_
            refine lv_icmp_ge (tgt := 110) hx hb dX0_mustNotCome_65 (by decide) (fun c11 => ?_) (fun c11 => ?_)
            · replace h := it_pos c11 h
              refine lv_iconst (v := 0) hx hb dX0_mustNotCome_110 (by decide) ?_
              cases h
              exact W.zret (ty := .boolean) (v := b2i false) hx hb hr (b2i_nar _) (fun t ht hW => ⟨_, rfl, rfl, ht⟩) (fun _ h9 => by cases h9) dX0_mustNotCome_111 hlocks
            · replace h := it_neg c11 h
              refine lv_iload hx hb dX0_mustNotCome_68 (lv_at hl 0 rfl) ?_
              refine lv_aload_n hx hb dX0_mustNotCome_70 rfl (lv_at hl 2 rfl) ?_
              refine mw_get (ci := 0) (C := RX0) (T := TX0) (N := 11) (v := .ref a_t_before1) hC i_X0_mustNotCome_X0 hM hc_t rfl 1 (by decide) l_X0_mustNotCome_8 rfl rfl dX0_mustNotCome_71 ?_
              refine mw_len (v := 121) hC hM hc_t_before1 0 rfl rfl dX0_mustNotCome_74 ?_
              refine lv_icmp_ge (tgt := 110) hx hb dX0_mustNotCome_75 (by decide) (fun c12 => ?_) (fun c12 => ?_)
              · replace h := it_pos c12 h
                refine lv_iconst (v := 0) hx hb dX0_mustNotCome_110 (by decide) ?_
                cases h
                exact W.zret (ty := .boolean) (v := b2i false) hx hb hr (b2i_nar _) (fun t ht hW => ⟨_, rfl, rfl, ht⟩) (fun _ h9 => by cases h9) dX0_mustNotCome_111 hlocks
              · replace h := it_neg c12 h
                refine lv_aload_n hx hb dX0_mustNotCome_78 rfl (lv_at hl 2 rfl) ?_
                refine mw_get (ci := 0) (C := RX0) (T := TX0) (N := 11) (v := .ref a_t_before0) hC i_X0_mustNotCome_X0 hM hc_t rfl 0 (by decide) l_X0_mustNotCome_7 rfl rfl dX0_mustNotCome_79 ?_
                refine lv_iload hx hb dX0_mustNotCome_82 (lv_at hl 0 rfl) ?_
                obtain ⟨c13, h⟩ := gd_some h
                refine mw_ldJ hC hM hc_t_before0 (inB_ok c13) dX0_mustNotCome_84 ?_
                refine lv_lload_n hx hb dX0_mustNotCome_85 rfl (lv_at hl 3 rfl) ?_
                refine W.lcmp hx hb dX0_mustNotCome_86 ?_
                refine lv_if_ne (tgt := 104) hx hb dX0_mustNotCome_87 (by decide) (fun c14 => ?_) (fun c14 => ?_)
                · replace c14 := mt (lg_cmp_eq _ _).mpr c14
                  replace h := it_neg c14 h
                  refine lv_iinc (v := (x7 + 1)) (lv' := [(7, .int (x7 + 1)), (6, .int x6), (0, .ref a_t), (1, .long p0), (3, .long p1)]) hx hb dX0_mustNotCome_104 hl (k := 0) rfl rfl (by decide) rfl (fun ls hl => ?_)
                  refine lv_goto (tgt := 51) hx hb dX0_mustNotCome_107 (by decide) ?_
                  exact ih0 x6 (x7 + 1) h ls (lv_sub hl [0, 1, 2, 3, 4] rfl)
                · replace c14 := (lg_cmp_eq _ _).mp c14
                  replace h := it_pos c14 h
                  refine lv_aload_n hx hb dX0_mustNotCome_90 rfl (lv_at hl 2 rfl) ?_
                  refine mw_get (ci := 0) (C := RX0) (T := TX0) (N := 11) (v := .ref a_t_before1) hC i_X0_mustNotCome_X0 hM hc_t rfl 1 (by decide) l_X0_mustNotCome_8 rfl rfl dX0_mustNotCome_91 ?_
                  refine lv_iload hx hb dX0_mustNotCome_94 (lv_at hl 0 rfl) ?_
                  obtain ⟨c15, h⟩ := gd_some h
                  refine mw_ldJ hC hM hc_t_before1 (inB_ok c15) dX0_mustNotCome_96 ?_
                  refine lv_lload_n hx hb dX0_mustNotCome_97 rfl (lv_at hl 4 rfl) ?_
                  refine W.lcmp hx hb dX0_mustNotCome_98 ?_
                  refine lv_if_ne (tgt := 104) hx hb dX0_mustNotCome_99 (by decide) (fun c16 => ?_) (fun c16 => ?_)
                  · replace c16 := mt (lg_cmp_eq _ _).mpr c16
                    replace h := it_neg c16 h
                    refine lv_iinc (v := (x7 + 1)) (lv' := [(7, .int (x7 + 1)), (6, .int x6), (0, .ref a_t), (1, .long p0), (3, .long p1)]) hx hb dX0_mustNotCome_104 hl (k := 0) rfl rfl (by decide) rfl (fun ls hl => ?_)
                    refine lv_goto (tgt := 51) hx hb dX0_mustNotCome_107 (by decide) ?_
                    exact ih0 x6 (x7 + 1) h ls (lv_sub hl [0, 1, 2, 3, 4] rfl)
                  · replace c16 := (lg_cmp_eq _ _).mp c16
                    replace h := it_pos c16 h
                    refine lv_iconst (v := 1) hx hb dX0_mustNotCome_102 (by decide) ?_
                    cases h
                    exact W.zret (ty := .boolean) (v := b2i true) hx hb hr (b2i_nar _) (fun t ht hW => ⟨_, rfl, rfl, ht⟩) (fun _ h9 => by cases h9) dX0_mustNotCome_103 hlocks
      exact L51 5000 (w_t.2.1 + 1) (imax (w_t.2.1 - 1) 0)  h ls (lv_sub hl [0, 1, 3, 4, 5] rfl)
  · replace h := it_pos c1 h
    refine lv_iconst (v := 0) hx hb dX0_mustNotCome_8 (by decide) ?_
    refine lv_goto (tgt := 22) hx hb dX0_mustNotCome_9 (by decide) ?_
    refine lv_istore (lv' := [(5, .int 0), (0, .ref a_t), (1, .long p0), (3, .long p1)]) hx hb dX0_mustNotCome_22 hl (by decide) rfl (fun ls hl => ?_)
    refine lv_aload_n hx hb dX0_mustNotCome_24 rfl (lv_at hl 1 rfl) ?_
    refine mw_get (ci := 0) (C := RX0) (T := TX0) (N := 11) (v := .int w_t.1) hC i_X0_mustNotCome_X0 hM hc_t rfl 3 (by decide) l_X0_mustNotCome_0 rfl rfl dX0_mustNotCome_25 ?_
    refine lv_iconst (v := 1) hx hb dX0_mustNotCome_28 (by decide) ?_
    refine lv_icmp_ne (tgt := 41) hx hb dX0_mustNotCome_29 (by decide) (fun c17 => ?_) (fun c17 => ?_)
    · replace h := it_neg c17 h
      refine lv_aload_n hx hb dX0_mustNotCome_41 rfl (lv_at hl 1 rfl) ?_
      refine mw_get (ci := 0) (C := RX0) (T := TX0) (N := 11) (v := .int w_t.2.1) hC i_X0_mustNotCome_X0 hM hc_t rfl 4 (by decide) l_X0_mustNotCome_2 rfl rfl dX0_mustNotCome_42 ?_
      refine lv_istore (lv' := [(6, .int w_t.2.1), (5, .int 0), (0, .ref a_t), (1, .long p0), (3, .long p1)]) hx hb dX0_mustNotCome_45 hl (by decide) rfl (fun ls hl => ?_)
      refine lv_iload hx hb dX0_mustNotCome_47 (lv_at hl 1 rfl) ?_
      refine lv_istore (lv' := [(7, .int 0), (6, .int w_t.2.1), (5, .int 0), (0, .ref a_t), (1, .long p0), (3, .long p1)]) hx hb dX0_mustNotCome_49 hl (by decide) rfl (fun ls hl => ?_)
      have L51 : ∀ (fu0 : Nat) (x6 : Int32) (x7 : Int32), fX0_mustNotCome_51 w_t f_t_before0 f_t_before1 p0 p1 fu0 x6 x7 = some v → ∀ ls : Array Slot, lv_has ls 8 [(7, .int x7), (6, .int x6), (0, .ref a_t), (1, .long p0), (3, .long p1)] → W p l e ({ frames := 1, cells := 0, slots := 0, locals := 21 } : Room) s m ([.ref a_t, .long p0, .long p1] : List Value).toArray below meth c s.heap [] 0 0 (MQ below (qsI (b2i v)) ([.ref a_t, .long p0, .long p1] : List Value).toArray s 0 0 (fun _ => False)) (F0 m 51 ls []) := by
        intro fu0
        induction fu0 with
        | zero =>
          intro x6 x7 h
          unfold fX0_mustNotCome_51 at h
          cases h
        | succ fu0 ih0 =>
          intro x6 x7 h ls hl
          unfold fX0_mustNotCome_51 at h
          refine lv_iload hx hb dX0_mustNotCome_51 (lv_at hl 0 rfl) ?_
          refine lv_iload hx hb dX0_mustNotCome_53 (lv_at hl 1 rfl) ?_
          refine lv_icmp_ge (tgt := 110) hx hb dX0_mustNotCome_55 (by decide) (fun c18 => ?_) (fun c18 => ?_)
          · replace h := it_pos c18 h
            refine lv_iconst (v := 0) hx hb dX0_mustNotCome_110 (by decide) ?_
            cases h
            exact W.zret (ty := .boolean) (v := b2i false) hx hb hr (b2i_nar _) (fun t ht hW => ⟨_, rfl, rfl, ht⟩) (fun _ h9 => by cases h9) dX0_mustNotCome_111 hlocks
          · replace h := it_neg c18 h
            refine lv_iload hx hb dX0_mustNotCome_58 (lv_at hl 0 rfl) ?_
            refine lv_aload_n hx hb dX0_mustNotCome_60 rfl (lv_at hl 2 rfl) ?_
            refine mw_get (ci := 0) (C := RX0) (T := TX0) (N := 11) (v := .ref a_t_before0) hC i_X0_mustNotCome_X0 hM hc_t rfl 0 (by decide) l_X0_mustNotCome_7 rfl rfl dX0_mustNotCome_61 ?_
            refine mw_len (v := 121) hC hM hc_t_before0 0 rfl rfl dX0_mustNotCome_64 ?_
            refine lv_icmp_ge (tgt := 110) hx hb dX0_mustNotCome_65 (by decide) (fun c19 => ?_) (fun c19 => ?_)
            · replace h := it_pos c19 h
              refine lv_iconst (v := 0) hx hb dX0_mustNotCome_110 (by decide) ?_
              cases h
              exact W.zret (ty := .boolean) (v := b2i false) hx hb hr (b2i_nar _) (fun t ht hW => ⟨_, rfl, rfl, ht⟩) (fun _ h9 => by cases h9) dX0_mustNotCome_111 hlocks
            · replace h := it_neg c19 h
              refine lv_iload hx hb dX0_mustNotCome_68 (lv_at hl 0 rfl) ?_
              refine lv_aload_n hx hb dX0_mustNotCome_70 rfl (lv_at hl 2 rfl) ?_
              refine mw_get (ci := 0) (C := RX0) (T := TX0) (N := 11) (v := .ref a_t_before1) hC i_X0_mustNotCome_X0 hM hc_t rfl 1 (by decide) l_X0_mustNotCome_8 rfl rfl dX0_mustNotCome_71 ?_
              refine mw_len (v := 121) hC hM hc_t_before1 0 rfl rfl dX0_mustNotCome_74 ?_
              refine lv_icmp_ge (tgt := 110) hx hb dX0_mustNotCome_75 (by decide) (fun c20 => ?_) (fun c20 => ?_)
              · replace h := it_pos c20 h
                refine lv_iconst (v := 0) hx hb dX0_mustNotCome_110 (by decide) ?_
                cases h
                exact W.zret (ty := .boolean) (v := b2i false) hx hb hr (b2i_nar _) (fun t ht hW => ⟨_, rfl, rfl, ht⟩) (fun _ h9 => by cases h9) dX0_mustNotCome_111 hlocks
              · replace h := it_neg c20 h
                refine lv_aload_n hx hb dX0_mustNotCome_78 rfl (lv_at hl 2 rfl) ?_
                refine mw_get (ci := 0) (C := RX0) (T := TX0) (N := 11) (v := .ref a_t_before0) hC i_X0_mustNotCome_X0 hM hc_t rfl 0 (by decide) l_X0_mustNotCome_7 rfl rfl dX0_mustNotCome_79 ?_
                refine lv_iload hx hb dX0_mustNotCome_82 (lv_at hl 0 rfl) ?_
                obtain ⟨c21, h⟩ := gd_some h
                refine mw_ldJ hC hM hc_t_before0 (inB_ok c21) dX0_mustNotCome_84 ?_
                refine lv_lload_n hx hb dX0_mustNotCome_85 rfl (lv_at hl 3 rfl) ?_
                refine W.lcmp hx hb dX0_mustNotCome_86 ?_
                refine lv_if_ne (tgt := 104) hx hb dX0_mustNotCome_87 (by decide) (fun c22 => ?_) (fun c22 => ?_)
                · replace c22 := mt (lg_cmp_eq _ _).mpr c22
                  replace h := it_neg c22 h
                  refine lv_iinc (v := (x7 + 1)) (lv' := [(7, .int (x7 + 1)), (6, .int x6), (0, .ref a_t), (1, .long p0), (3, .long p1)]) hx hb dX0_mustNotCome_104 hl (k := 0) rfl rfl (by decide) rfl (fun ls hl => ?_)
                  refine lv_goto (tgt := 51) hx hb dX0_mustNotCome_107 (by decide) ?_
                  exact ih0 x6 (x7 + 1) h ls (lv_sub hl [0, 1, 2, 3, 4] rfl)
                · replace c22 := (lg_cmp_eq _ _).mp c22
                  replace h := it_pos c22 h
                  refine lv_aload_n hx hb dX0_mustNotCome_90 rfl (lv_at hl 2 rfl) ?_
                  refine mw_get (ci := 0) (C := RX0) (T := TX0) (N := 11) (v := .ref a_t_before1) hC i_X0_mustNotCome_X0 hM hc_t rfl 1 (by decide) l_X0_mustNotCome_8 rfl rfl dX0_mustNotCome_91 ?_
                  refine lv_iload hx hb dX0_mustNotCome_94 (lv_at hl 0 rfl) ?_
                  obtain ⟨c23, h⟩ := gd_some h
                  refine mw_ldJ hC hM hc_t_before1 (inB_ok c23) dX0_mustNotCome_96 ?_
                  refine lv_lload_n hx hb dX0_mustNotCome_97 rfl (lv_at hl 4 rfl) ?_
                  refine W.lcmp hx hb dX0_mustNotCome_98 ?_
                  refine lv_if_ne (tgt := 104) hx hb dX0_mustNotCome_99 (by decide) (fun c24 => ?_) (fun c24 => ?_)
                  · replace c24 := mt (lg_cmp_eq _ _).mpr c24
                    replace h := it_neg c24 h
                    refine lv_iinc (v := (x7 + 1)) (lv' := [(7, .int (x7 + 1)), (6, .int x6), (0, .ref a_t), (1, .long p0), (3, .long p1)]) hx hb dX0_mustNotCome_104 hl (k := 0) rfl rfl (by decide) rfl (fun ls hl => ?_)
                    refine lv_goto (tgt := 51) hx hb dX0_mustNotCome_107 (by decide) ?_
                    exact ih0 x6 (x7 + 1) h ls (lv_sub hl [0, 1, 2, 3, 4] rfl)
                  · replace c24 := (lg_cmp_eq _ _).mp c24
                    replace h := it_pos c24 h
                    refine lv_iconst (v := 1) hx hb dX0_mustNotCome_102 (by decide) ?_
                    cases h
                    exact W.zret (ty := .boolean) (v := b2i true) hx hb hr (b2i_nar _) (fun t ht hW => ⟨_, rfl, rfl, ht⟩) (fun _ h9 => by cases h9) dX0_mustNotCome_103 hlocks
      exact L51 5000 w_t.2.1 0  h ls (lv_sub hl [0, 1, 3, 4, 5] rfl)
    · replace h := it_pos c17 h
      refine lv_aload_n hx hb dX0_mustNotCome_32 rfl (lv_at hl 1 rfl) ?_
      refine mw_get (ci := 0) (C := RX0) (T := TX0) (N := 11) (v := .int w_t.2.1) hC i_X0_mustNotCome_X0 hM hc_t rfl 4 (by decide) l_X0_mustNotCome_2 rfl rfl dX0_mustNotCome_33 ?_
      refine lv_iconst (v := 1) hx hb dX0_mustNotCome_36 (by decide) ?_
      refine lv_iadd hx hb dX0_mustNotCome_37 ?_
      refine lv_goto (tgt := 45) hx hb dX0_mustNotCome_38 (by decide) ?_
      refine lv_istore (lv' := [(6, .int (w_t.2.1 + 1)), (5, .int 0), (0, .ref a_t), (1, .long p0), (3, .long p1)]) hx hb dX0_mustNotCome_45 hl (by decide) rfl (fun ls hl => ?_)
      refine lv_iload hx hb dX0_mustNotCome_47 (lv_at hl 1 rfl) ?_
      refine lv_istore (lv' := [(7, .int 0), (6, .int (w_t.2.1 + 1)), (5, .int 0), (0, .ref a_t), (1, .long p0), (3, .long p1)]) hx hb dX0_mustNotCome_49 hl (by decide) rfl (fun ls hl => ?_)
      have L51 : ∀ (fu0 : Nat) (x6 : Int32) (x7 : Int32), fX0_mustNotCome_51 w_t f_t_before0 f_t_before1 p0 p1 fu0 x6 x7 = some v → ∀ ls : Array Slot, lv_has ls 8 [(7, .int x7), (6, .int x6), (0, .ref a_t), (1, .long p0), (3, .long p1)] → W p l e ({ frames := 1, cells := 0, slots := 0, locals := 21 } : Room) s m ([.ref a_t, .long p0, .long p1] : List Value).toArray below meth c s.heap [] 0 0 (MQ below (qsI (b2i v)) ([.ref a_t, .long p0, .long p1] : List Value).toArray s 0 0 (fun _ => False)) (F0 m 51 ls []) := by
        intro fu0
        induction fu0 with
        | zero =>
          intro x6 x7 h
          unfold fX0_mustNotCome_51 at h
          cases h
        | succ fu0 ih0 =>
          intro x6 x7 h ls hl
          unfold fX0_mustNotCome_51 at h
          refine lv_iload hx hb dX0_mustNotCome_51 (lv_at hl 0 rfl) ?_
          refine lv_iload hx hb dX0_mustNotCome_53 (lv_at hl 1 rfl) ?_
          refine lv_icmp_ge (tgt := 110) hx hb dX0_mustNotCome_55 (by decide) (fun c25 => ?_) (fun c25 => ?_)
          · replace h := it_pos c25 h
            refine lv_iconst (v := 0) hx hb dX0_mustNotCome_110 (by decide) ?_
            cases h
            exact W.zret (ty := .boolean) (v := b2i false) hx hb hr (b2i_nar _) (fun t ht hW => ⟨_, rfl, rfl, ht⟩) (fun _ h9 => by cases h9) dX0_mustNotCome_111 hlocks
          · replace h := it_neg c25 h
            refine lv_iload hx hb dX0_mustNotCome_58 (lv_at hl 0 rfl) ?_
            refine lv_aload_n hx hb dX0_mustNotCome_60 rfl (lv_at hl 2 rfl) ?_
            refine mw_get (ci := 0) (C := RX0) (T := TX0) (N := 11) (v := .ref a_t_before0) hC i_X0_mustNotCome_X0 hM hc_t rfl 0 (by decide) l_X0_mustNotCome_7 rfl rfl dX0_mustNotCome_61 ?_
            refine mw_len (v := 121) hC hM hc_t_before0 0 rfl rfl dX0_mustNotCome_64 ?_
            refine lv_icmp_ge (tgt := 110) hx hb dX0_mustNotCome_65 (by decide) (fun c26 => ?_) (fun c26 => ?_)
            · replace h := it_pos c26 h
              refine lv_iconst (v := 0) hx hb dX0_mustNotCome_110 (by decide) ?_
              cases h
              exact W.zret (ty := .boolean) (v := b2i false) hx hb hr (b2i_nar _) (fun t ht hW => ⟨_, rfl, rfl, ht⟩) (fun _ h9 => by cases h9) dX0_mustNotCome_111 hlocks
            · replace h := it_neg c26 h
              refine lv_iload hx hb dX0_mustNotCome_68 (lv_at hl 0 rfl) ?_
              refine lv_aload_n hx hb dX0_mustNotCome_70 rfl (lv_at hl 2 rfl) ?_
              refine mw_get (ci := 0) (C := RX0) (T := TX0) (N := 11) (v := .ref a_t_before1) hC i_X0_mustNotCome_X0 hM hc_t rfl 1 (by decide) l_X0_mustNotCome_8 rfl rfl dX0_mustNotCome_71 ?_
              refine mw_len (v := 121) hC hM hc_t_before1 0 rfl rfl dX0_mustNotCome_74 ?_
              refine lv_icmp_ge (tgt := 110) hx hb dX0_mustNotCome_75 (by decide) (fun c27 => ?_) (fun c27 => ?_)
              · replace h := it_pos c27 h
                refine lv_iconst (v := 0) hx hb dX0_mustNotCome_110 (by decide) ?_
                cases h
                exact W.zret (ty := .boolean) (v := b2i false) hx hb hr (b2i_nar _) (fun t ht hW => ⟨_, rfl, rfl, ht⟩) (fun _ h9 => by cases h9) dX0_mustNotCome_111 hlocks
              · replace h := it_neg c27 h
                refine lv_aload_n hx hb dX0_mustNotCome_78 rfl (lv_at hl 2 rfl) ?_
                refine mw_get (ci := 0) (C := RX0) (T := TX0) (N := 11) (v := .ref a_t_before0) hC i_X0_mustNotCome_X0 hM hc_t rfl 0 (by decide) l_X0_mustNotCome_7 rfl rfl dX0_mustNotCome_79 ?_
                refine lv_iload hx hb dX0_mustNotCome_82 (lv_at hl 0 rfl) ?_
                obtain ⟨c28, h⟩ := gd_some h
                refine mw_ldJ hC hM hc_t_before0 (inB_ok c28) dX0_mustNotCome_84 ?_
                refine lv_lload_n hx hb dX0_mustNotCome_85 rfl (lv_at hl 3 rfl) ?_
                refine W.lcmp hx hb dX0_mustNotCome_86 ?_
                refine lv_if_ne (tgt := 104) hx hb dX0_mustNotCome_87 (by decide) (fun c29 => ?_) (fun c29 => ?_)
                · replace c29 := mt (lg_cmp_eq _ _).mpr c29
                  replace h := it_neg c29 h
                  refine lv_iinc (v := (x7 + 1)) (lv' := [(7, .int (x7 + 1)), (6, .int x6), (0, .ref a_t), (1, .long p0), (3, .long p1)]) hx hb dX0_mustNotCome_104 hl (k := 0) rfl rfl (by decide) rfl (fun ls hl => ?_)
                  refine lv_goto (tgt := 51) hx hb dX0_mustNotCome_107 (by decide) ?_
                  exact ih0 x6 (x7 + 1) h ls (lv_sub hl [0, 1, 2, 3, 4] rfl)
                · replace c29 := (lg_cmp_eq _ _).mp c29
                  replace h := it_pos c29 h
                  refine lv_aload_n hx hb dX0_mustNotCome_90 rfl (lv_at hl 2 rfl) ?_
                  refine mw_get (ci := 0) (C := RX0) (T := TX0) (N := 11) (v := .ref a_t_before1) hC i_X0_mustNotCome_X0 hM hc_t rfl 1 (by decide) l_X0_mustNotCome_8 rfl rfl dX0_mustNotCome_91 ?_
                  refine lv_iload hx hb dX0_mustNotCome_94 (lv_at hl 0 rfl) ?_
                  obtain ⟨c30, h⟩ := gd_some h
                  refine mw_ldJ hC hM hc_t_before1 (inB_ok c30) dX0_mustNotCome_96 ?_
                  refine lv_lload_n hx hb dX0_mustNotCome_97 rfl (lv_at hl 4 rfl) ?_
                  refine W.lcmp hx hb dX0_mustNotCome_98 ?_
                  refine lv_if_ne (tgt := 104) hx hb dX0_mustNotCome_99 (by decide) (fun c31 => ?_) (fun c31 => ?_)
                  · replace c31 := mt (lg_cmp_eq _ _).mpr c31
                    replace h := it_neg c31 h
                    refine lv_iinc (v := (x7 + 1)) (lv' := [(7, .int (x7 + 1)), (6, .int x6), (0, .ref a_t), (1, .long p0), (3, .long p1)]) hx hb dX0_mustNotCome_104 hl (k := 0) rfl rfl (by decide) rfl (fun ls hl => ?_)
                    refine lv_goto (tgt := 51) hx hb dX0_mustNotCome_107 (by decide) ?_
                    exact ih0 x6 (x7 + 1) h ls (lv_sub hl [0, 1, 2, 3, 4] rfl)
                  · replace c31 := (lg_cmp_eq _ _).mp c31
                    replace h := it_pos c31 h
                    refine lv_iconst (v := 1) hx hb dX0_mustNotCome_102 (by decide) ?_
                    cases h
                    exact W.zret (ty := .boolean) (v := b2i true) hx hb hr (b2i_nar _) (fun t ht hW => ⟨_, rfl, rfl, ht⟩) (fun _ h9 => by cases h9) dX0_mustNotCome_103 hlocks
      exact L51 5000 (w_t.2.1 + 1) 0  h ls (lv_sub hl [0, 1, 3, 4, 5] rfl)
theorem l_X0_reasonAt_0 : Cond.fieldLink RX0 18 "CornerStones$Game" "grid" "LCornerStones$Grid;" ∈ wsX0_reasonAt := (List.mem_cons_of_mem _ (List.mem_append_left _ (List.mem_append_left _ (List.mem_append_left _ (List.mem_of_getElem? (i := 0) rfl)))))
theorem i_X0_reasonAt_X0 : ∀ w ∈ wsX00, w ∈ wsX0_reasonAt := fun _ h => (List.mem_cons_of_mem _ (List.mem_append_left _ (List.mem_append_right _ h)))
theorem l_X0_reasonAt_2 : Cond.constantLong RX0 83 (-1) ∈ wsX0_reasonAt := (List.mem_cons_of_mem _ (List.mem_append_left _ (List.mem_append_left _ (List.mem_append_left _ (List.mem_of_getElem? (i := 1) rfl)))))
theorem l_X0_reasonAt_3 : Cond.fieldLink RX0 27 "CornerStones$Game" "moves" "I" ∈ wsX0_reasonAt := (List.mem_cons_of_mem _ (List.mem_append_left _ (List.mem_append_left _ (List.mem_append_left _ (List.mem_of_getElem? (i := 2) rfl)))))
theorem q_X0_reasonAt : yX0_reasonAt.cls ≠ "java/lang/invoke/MethodHandle" ∧ yX0_reasonAt.cls ≠ "java/lang/invoke/VarHandle" ∧ (parseMethodDescriptor yX0_reasonAt.desc).map (fun d => d.parameters.length) = some 1 := by decide +kernel
def fX0_reasonAt (w_t : Int32 × Int32 × Int32 × Int32 × Int64 × Int64 × Int32 × Int32) (f_t_before0 : Nat → Int64) (f_t_before1 : Nat → Int64) (w_t_grid : Int32 × Int32 × Int64 × Int64 × Int64) (p0 : Int32) : Option (Int32) := bnd (fX0_stonesOf w_t (fX0_turn w_t)) fun v1 => bnd (fX0_stonesOf w_t (1 - (fX0_turn w_t))) fun v2 => if ((v1 ||| v2) &&& (shlL 1 p0)) = 0 then ((fX2_taken w_t_grid v1 v2 (shlL 1 p0)).bind fun r4 => (fX2_liberties w_t_grid (v1 ||| (shlL 1 p0)) (v2 &&& (r4 ^^^ (-1))) (shlL 1 p0)).bind fun r5 => if r5 = 0 then (some ((2 : Int32))) else (if (fX0_turn w_t) = 0 then ((fX0_mustNotCome w_t f_t_before0 f_t_before1 (v1 ||| (shlL 1 p0)) (v2 &&& (r4 ^^^ (-1)))).bind fun r11 => if r11 = true then (some ((3 : Int32))) else (if w_t.2.1 < 120 then (some ((0 : Int32))) else (some ((4 : Int32))))) else ((fX0_mustNotCome w_t f_t_before0 f_t_before1 (v2 &&& (r4 ^^^ (-1))) (v1 ||| (shlL 1 p0))).bind fun r8 => if r8 = true then (some ((3 : Int32))) else (if w_t.2.1 < 120 then (some ((0 : Int32))) else (some ((4 : Int32))))))) else (some ((1 : Int32)))
set_option maxHeartbeats 4000000 in
set_option maxRecDepth 100000 in
theorem c_X0_reasonAt {l : Launch} {z : Nat} {D : va_G} {K : Nat → ClassId} {σ : mwm} {a_t a_t_before0 a_t_before1 a_t_grid : Nat} {w_t : Int32 × Int32 × Int32 × Int32 × Int64 × Int64 × Int32 × Int32} {f_t_before0 : Nat → Int64} {f_t_before1 : Nat → Int64} {w_t_grid : Int32 × Int32 × Int64 × Int64 × Int64} {p0 : Int32} (hc_t : σ a_t = some (cl0 a_t_before0 a_t_before1 a_t_grid w_t)) (hc_t_before0 : σ a_t_before0 = some (eJ K 121 f_t_before0)) (hc_t_before1 : σ a_t_before1 = some (eJ K 121 f_t_before1)) (hc_t_grid : σ a_t_grid = some (cl2  w_t_grid)) {v : Int32} (h : fX0_reasonAt w_t f_t_before0 f_t_before1 w_t_grid p0 = some v) : Met l yX0_reasonAt wsX0_reasonAt ({ frames := 3, cells := 0, slots := 0, locals := 79 } : Room) (PCm z D K [.ref a_t, .int p0] σ) (qsI v) 0 0 (fun _ => False) := by
  refine mt_enter (cc := cX0_reasonAt) (maxL := 8) (ret := (some .int)) (own := RX0) (lv := [(0, .ref a_t), (1, .int p0)]) (by decide) rfl rfl (Nat.le_of_ble_eq_true rfl) rfl ?_
  intro p e s m below meth c ls hC hx hb hown hts hK hr hlocks hnm hz hM hS hl
  unfold fX0_reasonAt at h
  refine lv_lconst (v := 1) hx hb dX0_reasonAt_0 (by decide) ?_
  refine lv_iload_n hx hb dX0_reasonAt_1 rfl (lv_at hl 1 rfl) ?_
  refine lv_lshl (v := (shlL 1 p0)) hx hb dX0_reasonAt_2 rfl ?_
  refine lv_lstore_n (lv' := [(2, .long (shlL 1 p0)), (0, .ref a_t), (1, .int p0)]) hx hb dX0_reasonAt_3 rfl hl (by decide) rfl (fun ls hl => ?_)
  refine lv_aload_n hx hb dX0_reasonAt_4 rfl (lv_at hl 1 rfl) ?_
  refine lv_aload_n hx hb dX0_reasonAt_5 rfl (lv_at hl 1 rfl) ?_
  refine mw_ci (mw_runV (As := []) (rest := [.ref a_t]) (ci := 0) (C := RX0) (T := TX0) (N := 11) hC hM hS hc_t rfl (c_X0_turn (a_t := a_t) (a_t_before0 := a_t_before0) (a_t_before1 := a_t_before1) (a_t_grid := a_t_grid) (w_t := w_t) (hc_t := hc_t) (v := (fX0_turn w_t)) rfl) gX0_reasonAt_X0_turn rfl rfl rfl rfl q_X0_turn ⟨Nat.le_of_ble_eq_true rfl, Nat.le_of_ble_eq_true rfl⟩ rfl rfl (Nat.le_of_ble_eq_true rfl) hl.1 dX0_reasonAt_6 ⟨Nat.le_of_ble_eq_true rfl, Nat.le_of_ble_eq_true rfl⟩) ?_
  refine mw_cl (mw_runV (As := [.int (fX0_turn w_t)]) (rest := []) (ci := 0) (C := RX0) (T := TX0) (N := 11) hC hM hS hc_t rfl (c_X0_stonesOf (a_t := a_t) (a_t_before0 := a_t_before0) (a_t_before1 := a_t_before1) (a_t_grid := a_t_grid) (w_t := w_t) (p0 := (fX0_turn w_t)) (hc_t := hc_t) (v := (fX0_stonesOf w_t (fX0_turn w_t))) rfl) gX0_reasonAt_X0_stonesOf rfl rfl rfl rfl q_X0_stonesOf ⟨Nat.le_of_ble_eq_true rfl, Nat.le_of_ble_eq_true rfl⟩ rfl rfl (Nat.le_of_ble_eq_true rfl) hl.1 dX0_reasonAt_9 ⟨Nat.le_of_ble_eq_true rfl, Nat.le_of_ble_eq_true rfl⟩) ?_
  refine lv_topl (fun v1 ev1 => ?_)
  replace h := bnd_at ev1 h
  refine lv_lstore (lv' := [(4, .long v1), (2, .long (shlL 1 p0)), (0, .ref a_t), (1, .int p0)]) hx hb dX0_reasonAt_12 hl (by decide) rfl (fun ls hl => ?_)
  refine lv_aload_n hx hb dX0_reasonAt_14 rfl (lv_at hl 2 rfl) ?_
  refine lv_iconst (v := 1) hx hb dX0_reasonAt_15 (by decide) ?_
  refine lv_aload_n hx hb dX0_reasonAt_16 rfl (lv_at hl 2 rfl) ?_
  refine mw_ci (mw_runV (As := []) (rest := [.int 1, .ref a_t]) (ci := 0) (C := RX0) (T := TX0) (N := 11) hC hM hS hc_t rfl (c_X0_turn (a_t := a_t) (a_t_before0 := a_t_before0) (a_t_before1 := a_t_before1) (a_t_grid := a_t_grid) (w_t := w_t) (hc_t := hc_t) (v := (fX0_turn w_t)) rfl) gX0_reasonAt_X0_turn rfl rfl rfl rfl q_X0_turn ⟨Nat.le_of_ble_eq_true rfl, Nat.le_of_ble_eq_true rfl⟩ rfl rfl (Nat.le_of_ble_eq_true rfl) hl.1 dX0_reasonAt_17 ⟨Nat.le_of_ble_eq_true rfl, Nat.le_of_ble_eq_true rfl⟩) ?_
  refine lv_isub hx hb dX0_reasonAt_20 ?_
  refine mw_cl (mw_runV (As := [.int (1 - (fX0_turn w_t))]) (rest := []) (ci := 0) (C := RX0) (T := TX0) (N := 11) hC hM hS hc_t rfl (c_X0_stonesOf (a_t := a_t) (a_t_before0 := a_t_before0) (a_t_before1 := a_t_before1) (a_t_grid := a_t_grid) (w_t := w_t) (p0 := (1 - (fX0_turn w_t))) (hc_t := hc_t) (v := (fX0_stonesOf w_t (1 - (fX0_turn w_t)))) rfl) gX0_reasonAt_X0_stonesOf rfl rfl rfl rfl q_X0_stonesOf ⟨Nat.le_of_ble_eq_true rfl, Nat.le_of_ble_eq_true rfl⟩ rfl rfl (Nat.le_of_ble_eq_true rfl) hl.1 dX0_reasonAt_21 ⟨Nat.le_of_ble_eq_true rfl, Nat.le_of_ble_eq_true rfl⟩) ?_
  refine lv_topl (fun v2 ev2 => ?_)
  replace h := bnd_at ev2 h
  refine lv_lstore (lv' := [(6, .long v2), (4, .long v1), (2, .long (shlL 1 p0)), (0, .ref a_t), (1, .int p0)]) hx hb dX0_reasonAt_24 hl (by decide) rfl (fun ls hl => ?_)
  refine lv_lload hx hb dX0_reasonAt_26 (lv_at hl 1 rfl) ?_
  refine lv_lload hx hb dX0_reasonAt_28 (lv_at hl 0 rfl) ?_
  refine lv_lor hx hb dX0_reasonAt_30 ?_
  refine lv_lload_n hx hb dX0_reasonAt_31 rfl (lv_at hl 2 rfl) ?_
  refine lv_land hx hb dX0_reasonAt_32 ?_
  refine lv_lconst (v := 0) hx hb dX0_reasonAt_33 (by decide) ?_
  refine W.lcmp hx hb dX0_reasonAt_34 ?_
  refine lv_if_eq (tgt := 40) hx hb dX0_reasonAt_35 (by decide) (fun c3 => ?_) (fun c3 => ?_)
  · replace c3 := (lg_cmp_eq _ _).mp c3
    replace h := it_pos c3 h
    refine lv_lload hx hb dX0_reasonAt_40 (lv_at hl 0 rfl) ?_
    refine lv_aload_n hx hb dX0_reasonAt_42 rfl (lv_at hl 3 rfl) ?_
    refine mw_get (ci := 0) (C := RX0) (T := TX0) (N := 11) (v := .ref a_t_grid) hC i_X0_reasonAt_X0 hM hc_t rfl 2 (by decide) l_X0_reasonAt_0 rfl rfl dX0_reasonAt_43 ?_
    refine lv_lload hx hb dX0_reasonAt_46 (lv_at hl 1 rfl) ?_
    refine lv_lload hx hb dX0_reasonAt_48 (lv_at hl 0 rfl) ?_
    refine lv_lload_n hx hb dX0_reasonAt_50 rfl (lv_at hl 2 rfl) ?_
    obtain ⟨r4, hr4, h⟩ := ob_some h
    refine mw_cl (mw_runV (As := [.long v1, .long v2, .long (shlL 1 p0)]) (rest := [.long v2]) (ci := 2) (C := RX2) (T := TX2) (N := 5) hC hM hS hc_t_grid rfl (c_X2_taken (a_t := a_t_grid) (w_t := w_t_grid) (p0 := v1) (p1 := v2) (p2 := (shlL 1 p0)) (hc_t := hc_t_grid) (v := r4) hr4) gX0_reasonAt_X2_taken rfl rfl rfl rfl q_X2_taken ⟨Nat.le_of_ble_eq_true rfl, Nat.le_of_ble_eq_true rfl⟩ rfl rfl (Nat.le_of_ble_eq_true rfl) hl.1 dX0_reasonAt_51 ⟨Nat.le_of_ble_eq_true rfl, Nat.le_of_ble_eq_true rfl⟩) ?_
    refine lv_ldc2 (v := -1) hx hb hown (hts _ l_X0_reasonAt_2) dX0_reasonAt_54 ?_
    refine lv_lxor hx hb dX0_reasonAt_57 ?_
    refine lv_land hx hb dX0_reasonAt_58 ?_
    refine lv_lstore (lv' := [(6, .long (v2 &&& (r4 ^^^ (-1)))), (4, .long v1), (2, .long (shlL 1 p0)), (0, .ref a_t), (1, .int p0)]) hx hb dX0_reasonAt_59 hl (by decide) rfl (fun ls hl => ?_)
    refine lv_lload hx hb dX0_reasonAt_61 (lv_at hl 1 rfl) ?_
    refine lv_lload_n hx hb dX0_reasonAt_63 rfl (lv_at hl 2 rfl) ?_
    refine lv_lor hx hb dX0_reasonAt_64 ?_
    refine lv_lstore (lv' := [(4, .long (v1 ||| (shlL 1 p0))), (6, .long (v2 &&& (r4 ^^^ (-1)))), (2, .long (shlL 1 p0)), (0, .ref a_t), (1, .int p0)]) hx hb dX0_reasonAt_65 hl (by decide) rfl (fun ls hl => ?_)
    refine lv_aload_n hx hb dX0_reasonAt_67 rfl (lv_at hl 3 rfl) ?_
    refine mw_get (ci := 0) (C := RX0) (T := TX0) (N := 11) (v := .ref a_t_grid) hC i_X0_reasonAt_X0 hM hc_t rfl 2 (by decide) l_X0_reasonAt_0 rfl rfl dX0_reasonAt_68 ?_
    refine lv_lload hx hb dX0_reasonAt_71 (lv_at hl 0 rfl) ?_
    refine lv_lload hx hb dX0_reasonAt_73 (lv_at hl 1 rfl) ?_
    refine lv_lload_n hx hb dX0_reasonAt_75 rfl (lv_at hl 2 rfl) ?_
    obtain ⟨r5, hr5, h⟩ := ob_some h
    refine mw_cl (mw_runV (As := [.long (v1 ||| (shlL 1 p0)), .long (v2 &&& (r4 ^^^ (-1))), .long (shlL 1 p0)]) (rest := []) (ci := 2) (C := RX2) (T := TX2) (N := 5) hC hM hS hc_t_grid rfl (c_X2_liberties (a_t := a_t_grid) (w_t := w_t_grid) (p0 := (v1 ||| (shlL 1 p0))) (p1 := (v2 &&& (r4 ^^^ (-1)))) (p2 := (shlL 1 p0)) (hc_t := hc_t_grid) (v := r5) hr5) gX0_reasonAt_X2_liberties rfl rfl rfl rfl q_X2_liberties ⟨Nat.le_of_ble_eq_true rfl, Nat.le_of_ble_eq_true rfl⟩ rfl rfl (Nat.le_of_ble_eq_true rfl) hl.1 dX0_reasonAt_76 ⟨Nat.le_of_ble_eq_true rfl, Nat.le_of_ble_eq_true rfl⟩) ?_
    refine lv_lconst (v := 0) hx hb dX0_reasonAt_79 (by decide) ?_
    refine W.lcmp hx hb dX0_reasonAt_80 ?_
    refine lv_if_ne (tgt := 86) hx hb dX0_reasonAt_81 (by decide) (fun c6 => ?_) (fun c6 => ?_)
    · replace c6 := mt (lg_cmp_eq _ _).mpr c6
      replace h := it_neg c6 h
      refine lv_aload_n hx hb dX0_reasonAt_86 rfl (lv_at hl 3 rfl) ?_
      refine mw_ci (mw_runV (As := []) (rest := []) (ci := 0) (C := RX0) (T := TX0) (N := 11) hC hM hS hc_t rfl (c_X0_turn (a_t := a_t) (a_t_before0 := a_t_before0) (a_t_before1 := a_t_before1) (a_t_grid := a_t_grid) (w_t := w_t) (hc_t := hc_t) (v := (fX0_turn w_t)) rfl) gX0_reasonAt_X0_turn rfl rfl rfl rfl q_X0_turn ⟨Nat.le_of_ble_eq_true rfl, Nat.le_of_ble_eq_true rfl⟩ rfl rfl (Nat.le_of_ble_eq_true rfl) hl.1 dX0_reasonAt_87 ⟨Nat.le_of_ble_eq_true rfl, Nat.le_of_ble_eq_true rfl⟩) ?_
      refine lv_if_ne (tgt := 107) hx hb dX0_reasonAt_90 (by decide) (fun c7 => ?_) (fun c7 => ?_)
      · replace h := it_neg c7 h
        refine lv_aload_n hx hb dX0_reasonAt_107 rfl (lv_at hl 3 rfl) ?_
        refine lv_lload hx hb dX0_reasonAt_108 (lv_at hl 1 rfl) ?_
        refine lv_lload hx hb dX0_reasonAt_110 (lv_at hl 0 rfl) ?_
        obtain ⟨r8, hr8, h⟩ := ob_some h
        refine mw_ci (mw_runV (As := [.long (v2 &&& (r4 ^^^ (-1))), .long (v1 ||| (shlL 1 p0))]) (rest := []) (ci := 0) (C := RX0) (T := TX0) (N := 11) hC hM hS hc_t rfl (c_X0_mustNotCome (a_t := a_t) (a_t_before0 := a_t_before0) (a_t_before1 := a_t_before1) (a_t_grid := a_t_grid) (w_t := w_t) (f_t_before0 := f_t_before0) (f_t_before1 := f_t_before1) (p0 := (v2 &&& (r4 ^^^ (-1)))) (p1 := (v1 ||| (shlL 1 p0))) (hc_t := hc_t) (hc_t_before0 := hc_t_before0) (hc_t_before1 := hc_t_before1) (v := r8) hr8) gX0_reasonAt_X0_mustNotCome rfl rfl rfl rfl q_X0_mustNotCome ⟨Nat.le_of_ble_eq_true rfl, Nat.le_of_ble_eq_true rfl⟩ rfl rfl (Nat.le_of_ble_eq_true rfl) hl.1 dX0_reasonAt_112 ⟨Nat.le_of_ble_eq_true rfl, Nat.le_of_ble_eq_true rfl⟩) ?_
        refine lv_if_eq (tgt := 120) hx hb dX0_reasonAt_115 (by decide) (fun c9 => ?_) (fun c9 => ?_)
        · replace c9 := b2i_eq0.mp c9
          replace h := it_neg c9 h
          refine lv_aload_n hx hb dX0_reasonAt_120 rfl (lv_at hl 3 rfl) ?_
          refine mw_get (ci := 0) (C := RX0) (T := TX0) (N := 11) (v := .int w_t.2.1) hC i_X0_reasonAt_X0 hM hc_t rfl 4 (by decide) l_X0_reasonAt_3 rfl rfl dX0_reasonAt_121 ?_
          refine lv_bipush (v := 120) hx hb dX0_reasonAt_124 (by decide) ?_
          refine lv_icmp_lt (tgt := 133) hx hb dX0_reasonAt_126 (by decide) (fun c10 => ?_) (fun c10 => ?_)
          · replace h := it_pos c10 h
            refine lv_iconst (v := 0) hx hb dX0_reasonAt_133 (by decide) ?_
            cases h
            exact W.iret hx hb hr (fun t ht hW => ⟨_, rfl, rfl, ht⟩) (fun _ h9 => by cases h9) dX0_reasonAt_134 hlocks
          · replace h := it_neg c10 h
            refine lv_iconst (v := 4) hx hb dX0_reasonAt_129 (by decide) ?_
            refine lv_goto (tgt := 134) hx hb dX0_reasonAt_130 (by decide) ?_
            cases h
            exact W.iret hx hb hr (fun t ht hW => ⟨_, rfl, rfl, ht⟩) (fun _ h9 => by cases h9) dX0_reasonAt_134 hlocks
        · replace c9 := b2i_ne0.mp c9
          replace h := it_pos c9 h
          refine lv_iconst (v := 3) hx hb dX0_reasonAt_118 (by decide) ?_
          cases h
          exact W.iret hx hb hr (fun t ht hW => ⟨_, rfl, rfl, ht⟩) (fun _ h9 => by cases h9) dX0_reasonAt_119 hlocks
      · replace h := it_pos c7 h
        refine lv_aload_n hx hb dX0_reasonAt_93 rfl (lv_at hl 3 rfl) ?_
        refine lv_lload hx hb dX0_reasonAt_94 (lv_at hl 0 rfl) ?_
        refine lv_lload hx hb dX0_reasonAt_96 (lv_at hl 1 rfl) ?_
        obtain ⟨r11, hr11, h⟩ := ob_some h
        refine mw_ci (mw_runV (As := [.long (v1 ||| (shlL 1 p0)), .long (v2 &&& (r4 ^^^ (-1)))]) (rest := []) (ci := 0) (C := RX0) (T := TX0) (N := 11) hC hM hS hc_t rfl (c_X0_mustNotCome (a_t := a_t) (a_t_before0 := a_t_before0) (a_t_before1 := a_t_before1) (a_t_grid := a_t_grid) (w_t := w_t) (f_t_before0 := f_t_before0) (f_t_before1 := f_t_before1) (p0 := (v1 ||| (shlL 1 p0))) (p1 := (v2 &&& (r4 ^^^ (-1)))) (hc_t := hc_t) (hc_t_before0 := hc_t_before0) (hc_t_before1 := hc_t_before1) (v := r11) hr11) gX0_reasonAt_X0_mustNotCome rfl rfl rfl rfl q_X0_mustNotCome ⟨Nat.le_of_ble_eq_true rfl, Nat.le_of_ble_eq_true rfl⟩ rfl rfl (Nat.le_of_ble_eq_true rfl) hl.1 dX0_reasonAt_98 ⟨Nat.le_of_ble_eq_true rfl, Nat.le_of_ble_eq_true rfl⟩) ?_
        refine lv_if_eq (tgt := 120) hx hb dX0_reasonAt_101 (by decide) (fun c12 => ?_) (fun c12 => ?_)
        · replace c12 := b2i_eq0.mp c12
          replace h := it_neg c12 h
          refine lv_aload_n hx hb dX0_reasonAt_120 rfl (lv_at hl 3 rfl) ?_
          refine mw_get (ci := 0) (C := RX0) (T := TX0) (N := 11) (v := .int w_t.2.1) hC i_X0_reasonAt_X0 hM hc_t rfl 4 (by decide) l_X0_reasonAt_3 rfl rfl dX0_reasonAt_121 ?_
          refine lv_bipush (v := 120) hx hb dX0_reasonAt_124 (by decide) ?_
          refine lv_icmp_lt (tgt := 133) hx hb dX0_reasonAt_126 (by decide) (fun c13 => ?_) (fun c13 => ?_)
          · replace h := it_pos c13 h
            refine lv_iconst (v := 0) hx hb dX0_reasonAt_133 (by decide) ?_
            cases h
            exact W.iret hx hb hr (fun t ht hW => ⟨_, rfl, rfl, ht⟩) (fun _ h9 => by cases h9) dX0_reasonAt_134 hlocks
          · replace h := it_neg c13 h
            refine lv_iconst (v := 4) hx hb dX0_reasonAt_129 (by decide) ?_
            refine lv_goto (tgt := 134) hx hb dX0_reasonAt_130 (by decide) ?_
            cases h
            exact W.iret hx hb hr (fun t ht hW => ⟨_, rfl, rfl, ht⟩) (fun _ h9 => by cases h9) dX0_reasonAt_134 hlocks
        · replace c12 := b2i_ne0.mp c12
          replace h := it_pos c12 h
          refine lv_goto (tgt := 118) hx hb dX0_reasonAt_104 (by decide) ?_
          refine lv_iconst (v := 3) hx hb dX0_reasonAt_118 (by decide) ?_
          cases h
          exact W.iret hx hb hr (fun t ht hW => ⟨_, rfl, rfl, ht⟩) (fun _ h9 => by cases h9) dX0_reasonAt_119 hlocks
    · replace c6 := (lg_cmp_eq _ _).mp c6
      replace h := it_pos c6 h
      refine lv_iconst (v := 2) hx hb dX0_reasonAt_84 (by decide) ?_
      cases h
      exact W.iret hx hb hr (fun t ht hW => ⟨_, rfl, rfl, ht⟩) (fun _ h9 => by cases h9) dX0_reasonAt_85 hlocks
  · replace c3 := mt (lg_cmp_eq _ _).mpr c3
    replace h := it_neg c3 h
    refine lv_iconst (v := 1) hx hb dX0_reasonAt_38 (by decide) ?_
    cases h
    exact W.iret hx hb hr (fun t ht hW => ⟨_, rfl, rfl, ht⟩) (fun _ h9 => by cases h9) dX0_reasonAt_39 hlocks
theorem l_X0_effectOf_0 : Cond.fieldLink RX0 18 "CornerStones$Game" "grid" "LCornerStones$Grid;" ∈ wsX0_effectOf := (List.mem_cons_of_mem _ (List.mem_append_left _ (List.mem_append_left _ (List.mem_append_left _ (List.mem_of_getElem? (i := 0) rfl)))))
theorem i_X0_effectOf_X0 : ∀ w ∈ wsX00, w ∈ wsX0_effectOf := fun _ h => (List.mem_cons_of_mem _ (List.mem_append_left _ (List.mem_append_right _ h)))
theorem l_X0_effectOf_2 : Cond.constantLong RX0 83 (-1) ∈ wsX0_effectOf := (List.mem_cons_of_mem _ (List.mem_append_left _ (List.mem_append_left _ (List.mem_append_left _ (List.mem_of_getElem? (i := 1) rfl)))))
theorem q_X0_effectOf : yX0_effectOf.cls ≠ "java/lang/invoke/MethodHandle" ∧ yX0_effectOf.cls ≠ "java/lang/invoke/VarHandle" ∧ (parseMethodDescriptor yX0_effectOf.desc).map (fun d => d.parameters.length) = some 2 := by decide +kernel
def fX0_effectOf (w_t : Int32 × Int32 × Int32 × Int32 × Int64 × Int64 × Int32 × Int32) (w_t_grid : Int32 × Int32 × Int64 × Int64 × Int64) (p0 : Int32) (p1 : Int32) : Option (Int32) := bnd (fX0_stonesOf w_t (fX0_turn w_t)) fun v1 => bnd (fX0_stonesOf w_t (1 - (fX0_turn w_t))) fun v2 => (fX2_taken w_t_grid v1 v2 (shlL 1 p0)).bind fun r3 => if p1 = 0 then (some ((fJ13_bitCount_95d88 r3))) else (if p1 = 1 then ((fX2_liberties w_t_grid (v1 ||| (shlL 1 p0)) (v2 &&& (r3 ^^^ (-1))) (shlL 1 p0)).bind fun r6 => some ((fJ13_bitCount_95d88 r6))) else (if p1 = 2 then ((fX2_connected w_t_grid (v1 ||| (shlL 1 p0)) (shlL 1 p0)).bind fun r8 => some ((fJ13_bitCount_95d88 r8))) else ((fX2_groupsWithOneLiberty w_t_grid (v2 &&& (r3 ^^^ (-1))) (v1 ||| (shlL 1 p0))).bind fun r9 => some (r9))))
set_option maxHeartbeats 4000000 in
set_option maxRecDepth 100000 in
theorem c_X0_effectOf {l : Launch} {z : Nat} {D : va_G} {K : Nat → ClassId} {σ : mwm} {a_t a_t_before0 a_t_before1 a_t_grid : Nat} {w_t : Int32 × Int32 × Int32 × Int32 × Int64 × Int64 × Int32 × Int32} {w_t_grid : Int32 × Int32 × Int64 × Int64 × Int64} {p0 : Int32} {p1 : Int32} (hc_t : σ a_t = some (cl0 a_t_before0 a_t_before1 a_t_grid w_t)) (hc_t_grid : σ a_t_grid = some (cl2  w_t_grid)) {v : Int32} (h : fX0_effectOf w_t w_t_grid p0 p1 = some v) : Met l yX0_effectOf wsX0_effectOf ({ frames := 4, cells := 0, slots := 0, locals := 107 } : Room) (PCm z D K [.ref a_t, .int p0, .int p1] σ) (qsI v) 0 0 (fun _ => False) := by
  refine mt_enter (cc := cX0_effectOf) (maxL := 11) (ret := (some .int)) (own := RX0) (lv := [(0, .ref a_t), (1, .int p0), (2, .int p1)]) (by decide) rfl rfl (Nat.le_of_ble_eq_true rfl) rfl ?_
  intro p e s m below meth c ls hC hx hb hown hts hK hr hlocks hnm hz hM hS hl
  unfold fX0_effectOf at h
  refine lv_lconst (v := 1) hx hb dX0_effectOf_0 (by decide) ?_
  refine lv_iload_n hx hb dX0_effectOf_1 rfl (lv_at hl 1 rfl) ?_
  refine lv_lshl (v := (shlL 1 p0)) hx hb dX0_effectOf_2 rfl ?_
  refine lv_lstore_n (lv' := [(3, .long (shlL 1 p0)), (0, .ref a_t), (1, .int p0), (2, .int p1)]) hx hb dX0_effectOf_3 rfl hl (by decide) rfl (fun ls hl => ?_)
  refine lv_aload_n hx hb dX0_effectOf_4 rfl (lv_at hl 1 rfl) ?_
  refine lv_aload_n hx hb dX0_effectOf_5 rfl (lv_at hl 1 rfl) ?_
  refine mw_ci (mw_runV (As := []) (rest := [.ref a_t]) (ci := 0) (C := RX0) (T := TX0) (N := 11) hC hM hS hc_t rfl (c_X0_turn (a_t := a_t) (a_t_before0 := a_t_before0) (a_t_before1 := a_t_before1) (a_t_grid := a_t_grid) (w_t := w_t) (hc_t := hc_t) (v := (fX0_turn w_t)) rfl) gX0_effectOf_X0_turn rfl rfl rfl rfl q_X0_turn ⟨Nat.le_of_ble_eq_true rfl, Nat.le_of_ble_eq_true rfl⟩ rfl rfl (Nat.le_of_ble_eq_true rfl) hl.1 dX0_effectOf_6 ⟨Nat.le_of_ble_eq_true rfl, Nat.le_of_ble_eq_true rfl⟩) ?_
  refine mw_cl (mw_runV (As := [.int (fX0_turn w_t)]) (rest := []) (ci := 0) (C := RX0) (T := TX0) (N := 11) hC hM hS hc_t rfl (c_X0_stonesOf (a_t := a_t) (a_t_before0 := a_t_before0) (a_t_before1 := a_t_before1) (a_t_grid := a_t_grid) (w_t := w_t) (p0 := (fX0_turn w_t)) (hc_t := hc_t) (v := (fX0_stonesOf w_t (fX0_turn w_t))) rfl) gX0_effectOf_X0_stonesOf rfl rfl rfl rfl q_X0_stonesOf ⟨Nat.le_of_ble_eq_true rfl, Nat.le_of_ble_eq_true rfl⟩ rfl rfl (Nat.le_of_ble_eq_true rfl) hl.1 dX0_effectOf_9 ⟨Nat.le_of_ble_eq_true rfl, Nat.le_of_ble_eq_true rfl⟩) ?_
  refine lv_topl (fun v1 ev1 => ?_)
  replace h := bnd_at ev1 h
  refine lv_lstore (lv' := [(5, .long v1), (3, .long (shlL 1 p0)), (0, .ref a_t), (1, .int p0), (2, .int p1)]) hx hb dX0_effectOf_12 hl (by decide) rfl (fun ls hl => ?_)
  refine lv_aload_n hx hb dX0_effectOf_14 rfl (lv_at hl 2 rfl) ?_
  refine lv_iconst (v := 1) hx hb dX0_effectOf_15 (by decide) ?_
  refine lv_aload_n hx hb dX0_effectOf_16 rfl (lv_at hl 2 rfl) ?_
  refine mw_ci (mw_runV (As := []) (rest := [.int 1, .ref a_t]) (ci := 0) (C := RX0) (T := TX0) (N := 11) hC hM hS hc_t rfl (c_X0_turn (a_t := a_t) (a_t_before0 := a_t_before0) (a_t_before1 := a_t_before1) (a_t_grid := a_t_grid) (w_t := w_t) (hc_t := hc_t) (v := (fX0_turn w_t)) rfl) gX0_effectOf_X0_turn rfl rfl rfl rfl q_X0_turn ⟨Nat.le_of_ble_eq_true rfl, Nat.le_of_ble_eq_true rfl⟩ rfl rfl (Nat.le_of_ble_eq_true rfl) hl.1 dX0_effectOf_17 ⟨Nat.le_of_ble_eq_true rfl, Nat.le_of_ble_eq_true rfl⟩) ?_
  refine lv_isub hx hb dX0_effectOf_20 ?_
  refine mw_cl (mw_runV (As := [.int (1 - (fX0_turn w_t))]) (rest := []) (ci := 0) (C := RX0) (T := TX0) (N := 11) hC hM hS hc_t rfl (c_X0_stonesOf (a_t := a_t) (a_t_before0 := a_t_before0) (a_t_before1 := a_t_before1) (a_t_grid := a_t_grid) (w_t := w_t) (p0 := (1 - (fX0_turn w_t))) (hc_t := hc_t) (v := (fX0_stonesOf w_t (1 - (fX0_turn w_t)))) rfl) gX0_effectOf_X0_stonesOf rfl rfl rfl rfl q_X0_stonesOf ⟨Nat.le_of_ble_eq_true rfl, Nat.le_of_ble_eq_true rfl⟩ rfl rfl (Nat.le_of_ble_eq_true rfl) hl.1 dX0_effectOf_21 ⟨Nat.le_of_ble_eq_true rfl, Nat.le_of_ble_eq_true rfl⟩) ?_
  refine lv_topl (fun v2 ev2 => ?_)
  replace h := bnd_at ev2 h
  refine lv_lstore (lv' := [(7, .long v2), (5, .long v1), (3, .long (shlL 1 p0)), (0, .ref a_t), (1, .int p0), (2, .int p1)]) hx hb dX0_effectOf_24 hl (by decide) rfl (fun ls hl => ?_)
  refine lv_aload_n hx hb dX0_effectOf_26 rfl (lv_at hl 3 rfl) ?_
  refine mw_get (ci := 0) (C := RX0) (T := TX0) (N := 11) (v := .ref a_t_grid) hC i_X0_effectOf_X0 hM hc_t rfl 2 (by decide) l_X0_effectOf_0 rfl rfl dX0_effectOf_27 ?_
  refine lv_lload hx hb dX0_effectOf_30 (lv_at hl 1 rfl) ?_
  refine lv_lload hx hb dX0_effectOf_32 (lv_at hl 0 rfl) ?_
  refine lv_lload_n hx hb dX0_effectOf_34 rfl (lv_at hl 2 rfl) ?_
  obtain ⟨r3, hr3, h⟩ := ob_some h
  refine mw_cl (mw_runV (As := [.long v1, .long v2, .long (shlL 1 p0)]) (rest := []) (ci := 2) (C := RX2) (T := TX2) (N := 5) hC hM hS hc_t_grid rfl (c_X2_taken (a_t := a_t_grid) (w_t := w_t_grid) (p0 := v1) (p1 := v2) (p2 := (shlL 1 p0)) (hc_t := hc_t_grid) (v := r3) hr3) gX0_effectOf_X2_taken rfl rfl rfl rfl q_X2_taken ⟨Nat.le_of_ble_eq_true rfl, Nat.le_of_ble_eq_true rfl⟩ rfl rfl (Nat.le_of_ble_eq_true rfl) hl.1 dX0_effectOf_35 ⟨Nat.le_of_ble_eq_true rfl, Nat.le_of_ble_eq_true rfl⟩) ?_
  refine lv_lstore (lv' := [(9, .long r3), (7, .long v2), (5, .long v1), (3, .long (shlL 1 p0)), (0, .ref a_t), (1, .int p0), (2, .int p1)]) hx hb dX0_effectOf_38 hl (by decide) rfl (fun ls hl => ?_)
  refine lv_lload hx hb dX0_effectOf_40 (lv_at hl 2 rfl) ?_
  refine lv_lload_n hx hb dX0_effectOf_42 rfl (lv_at hl 3 rfl) ?_
  refine lv_lor hx hb dX0_effectOf_43 ?_
  refine lv_lstore (lv' := [(5, .long (v1 ||| (shlL 1 p0))), (9, .long r3), (7, .long v2), (3, .long (shlL 1 p0)), (0, .ref a_t), (1, .int p0), (2, .int p1)]) hx hb dX0_effectOf_44 hl (by decide) rfl (fun ls hl => ?_)
  refine lv_lload hx hb dX0_effectOf_46 (lv_at hl 2 rfl) ?_
  refine lv_lload hx hb dX0_effectOf_48 (lv_at hl 1 rfl) ?_
  refine lv_ldc2 (v := -1) hx hb hown (hts _ l_X0_effectOf_2) dX0_effectOf_50 ?_
  refine lv_lxor hx hb dX0_effectOf_53 ?_
  refine lv_land hx hb dX0_effectOf_54 ?_
  refine lv_lstore (lv' := [(7, .long (v2 &&& (r3 ^^^ (-1)))), (5, .long (v1 ||| (shlL 1 p0))), (9, .long r3), (3, .long (shlL 1 p0)), (0, .ref a_t), (1, .int p0), (2, .int p1)]) hx hb dX0_effectOf_55 hl (by decide) rfl (fun ls hl => ?_)
  refine lv_iload_n hx hb dX0_effectOf_57 rfl (lv_at hl 6 rfl) ?_
  by_cases c4 : p1 = 0
  · replace h := it_pos c4 h
    refine lv_tableIn (tgt := 84) hx hb dX0_effectOf_58 (by rw [c4]; decide) (by rw [c4]; decide) (by rw [c4]; rfl) (by decide) ?_
    refine lv_lload hx hb dX0_effectOf_84 (lv_at hl 2 rfl) ?_
    refine mw_ci (mw_runS (As := [.long r3]) (rest := []) hC hM hS (c_J13_bitCount_95d88 (p0 := r3) (v := (fJ13_bitCount_95d88 r3)) rfl) gX0_effectOf_J13_bitCount_95d88 rfl rfl rfl q_J13_bitCount_95d88 ⟨Nat.le_of_ble_eq_true rfl, Nat.le_of_ble_eq_true rfl⟩ rfl rfl (Nat.le_of_ble_eq_true rfl) hl.1 dX0_effectOf_86 ⟨Nat.le_of_ble_eq_true rfl, Nat.le_of_ble_eq_true rfl⟩) ?_
    cases h
    exact W.iret hx hb hr (fun t ht hW => ⟨_, rfl, rfl, ht⟩) (fun _ h9 => by cases h9) dX0_effectOf_89 hlocks
  replace h := it_neg c4 h
  by_cases c5 : p1 = 1
  · replace h := it_pos c5 h
    refine lv_tableIn (tgt := 90) hx hb dX0_effectOf_58 (by rw [c5]; decide) (by rw [c5]; decide) (by rw [c5]; rfl) (by decide) ?_
    refine lv_aload_n hx hb dX0_effectOf_90 rfl (lv_at hl 4 rfl) ?_
    refine mw_get (ci := 0) (C := RX0) (T := TX0) (N := 11) (v := .ref a_t_grid) hC i_X0_effectOf_X0 hM hc_t rfl 2 (by decide) l_X0_effectOf_0 rfl rfl dX0_effectOf_91 ?_
    refine lv_lload hx hb dX0_effectOf_94 (lv_at hl 1 rfl) ?_
    refine lv_lload hx hb dX0_effectOf_96 (lv_at hl 0 rfl) ?_
    refine lv_lload_n hx hb dX0_effectOf_98 rfl (lv_at hl 3 rfl) ?_
    obtain ⟨r6, hr6, h⟩ := ob_some h
    refine mw_cl (mw_runV (As := [.long (v1 ||| (shlL 1 p0)), .long (v2 &&& (r3 ^^^ (-1))), .long (shlL 1 p0)]) (rest := []) (ci := 2) (C := RX2) (T := TX2) (N := 5) hC hM hS hc_t_grid rfl (c_X2_liberties (a_t := a_t_grid) (w_t := w_t_grid) (p0 := (v1 ||| (shlL 1 p0))) (p1 := (v2 &&& (r3 ^^^ (-1)))) (p2 := (shlL 1 p0)) (hc_t := hc_t_grid) (v := r6) hr6) gX0_effectOf_X2_liberties rfl rfl rfl rfl q_X2_liberties ⟨Nat.le_of_ble_eq_true rfl, Nat.le_of_ble_eq_true rfl⟩ rfl rfl (Nat.le_of_ble_eq_true rfl) hl.1 dX0_effectOf_99 ⟨Nat.le_of_ble_eq_true rfl, Nat.le_of_ble_eq_true rfl⟩) ?_
    refine mw_ci (mw_runS (As := [.long r6]) (rest := []) hC hM hS (c_J13_bitCount_95d88 (p0 := r6) (v := (fJ13_bitCount_95d88 r6)) rfl) gX0_effectOf_J13_bitCount_95d88 rfl rfl rfl q_J13_bitCount_95d88 ⟨Nat.le_of_ble_eq_true rfl, Nat.le_of_ble_eq_true rfl⟩ rfl rfl (Nat.le_of_ble_eq_true rfl) hl.1 dX0_effectOf_102 ⟨Nat.le_of_ble_eq_true rfl, Nat.le_of_ble_eq_true rfl⟩) ?_
    cases h
    exact W.iret hx hb hr (fun t ht hW => ⟨_, rfl, rfl, ht⟩) (fun _ h9 => by cases h9) dX0_effectOf_105 hlocks
  replace h := it_neg c5 h
  by_cases c7 : p1 = 2
  · replace h := it_pos c7 h
    refine lv_tableIn (tgt := 106) hx hb dX0_effectOf_58 (by rw [c7]; decide) (by rw [c7]; decide) (by rw [c7]; rfl) (by decide) ?_
    refine lv_aload_n hx hb dX0_effectOf_106 rfl (lv_at hl 4 rfl) ?_
    refine mw_get (ci := 0) (C := RX0) (T := TX0) (N := 11) (v := .ref a_t_grid) hC i_X0_effectOf_X0 hM hc_t rfl 2 (by decide) l_X0_effectOf_0 rfl rfl dX0_effectOf_107 ?_
    refine lv_lload hx hb dX0_effectOf_110 (lv_at hl 1 rfl) ?_
    refine lv_lload_n hx hb dX0_effectOf_112 rfl (lv_at hl 3 rfl) ?_
    obtain ⟨r8, hr8, h⟩ := ob_some h
    refine mw_cl (mw_runV (As := [.long (v1 ||| (shlL 1 p0)), .long (shlL 1 p0)]) (rest := []) (ci := 2) (C := RX2) (T := TX2) (N := 5) hC hM hS hc_t_grid rfl (c_X2_connected (a_t := a_t_grid) (w_t := w_t_grid) (p0 := (v1 ||| (shlL 1 p0))) (p1 := (shlL 1 p0)) (hc_t := hc_t_grid) (v := r8) hr8) gX0_effectOf_X2_connected rfl rfl rfl rfl q_X2_connected ⟨Nat.le_of_ble_eq_true rfl, Nat.le_of_ble_eq_true rfl⟩ rfl rfl (Nat.le_of_ble_eq_true rfl) hl.1 dX0_effectOf_113 ⟨Nat.le_of_ble_eq_true rfl, Nat.le_of_ble_eq_true rfl⟩) ?_
    refine mw_ci (mw_runS (As := [.long r8]) (rest := []) hC hM hS (c_J13_bitCount_95d88 (p0 := r8) (v := (fJ13_bitCount_95d88 r8)) rfl) gX0_effectOf_J13_bitCount_95d88 rfl rfl rfl q_J13_bitCount_95d88 ⟨Nat.le_of_ble_eq_true rfl, Nat.le_of_ble_eq_true rfl⟩ rfl rfl (Nat.le_of_ble_eq_true rfl) hl.1 dX0_effectOf_116 ⟨Nat.le_of_ble_eq_true rfl, Nat.le_of_ble_eq_true rfl⟩) ?_
    cases h
    exact W.iret hx hb hr (fun t ht hW => ⟨_, rfl, rfl, ht⟩) (fun _ h9 => by cases h9) dX0_effectOf_119 hlocks
  replace h := it_neg c7 h
  refine lv_tableOut (tgt := 120) hx hb dX0_effectOf_58 (by have t0 := lv_neT (a := 0) c4 rfl; have t1 := lv_neT (a := 1) c5 rfl; have t2 := lv_neT (a := 2) c7 rfl; omega) (by decide) ?_
  refine lv_aload_n hx hb dX0_effectOf_120 rfl (lv_at hl 4 rfl) ?_
  refine mw_get (ci := 0) (C := RX0) (T := TX0) (N := 11) (v := .ref a_t_grid) hC i_X0_effectOf_X0 hM hc_t rfl 2 (by decide) l_X0_effectOf_0 rfl rfl dX0_effectOf_121 ?_
  refine lv_lload hx hb dX0_effectOf_124 (lv_at hl 0 rfl) ?_
  refine lv_lload hx hb dX0_effectOf_126 (lv_at hl 1 rfl) ?_
  obtain ⟨r9, hr9, h⟩ := ob_some h
  refine mw_ci (mw_runV (As := [.long (v2 &&& (r3 ^^^ (-1))), .long (v1 ||| (shlL 1 p0))]) (rest := []) (ci := 2) (C := RX2) (T := TX2) (N := 5) hC hM hS hc_t_grid rfl (c_X2_groupsWithOneLiberty (a_t := a_t_grid) (w_t := w_t_grid) (p0 := (v2 &&& (r3 ^^^ (-1)))) (p1 := (v1 ||| (shlL 1 p0))) (hc_t := hc_t_grid) (v := r9) hr9) gX0_effectOf_X2_groupsWithOneLiberty rfl rfl rfl rfl q_X2_groupsWithOneLiberty ⟨Nat.le_of_ble_eq_true rfl, Nat.le_of_ble_eq_true rfl⟩ rfl rfl (Nat.le_of_ble_eq_true rfl) hl.1 dX0_effectOf_128 ⟨Nat.le_of_ble_eq_true rfl, Nat.le_of_ble_eq_true rfl⟩) ?_
  cases h
  exact W.iret hx hb hr (fun t ht hW => ⟨_, rfl, rfl, ht⟩) (fun _ h9 => by cases h9) dX0_effectOf_131 hlocks
theorem l_X2_has_0 : Cond.fieldLink RX2 15 "CornerStones$Grid" "points" "I" ∈ wsX2_has := (List.mem_cons_of_mem _ (List.mem_append_left _ (List.mem_of_getElem? (i := 0) rfl)))
theorem i_X2_has_X2 : ∀ w ∈ wsX20, w ∈ wsX2_has := fun _ h => (List.mem_cons_of_mem _ (List.mem_append_right _ h))
theorem q_X2_has : yX2_has.cls ≠ "java/lang/invoke/MethodHandle" ∧ yX2_has.cls ≠ "java/lang/invoke/VarHandle" ∧ (parseMethodDescriptor yX2_has.desc).map (fun d => d.parameters.length) = some 1 := by decide +kernel
def fX2_has (w_t : Int32 × Int32 × Int64 × Int64 × Int64) (p0 : Int32) : Bool := if p0 < 0 then ((false)) else (if w_t.2.1 ≤ p0 then ((false)) else ((true)))
set_option maxHeartbeats 4000000 in
set_option maxRecDepth 100000 in
theorem c_X2_has {l : Launch} {z : Nat} {D : va_G} {K : Nat → ClassId} {σ : mwm} {a_t : Nat} {w_t : Int32 × Int32 × Int64 × Int64 × Int64} {p0 : Int32} (hc_t : σ a_t = some (cl2  w_t)) {v : Bool} (h : fX2_has w_t p0 = v) : Met l yX2_has wsX2_has ({ frames := 0, cells := 0, slots := 0, locals := 0 } : Room) (PCm z D K [.ref a_t, .int p0] σ) (qsI (b2i v)) 0 0 (fun _ => False) := by
  refine mt_enter (cc := cX2_has) (maxL := 2) (ret := (some .boolean)) (own := RX2) (lv := [(0, .ref a_t), (1, .int p0)]) (by decide) rfl rfl (Nat.le_of_ble_eq_true rfl) rfl ?_
  intro p e s m below meth c ls hC hx hb hown hts hK hr hlocks hnm hz hM hS hl
  unfold fX2_has at h
  refine lv_iload_n hx hb dX2_has_0 rfl (lv_at hl 1 rfl) ?_
  refine lv_if_lt (tgt := 16) hx hb dX2_has_1 (by decide) (fun c1 => ?_) (fun c1 => ?_)
  · replace h := it_pos c1 h
    refine lv_iconst (v := 0) hx hb dX2_has_16 (by decide) ?_
    subst h
    exact W.zret (ty := .boolean) (v := b2i false) hx hb hr (b2i_nar _) (fun t ht hW => ⟨_, rfl, rfl, ht⟩) (fun _ h9 => by cases h9) dX2_has_17 hlocks
  · replace h := it_neg c1 h
    refine lv_iload_n hx hb dX2_has_4 rfl (lv_at hl 1 rfl) ?_
    refine lv_aload_n hx hb dX2_has_5 rfl (lv_at hl 0 rfl) ?_
    refine mw_get (ci := 2) (C := RX2) (T := TX2) (N := 5) (v := .int w_t.2.1) hC i_X2_has_X2 hM hc_t rfl 1 (by decide) l_X2_has_0 rfl rfl dX2_has_6 ?_
    refine lv_icmp_ge (tgt := 16) hx hb dX2_has_9 (by decide) (fun c2 => ?_) (fun c2 => ?_)
    · replace h := it_pos c2 h
      refine lv_iconst (v := 0) hx hb dX2_has_16 (by decide) ?_
      subst h
      exact W.zret (ty := .boolean) (v := b2i false) hx hb hr (b2i_nar _) (fun t ht hW => ⟨_, rfl, rfl, ht⟩) (fun _ h9 => by cases h9) dX2_has_17 hlocks
    · replace h := it_neg c2 h
      refine lv_iconst (v := 1) hx hb dX2_has_12 (by decide) ?_
      refine lv_goto (tgt := 17) hx hb dX2_has_13 (by decide) ?_
      subst h
      exact W.zret (ty := .boolean) (v := b2i true) hx hb hr (b2i_nar _) (fun t ht hW => ⟨_, rfl, rfl, ht⟩) (fun _ h9 => by cases h9) dX2_has_17 hlocks
theorem l_X0_lay_0 : Cond.fieldLink RX0 18 "CornerStones$Game" "grid" "LCornerStones$Grid;" ∈ wsX0_lay := (List.mem_cons_of_mem _ (List.mem_append_left _ (List.mem_append_left _ (List.mem_append_left _ (List.mem_of_getElem? (i := 0) rfl)))))
theorem i_X0_lay_X0 : ∀ w ∈ wsX00, w ∈ wsX0_lay := fun _ h => (List.mem_cons_of_mem _ (List.mem_append_left _ (List.mem_append_right _ h)))
theorem l_X0_lay_2 : Cond.fieldLink RX0 41 "CornerStones$Game" "stones1" "J" ∈ wsX0_lay := (List.mem_cons_of_mem _ (List.mem_append_left _ (List.mem_append_left _ (List.mem_append_left _ (List.mem_of_getElem? (i := 2) rfl)))))
theorem l_X0_lay_3 : Cond.fieldLink RX0 37 "CornerStones$Game" "stones0" "J" ∈ wsX0_lay := (List.mem_cons_of_mem _ (List.mem_append_left _ (List.mem_append_left _ (List.mem_append_left _ (List.mem_of_getElem? (i := 1) rfl)))))
theorem l_X0_lay_4 : Cond.constantLong RX0 83 (-1) ∈ wsX0_lay := (List.mem_cons_of_mem _ (List.mem_append_left _ (List.mem_append_left _ (List.mem_append_left _ (List.mem_of_getElem? (i := 3) rfl)))))
theorem l_X0_lay_5 : Cond.fieldLink RX0 47 "CornerStones$Game" "captives1" "I" ∈ wsX0_lay := (List.mem_cons_of_mem _ (List.mem_append_left _ (List.mem_append_left _ (List.mem_append_left _ (List.mem_of_getElem? (i := 5) rfl)))))
theorem l_X0_lay_6 : Cond.fieldLink RX0 27 "CornerStones$Game" "moves" "I" ∈ wsX0_lay := (List.mem_cons_of_mem _ (List.mem_append_left _ (List.mem_append_left _ (List.mem_append_left _ (List.mem_of_getElem? (i := 6) rfl)))))
theorem l_X0_lay_7 : Cond.fieldLink RX0 34 "CornerStones$Game" "passesInRow" "I" ∈ wsX0_lay := (List.mem_cons_of_mem _ (List.mem_append_left _ (List.mem_append_left _ (List.mem_append_left _ (List.mem_of_getElem? (i := 7) rfl)))))
theorem l_X0_lay_8 : Cond.fieldLink RX0 44 "CornerStones$Game" "captives0" "I" ∈ wsX0_lay := (List.mem_cons_of_mem _ (List.mem_append_left _ (List.mem_append_left _ (List.mem_append_left _ (List.mem_of_getElem? (i := 4) rfl)))))
theorem q_X0_lay : yX0_lay.cls ≠ "java/lang/invoke/MethodHandle" ∧ yX0_lay.cls ≠ "java/lang/invoke/VarHandle" ∧ (parseMethodDescriptor yX0_lay.desc).map (fun d => d.parameters.length) = some 1 := by decide +kernel
def fX0_lay (w_t : Int32 × Int32 × Int32 × Int32 × Int64 × Int64 × Int32 × Int32) (f_t_before0 : Nat → Int64) (f_t_before1 : Nat → Int64) (w_t_grid : Int32 × Int32 × Int64 × Int64 × Int64) (p0 : Int32) : Option (Int32 × (Int32 × Int32 × Int32 × Int32 × Int64 × Int64 × Int32 × Int32) × (Nat → Int64) × (Nat → Int64)) := (fX2_taken w_t_grid (fX0_stonesOf w_t (fX0_turn w_t)) (fX0_stonesOf w_t (1 - (fX0_turn w_t))) (shlL 1 p0)).bind fun r1 => if (fX0_turn w_t) = 0 then ((fX0_keepPosition (w_t.1, (w_t.2.1 + 1), w_t.2.2.1, (0 : Int32), (w_t.2.2.2.2.1 ||| (shlL 1 p0)), (w_t.2.2.2.2.2.1 &&& (r1 ^^^ (-1))), (w_t.2.2.2.2.2.2.1 + (fJ13_bitCount_95d88 r1)), w_t.2.2.2.2.2.2.2) f_t_before0 f_t_before1).bind fun r27 => some (((fJ13_bitCount_95d88 r1), (w_t.1, (w_t.2.1 + 1), w_t.2.2.1, (0 : Int32), (w_t.2.2.2.2.1 ||| (shlL 1 p0)), (w_t.2.2.2.2.2.1 &&& (r1 ^^^ (-1))), (w_t.2.2.2.2.2.2.1 + (fJ13_bitCount_95d88 r1)), w_t.2.2.2.2.2.2.2), r27.1, r27.2))) else ((fX0_keepPosition (w_t.1, (w_t.2.1 + 1), w_t.2.2.1, (0 : Int32), (w_t.2.2.2.2.1 &&& (r1 ^^^ (-1))), (w_t.2.2.2.2.2.1 ||| (shlL 1 p0)), w_t.2.2.2.2.2.2.1, (w_t.2.2.2.2.2.2.2 + (fJ13_bitCount_95d88 r1))) f_t_before0 f_t_before1).bind fun r13 => some (((fJ13_bitCount_95d88 r1), (w_t.1, (w_t.2.1 + 1), w_t.2.2.1, (0 : Int32), (w_t.2.2.2.2.1 &&& (r1 ^^^ (-1))), (w_t.2.2.2.2.2.1 ||| (shlL 1 p0)), w_t.2.2.2.2.2.2.1, (w_t.2.2.2.2.2.2.2 + (fJ13_bitCount_95d88 r1))), r13.1, r13.2)))
set_option maxHeartbeats 4000000 in
set_option maxRecDepth 100000 in
theorem c_X0_lay {l : Launch} {z : Nat} {D : va_G} {K : Nat → ClassId} {σ : mwm} {a_t a_t_before0 a_t_before1 a_t_grid : Nat} {w_t : Int32 × Int32 × Int32 × Int32 × Int64 × Int64 × Int32 × Int32} {f_t_before0 : Nat → Int64} {f_t_before1 : Nat → Int64} {w_t_grid : Int32 × Int32 × Int64 × Int64 × Int64} {p0 : Int32} (hc_t : σ a_t = some (cl0 a_t_before0 a_t_before1 a_t_grid w_t)) (hc_t_before0 : σ a_t_before0 = some (eJ K 121 f_t_before0)) (hc_t_before1 : σ a_t_before1 = some (eJ K 121 f_t_before1)) (hc_t_grid : σ a_t_grid = some (cl2  w_t_grid)) (n_t_t_before0 : a_t ≠ a_t_before0) (n_t_t_before1 : a_t ≠ a_t_before1) (n_t_before0_t_before1 : a_t_before0 ≠ a_t_before1) {v : Int32 × (Int32 × Int32 × Int32 × Int32 × Int64 × Int64 × Int32 × Int32) × (Nat → Int64) × (Nat → Int64)} (h : fX0_lay w_t f_t_before0 f_t_before1 w_t_grid p0 = some v) : Met l yX0_lay wsX0_lay ({ frames := 3, cells := 0, slots := 0, locals := 79 } : Room) (PCm z D K [.ref a_t, .int p0] σ) (qwI z D (fun r σ2 => r = v.1 ∧ σ2 a_t = some (cl0 a_t_before0 a_t_before1 a_t_grid v.2.1) ∧ σ2 a_t_before0 = some (eJ K 121 v.2.2.1) ∧ σ2 a_t_before1 = some (eJ K 121 v.2.2.2) ∧ ∀ (q : Nat) (f : va_E), σ q = some f → q ≠ a_t → q ≠ a_t_before0 → q ≠ a_t_before1 → σ2 q = some f)) 0 0 (zA z) := by
  refine mt_enter (cc := cX0_lay) (maxL := 8) (ret := (some .int)) (own := RX0) (lv := [(0, .ref a_t), (1, .int p0)]) (by decide) rfl rfl (Nat.le_of_ble_eq_true rfl) rfl ?_
  intro p e s m below meth c ls hC hx hb hown hts hK hr hlocks hnm hz hM hS hl
  unfold fX0_lay at h
  refine lv_lconst (v := 1) hx hb dX0_lay_0 (by decide) ?_
  refine lv_iload_n hx hb dX0_lay_1 rfl (lv_at hl 1 rfl) ?_
  refine lv_lshl (v := (shlL 1 p0)) hx hb dX0_lay_2 rfl ?_
  refine lv_lstore_n (lv' := [(2, .long (shlL 1 p0)), (0, .ref a_t), (1, .int p0)]) hx hb dX0_lay_3 rfl hl (by decide) rfl (fun ls hl => ?_)
  refine lv_aload_n hx hb dX0_lay_4 rfl (lv_at hl 1 rfl) ?_
  refine mw_ci (mw_runV (As := []) (rest := []) (ci := 0) (C := RX0) (T := TX0) (N := 11) hC hM hS hc_t rfl (c_X0_turn (a_t := a_t) (a_t_before0 := a_t_before0) (a_t_before1 := a_t_before1) (a_t_grid := a_t_grid) (w_t := w_t) (hc_t := hc_t) (v := (fX0_turn w_t)) rfl) gX0_lay_X0_turn rfl rfl rfl rfl q_X0_turn ⟨Nat.le_of_ble_eq_true rfl, Nat.le_of_ble_eq_true rfl⟩ rfl rfl (Nat.le_of_ble_eq_true rfl) hl.1 dX0_lay_5 ⟨Nat.le_of_ble_eq_true rfl, Nat.le_of_ble_eq_true rfl⟩) ?_
  refine lv_istore (lv' := [(4, .int (fX0_turn w_t)), (2, .long (shlL 1 p0)), (0, .ref a_t), (1, .int p0)]) hx hb dX0_lay_8 hl (by decide) rfl (fun ls hl => ?_)
  refine lv_aload_n hx hb dX0_lay_10 rfl (lv_at hl 2 rfl) ?_
  refine mw_get (ci := 0) (C := RX0) (T := TX0) (N := 11) (v := .ref a_t_grid) hC i_X0_lay_X0 hM hc_t rfl 2 (by decide) l_X0_lay_0 rfl rfl dX0_lay_11 ?_
  refine lv_aload_n hx hb dX0_lay_14 rfl (lv_at hl 2 rfl) ?_
  refine lv_iload hx hb dX0_lay_15 (lv_at hl 0 rfl) ?_
  refine mw_cl (mw_runV (As := [.int (fX0_turn w_t)]) (rest := [.ref a_t_grid]) (ci := 0) (C := RX0) (T := TX0) (N := 11) hC hM hS hc_t rfl (c_X0_stonesOf (a_t := a_t) (a_t_before0 := a_t_before0) (a_t_before1 := a_t_before1) (a_t_grid := a_t_grid) (w_t := w_t) (p0 := (fX0_turn w_t)) (hc_t := hc_t) (v := (fX0_stonesOf w_t (fX0_turn w_t))) rfl) gX0_lay_X0_stonesOf rfl rfl rfl rfl q_X0_stonesOf ⟨Nat.le_of_ble_eq_true rfl, Nat.le_of_ble_eq_true rfl⟩ rfl rfl (Nat.le_of_ble_eq_true rfl) hl.1 dX0_lay_17 ⟨Nat.le_of_ble_eq_true rfl, Nat.le_of_ble_eq_true rfl⟩) ?_
  refine lv_aload_n hx hb dX0_lay_20 rfl (lv_at hl 2 rfl) ?_
  refine lv_iconst (v := 1) hx hb dX0_lay_21 (by decide) ?_
  refine lv_iload hx hb dX0_lay_22 (lv_at hl 0 rfl) ?_
  refine lv_isub hx hb dX0_lay_24 ?_
  refine mw_cl (mw_runV (As := [.int (1 - (fX0_turn w_t))]) (rest := [.long (fX0_stonesOf w_t (fX0_turn w_t)), .ref a_t_grid]) (ci := 0) (C := RX0) (T := TX0) (N := 11) hC hM hS hc_t rfl (c_X0_stonesOf (a_t := a_t) (a_t_before0 := a_t_before0) (a_t_before1 := a_t_before1) (a_t_grid := a_t_grid) (w_t := w_t) (p0 := (1 - (fX0_turn w_t))) (hc_t := hc_t) (v := (fX0_stonesOf w_t (1 - (fX0_turn w_t)))) rfl) gX0_lay_X0_stonesOf rfl rfl rfl rfl q_X0_stonesOf ⟨Nat.le_of_ble_eq_true rfl, Nat.le_of_ble_eq_true rfl⟩ rfl rfl (Nat.le_of_ble_eq_true rfl) hl.1 dX0_lay_25 ⟨Nat.le_of_ble_eq_true rfl, Nat.le_of_ble_eq_true rfl⟩) ?_
  refine lv_lload_n hx hb dX0_lay_28 rfl (lv_at hl 1 rfl) ?_
  obtain ⟨r1, hr1, h⟩ := ob_some h
  refine mw_cl (mw_runV (As := [.long (fX0_stonesOf w_t (fX0_turn w_t)), .long (fX0_stonesOf w_t (1 - (fX0_turn w_t))), .long (shlL 1 p0)]) (rest := []) (ci := 2) (C := RX2) (T := TX2) (N := 5) hC hM hS hc_t_grid rfl (c_X2_taken (a_t := a_t_grid) (w_t := w_t_grid) (p0 := (fX0_stonesOf w_t (fX0_turn w_t))) (p1 := (fX0_stonesOf w_t (1 - (fX0_turn w_t)))) (p2 := (shlL 1 p0)) (hc_t := hc_t_grid) (v := r1) hr1) gX0_lay_X2_taken rfl rfl rfl rfl q_X2_taken ⟨Nat.le_of_ble_eq_true rfl, Nat.le_of_ble_eq_true rfl⟩ rfl rfl (Nat.le_of_ble_eq_true rfl) hl.1 dX0_lay_29 ⟨Nat.le_of_ble_eq_true rfl, Nat.le_of_ble_eq_true rfl⟩) ?_
  refine lv_lstore (lv' := [(5, .long r1), (4, .int (fX0_turn w_t)), (2, .long (shlL 1 p0)), (0, .ref a_t), (1, .int p0)]) hx hb dX0_lay_32 hl (by decide) rfl (fun ls hl => ?_)
  refine lv_lload hx hb dX0_lay_34 (lv_at hl 0 rfl) ?_
  refine mw_ci (mw_runS (As := [.long r1]) (rest := []) hC hM hS (c_J13_bitCount_95d88 (p0 := r1) (v := (fJ13_bitCount_95d88 r1)) rfl) gX0_lay_J13_bitCount_95d88 rfl rfl rfl q_J13_bitCount_95d88 ⟨Nat.le_of_ble_eq_true rfl, Nat.le_of_ble_eq_true rfl⟩ rfl rfl (Nat.le_of_ble_eq_true rfl) hl.1 dX0_lay_36 ⟨Nat.le_of_ble_eq_true rfl, Nat.le_of_ble_eq_true rfl⟩) ?_
  refine lv_istore (lv' := [(7, .int (fJ13_bitCount_95d88 r1)), (5, .long r1), (4, .int (fX0_turn w_t)), (2, .long (shlL 1 p0)), (0, .ref a_t), (1, .int p0)]) hx hb dX0_lay_39 hl (by decide) rfl (fun ls hl => ?_)
  refine lv_iload hx hb dX0_lay_41 (lv_at hl 2 rfl) ?_
  refine lv_if_ne (tgt := 85) hx hb dX0_lay_43 (by decide) (fun c2 => ?_) (fun c2 => ?_)
  · replace h := it_neg c2 h
    refine lv_aload_n hx hb dX0_lay_85 rfl (lv_at hl 4 rfl) ?_
    refine lv_dup hx hb dX0_lay_86 rfl ?_
    refine mw_get (ci := 0) (C := RX0) (T := TX0) (N := 11) (v := .long w_t.2.2.2.2.2.1) hC i_X0_lay_X0 hM hc_t rfl 8 (by decide) l_X0_lay_2 rfl rfl dX0_lay_87 ?_
    refine lv_lload_n hx hb dX0_lay_90 rfl (lv_at hl 3 rfl) ?_
    refine lv_lor hx hb dX0_lay_91 ?_
    refine mw_put (ci := 0) (C := RX0) (T := TX0) (N := 11) (ty := .long) hC i_X0_lay_X0 tyX0 tyX0_ok nmX0 hM hS hc_t rfl 8 (by decide) l_X0_lay_2 rfl rfl (by decide +kernel) rfl rfl (Nat.le_of_ble_eq_true rfl) dX0_lay_92 (fun H locs σ1 hM hS hc_t ho3 => ?_)
    replace hc_t : σ1 a_t = some (cl0 a_t_before0 a_t_before1 a_t_grid (w_t.1, w_t.2.1, w_t.2.2.1, w_t.2.2.2.1, w_t.2.2.2.2.1, (w_t.2.2.2.2.2.1 ||| (shlL 1 p0)), w_t.2.2.2.2.2.2.1, w_t.2.2.2.2.2.2.2)) := hc_t
    replace hc_t_before0 := ho3 a_t_before0 _ hc_t_before0 (Ne.symm n_t_t_before0)
    replace hc_t_before1 := ho3 a_t_before1 _ hc_t_before1 (Ne.symm n_t_t_before1)
    have hf4 := fun (q : Nat) (f : va_E) (hf : σ q = some f) (n0 : q ≠ a_t) (n1 : q ≠ a_t_before0) (n2 : q ≠ a_t_before1) => ho3 q f hf n0
    refine lv_aload_n hx hb dX0_lay_95 rfl (lv_at hl 4 rfl) ?_
    refine lv_dup hx hb dX0_lay_96 rfl ?_
    refine mw_get (ci := 0) (C := RX0) (T := TX0) (N := 11) (v := .long w_t.2.2.2.2.1) hC i_X0_lay_X0 hM hc_t rfl 7 (by decide) l_X0_lay_3 rfl rfl dX0_lay_97 ?_
    refine lv_lload hx hb dX0_lay_100 (lv_at hl 1 rfl) ?_
    refine lv_ldc2 (v := -1) hx hb hown (hts _ l_X0_lay_4) dX0_lay_102 ?_
    refine lv_lxor hx hb dX0_lay_105 ?_
    refine lv_land hx hb dX0_lay_106 ?_
    refine mw_put (ci := 0) (C := RX0) (T := TX0) (N := 11) (ty := .long) hC i_X0_lay_X0 tyX0 tyX0_ok nmX0 hM hS hc_t rfl 7 (by decide) l_X0_lay_3 rfl rfl (by decide +kernel) rfl rfl (Nat.le_of_ble_eq_true rfl) dX0_lay_107 (fun H locs σ1 hM hS hc_t ho5 => ?_)
    replace hc_t : σ1 a_t = some (cl0 a_t_before0 a_t_before1 a_t_grid (w_t.1, w_t.2.1, w_t.2.2.1, w_t.2.2.2.1, (w_t.2.2.2.2.1 &&& (r1 ^^^ (-1))), (w_t.2.2.2.2.2.1 ||| (shlL 1 p0)), w_t.2.2.2.2.2.2.1, w_t.2.2.2.2.2.2.2)) := hc_t
    replace hc_t_before0 := ho5 a_t_before0 _ hc_t_before0 (Ne.symm n_t_t_before0)
    replace hc_t_before1 := ho5 a_t_before1 _ hc_t_before1 (Ne.symm n_t_t_before1)
    have hf6 := fun (q : Nat) (f : va_E) (hf : σ q = some f) (n0 : q ≠ a_t) (n1 : q ≠ a_t_before0) (n2 : q ≠ a_t_before1) => ho5 q f (hf4 q f hf n0 n1 n2) n0
    refine lv_aload_n hx hb dX0_lay_110 rfl (lv_at hl 4 rfl) ?_
    refine lv_dup hx hb dX0_lay_111 rfl ?_
    refine mw_get (ci := 0) (C := RX0) (T := TX0) (N := 11) (v := .int w_t.2.2.2.2.2.2.2) hC i_X0_lay_X0 hM hc_t rfl 10 (by decide) l_X0_lay_5 rfl rfl dX0_lay_112 ?_
    refine lv_iload hx hb dX0_lay_115 (lv_at hl 0 rfl) ?_
    refine lv_iadd hx hb dX0_lay_117 ?_
    refine mw_put (ci := 0) (C := RX0) (T := TX0) (N := 11) (ty := .int) hC i_X0_lay_X0 tyX0 tyX0_ok nmX0 hM hS hc_t rfl 10 (by decide) l_X0_lay_5 rfl rfl (by decide +kernel) rfl rfl (Nat.le_of_ble_eq_true rfl) dX0_lay_118 (fun H locs σ1 hM hS hc_t ho7 => ?_)
    replace hc_t : σ1 a_t = some (cl0 a_t_before0 a_t_before1 a_t_grid (w_t.1, w_t.2.1, w_t.2.2.1, w_t.2.2.2.1, (w_t.2.2.2.2.1 &&& (r1 ^^^ (-1))), (w_t.2.2.2.2.2.1 ||| (shlL 1 p0)), w_t.2.2.2.2.2.2.1, (w_t.2.2.2.2.2.2.2 + (fJ13_bitCount_95d88 r1)))) := hc_t
    replace hc_t_before0 := ho7 a_t_before0 _ hc_t_before0 (Ne.symm n_t_t_before0)
    replace hc_t_before1 := ho7 a_t_before1 _ hc_t_before1 (Ne.symm n_t_t_before1)
    have hf8 := fun (q : Nat) (f : va_E) (hf : σ q = some f) (n0 : q ≠ a_t) (n1 : q ≠ a_t_before0) (n2 : q ≠ a_t_before1) => ho7 q f (hf6 q f hf n0 n1 n2) n0
    refine lv_aload_n hx hb dX0_lay_121 rfl (lv_at hl 4 rfl) ?_
    refine lv_dup hx hb dX0_lay_122 rfl ?_
    refine mw_get (ci := 0) (C := RX0) (T := TX0) (N := 11) (v := .int w_t.2.1) hC i_X0_lay_X0 hM hc_t rfl 4 (by decide) l_X0_lay_6 rfl rfl dX0_lay_123 ?_
    refine lv_iconst (v := 1) hx hb dX0_lay_126 (by decide) ?_
    refine lv_iadd hx hb dX0_lay_127 ?_
    refine mw_put (ci := 0) (C := RX0) (T := TX0) (N := 11) (ty := .int) hC i_X0_lay_X0 tyX0 tyX0_ok nmX0 hM hS hc_t rfl 4 (by decide) l_X0_lay_6 rfl rfl (by decide +kernel) rfl rfl (Nat.le_of_ble_eq_true rfl) dX0_lay_128 (fun H locs σ1 hM hS hc_t ho9 => ?_)
    replace hc_t : σ1 a_t = some (cl0 a_t_before0 a_t_before1 a_t_grid (w_t.1, (w_t.2.1 + 1), w_t.2.2.1, w_t.2.2.2.1, (w_t.2.2.2.2.1 &&& (r1 ^^^ (-1))), (w_t.2.2.2.2.2.1 ||| (shlL 1 p0)), w_t.2.2.2.2.2.2.1, (w_t.2.2.2.2.2.2.2 + (fJ13_bitCount_95d88 r1)))) := hc_t
    replace hc_t_before0 := ho9 a_t_before0 _ hc_t_before0 (Ne.symm n_t_t_before0)
    replace hc_t_before1 := ho9 a_t_before1 _ hc_t_before1 (Ne.symm n_t_t_before1)
    have hf10 := fun (q : Nat) (f : va_E) (hf : σ q = some f) (n0 : q ≠ a_t) (n1 : q ≠ a_t_before0) (n2 : q ≠ a_t_before1) => ho9 q f (hf8 q f hf n0 n1 n2) n0
    refine lv_aload_n hx hb dX0_lay_131 rfl (lv_at hl 4 rfl) ?_
    refine lv_iconst (v := 0) hx hb dX0_lay_132 (by decide) ?_
    refine mw_put (ci := 0) (C := RX0) (T := TX0) (N := 11) (ty := .int) hC i_X0_lay_X0 tyX0 tyX0_ok nmX0 hM hS hc_t rfl 6 (by decide) l_X0_lay_7 rfl rfl (by decide +kernel) rfl rfl (Nat.le_of_ble_eq_true rfl) dX0_lay_133 (fun H locs σ1 hM hS hc_t ho11 => ?_)
    replace hc_t : σ1 a_t = some (cl0 a_t_before0 a_t_before1 a_t_grid (w_t.1, (w_t.2.1 + 1), w_t.2.2.1, (0 : Int32), (w_t.2.2.2.2.1 &&& (r1 ^^^ (-1))), (w_t.2.2.2.2.2.1 ||| (shlL 1 p0)), w_t.2.2.2.2.2.2.1, (w_t.2.2.2.2.2.2.2 + (fJ13_bitCount_95d88 r1)))) := hc_t
    replace hc_t_before0 := ho11 a_t_before0 _ hc_t_before0 (Ne.symm n_t_t_before0)
    replace hc_t_before1 := ho11 a_t_before1 _ hc_t_before1 (Ne.symm n_t_t_before1)
    have hf12 := fun (q : Nat) (f : va_E) (hf : σ q = some f) (n0 : q ≠ a_t) (n1 : q ≠ a_t_before0) (n2 : q ≠ a_t_before1) => ho11 q f (hf10 q f hf n0 n1 n2) n0
    refine lv_aload_n hx hb dX0_lay_136 rfl (lv_at hl 4 rfl) ?_
    obtain ⟨r13, hr13, h⟩ := ob_some h
    refine mw_wv (mw_runV (As := []) (rest := []) (ci := 0) (C := RX0) (T := TX0) (N := 11) hC hM hS hc_t rfl (c_X0_keepPosition (a_t := a_t) (a_t_before0 := a_t_before0) (a_t_before1 := a_t_before1) (a_t_grid := a_t_grid) (w_t := (w_t.1, (w_t.2.1 + 1), w_t.2.2.1, (0 : Int32), (w_t.2.2.2.2.1 &&& (r1 ^^^ (-1))), (w_t.2.2.2.2.2.1 ||| (shlL 1 p0)), w_t.2.2.2.2.2.2.1, (w_t.2.2.2.2.2.2.2 + (fJ13_bitCount_95d88 r1)))) (f_t_before0 := f_t_before0) (f_t_before1 := f_t_before1) (hc_t := hc_t) (hc_t_before0 := hc_t_before0) (hc_t_before1 := hc_t_before1) (n_t_t_before0 := n_t_t_before0) (n_t_t_before1 := n_t_t_before1) (n_t_before0_t_before1 := n_t_before0_t_before1) (v := r13) hr13) gX0_lay_X0_keepPosition rfl rfl rfl rfl q_X0_keepPosition ⟨Nat.le_of_ble_eq_true rfl, Nat.le_of_ble_eq_true rfl⟩ rfl rfl (Nat.le_of_ble_eq_true rfl) hl.1 dX0_lay_137 ⟨Nat.le_of_ble_eq_true rfl, Nat.le_of_ble_eq_true rfl⟩) hS (fun H locs σ1 hp15 hM hS => ?_)
    obtain ⟨hc_t_before0, hc_t_before1, ho14⟩ := hp15
    replace hc_t := ho14 a_t _ hc_t n_t_t_before0 n_t_t_before1
    have hf16 := fun (q : Nat) (f : va_E) (hf : σ q = some f) (n0 : q ≠ a_t) (n1 : q ≠ a_t_before0) (n2 : q ≠ a_t_before1) => ho14 q f (hf12 q f hf n0 n1 n2) n1 n2
    refine lv_iload hx hb dX0_lay_140 (lv_at hl 0 rfl) ?_
    cases h
    exact W.iret hx hb hr (fun t ht hW => ⟨⟨_, _, rfl, ⟨rfl, hc_t, hc_t_before0, hc_t_before1, hf16⟩, by show MW z D _ t.heap; rw [ht]; exact hM⟩, hS.F ht⟩) hS.2.2 dX0_lay_142 hlocks
  · replace h := it_pos c2 h
    refine lv_aload_n hx hb dX0_lay_46 rfl (lv_at hl 4 rfl) ?_
    refine lv_dup hx hb dX0_lay_47 rfl ?_
    refine mw_get (ci := 0) (C := RX0) (T := TX0) (N := 11) (v := .long w_t.2.2.2.2.1) hC i_X0_lay_X0 hM hc_t rfl 7 (by decide) l_X0_lay_3 rfl rfl dX0_lay_48 ?_
    refine lv_lload_n hx hb dX0_lay_51 rfl (lv_at hl 3 rfl) ?_
    refine lv_lor hx hb dX0_lay_52 ?_
    refine mw_put (ci := 0) (C := RX0) (T := TX0) (N := 11) (ty := .long) hC i_X0_lay_X0 tyX0 tyX0_ok nmX0 hM hS hc_t rfl 7 (by decide) l_X0_lay_3 rfl rfl (by decide +kernel) rfl rfl (Nat.le_of_ble_eq_true rfl) dX0_lay_53 (fun H locs σ1 hM hS hc_t ho17 => ?_)
    replace hc_t : σ1 a_t = some (cl0 a_t_before0 a_t_before1 a_t_grid (w_t.1, w_t.2.1, w_t.2.2.1, w_t.2.2.2.1, (w_t.2.2.2.2.1 ||| (shlL 1 p0)), w_t.2.2.2.2.2.1, w_t.2.2.2.2.2.2.1, w_t.2.2.2.2.2.2.2)) := hc_t
    replace hc_t_before0 := ho17 a_t_before0 _ hc_t_before0 (Ne.symm n_t_t_before0)
    replace hc_t_before1 := ho17 a_t_before1 _ hc_t_before1 (Ne.symm n_t_t_before1)
    have hf18 := fun (q : Nat) (f : va_E) (hf : σ q = some f) (n0 : q ≠ a_t) (n1 : q ≠ a_t_before0) (n2 : q ≠ a_t_before1) => ho17 q f hf n0
    refine lv_aload_n hx hb dX0_lay_56 rfl (lv_at hl 4 rfl) ?_
    refine lv_dup hx hb dX0_lay_57 rfl ?_
    refine mw_get (ci := 0) (C := RX0) (T := TX0) (N := 11) (v := .long w_t.2.2.2.2.2.1) hC i_X0_lay_X0 hM hc_t rfl 8 (by decide) l_X0_lay_2 rfl rfl dX0_lay_58 ?_
    refine lv_lload hx hb dX0_lay_61 (lv_at hl 1 rfl) ?_
    refine lv_ldc2 (v := -1) hx hb hown (hts _ l_X0_lay_4) dX0_lay_63 ?_
    refine lv_lxor hx hb dX0_lay_66 ?_
    refine lv_land hx hb dX0_lay_67 ?_
    refine mw_put (ci := 0) (C := RX0) (T := TX0) (N := 11) (ty := .long) hC i_X0_lay_X0 tyX0 tyX0_ok nmX0 hM hS hc_t rfl 8 (by decide) l_X0_lay_2 rfl rfl (by decide +kernel) rfl rfl (Nat.le_of_ble_eq_true rfl) dX0_lay_68 (fun H locs σ1 hM hS hc_t ho19 => ?_)
    replace hc_t : σ1 a_t = some (cl0 a_t_before0 a_t_before1 a_t_grid (w_t.1, w_t.2.1, w_t.2.2.1, w_t.2.2.2.1, (w_t.2.2.2.2.1 ||| (shlL 1 p0)), (w_t.2.2.2.2.2.1 &&& (r1 ^^^ (-1))), w_t.2.2.2.2.2.2.1, w_t.2.2.2.2.2.2.2)) := hc_t
    replace hc_t_before0 := ho19 a_t_before0 _ hc_t_before0 (Ne.symm n_t_t_before0)
    replace hc_t_before1 := ho19 a_t_before1 _ hc_t_before1 (Ne.symm n_t_t_before1)
    have hf20 := fun (q : Nat) (f : va_E) (hf : σ q = some f) (n0 : q ≠ a_t) (n1 : q ≠ a_t_before0) (n2 : q ≠ a_t_before1) => ho19 q f (hf18 q f hf n0 n1 n2) n0
    refine lv_aload_n hx hb dX0_lay_71 rfl (lv_at hl 4 rfl) ?_
    refine lv_dup hx hb dX0_lay_72 rfl ?_
    refine mw_get (ci := 0) (C := RX0) (T := TX0) (N := 11) (v := .int w_t.2.2.2.2.2.2.1) hC i_X0_lay_X0 hM hc_t rfl 9 (by decide) l_X0_lay_8 rfl rfl dX0_lay_73 ?_
    refine lv_iload hx hb dX0_lay_76 (lv_at hl 0 rfl) ?_
    refine lv_iadd hx hb dX0_lay_78 ?_
    refine mw_put (ci := 0) (C := RX0) (T := TX0) (N := 11) (ty := .int) hC i_X0_lay_X0 tyX0 tyX0_ok nmX0 hM hS hc_t rfl 9 (by decide) l_X0_lay_8 rfl rfl (by decide +kernel) rfl rfl (Nat.le_of_ble_eq_true rfl) dX0_lay_79 (fun H locs σ1 hM hS hc_t ho21 => ?_)
    replace hc_t : σ1 a_t = some (cl0 a_t_before0 a_t_before1 a_t_grid (w_t.1, w_t.2.1, w_t.2.2.1, w_t.2.2.2.1, (w_t.2.2.2.2.1 ||| (shlL 1 p0)), (w_t.2.2.2.2.2.1 &&& (r1 ^^^ (-1))), (w_t.2.2.2.2.2.2.1 + (fJ13_bitCount_95d88 r1)), w_t.2.2.2.2.2.2.2)) := hc_t
    replace hc_t_before0 := ho21 a_t_before0 _ hc_t_before0 (Ne.symm n_t_t_before0)
    replace hc_t_before1 := ho21 a_t_before1 _ hc_t_before1 (Ne.symm n_t_t_before1)
    have hf22 := fun (q : Nat) (f : va_E) (hf : σ q = some f) (n0 : q ≠ a_t) (n1 : q ≠ a_t_before0) (n2 : q ≠ a_t_before1) => ho21 q f (hf20 q f hf n0 n1 n2) n0
    refine lv_goto (tgt := 121) hx hb dX0_lay_82 (by decide) ?_
    refine lv_aload_n hx hb dX0_lay_121 rfl (lv_at hl 4 rfl) ?_
    refine lv_dup hx hb dX0_lay_122 rfl ?_
    refine mw_get (ci := 0) (C := RX0) (T := TX0) (N := 11) (v := .int w_t.2.1) hC i_X0_lay_X0 hM hc_t rfl 4 (by decide) l_X0_lay_6 rfl rfl dX0_lay_123 ?_
    refine lv_iconst (v := 1) hx hb dX0_lay_126 (by decide) ?_
    refine lv_iadd hx hb dX0_lay_127 ?_
    refine mw_put (ci := 0) (C := RX0) (T := TX0) (N := 11) (ty := .int) hC i_X0_lay_X0 tyX0 tyX0_ok nmX0 hM hS hc_t rfl 4 (by decide) l_X0_lay_6 rfl rfl (by decide +kernel) rfl rfl (Nat.le_of_ble_eq_true rfl) dX0_lay_128 (fun H locs σ1 hM hS hc_t ho23 => ?_)
    replace hc_t : σ1 a_t = some (cl0 a_t_before0 a_t_before1 a_t_grid (w_t.1, (w_t.2.1 + 1), w_t.2.2.1, w_t.2.2.2.1, (w_t.2.2.2.2.1 ||| (shlL 1 p0)), (w_t.2.2.2.2.2.1 &&& (r1 ^^^ (-1))), (w_t.2.2.2.2.2.2.1 + (fJ13_bitCount_95d88 r1)), w_t.2.2.2.2.2.2.2)) := hc_t
    replace hc_t_before0 := ho23 a_t_before0 _ hc_t_before0 (Ne.symm n_t_t_before0)
    replace hc_t_before1 := ho23 a_t_before1 _ hc_t_before1 (Ne.symm n_t_t_before1)
    have hf24 := fun (q : Nat) (f : va_E) (hf : σ q = some f) (n0 : q ≠ a_t) (n1 : q ≠ a_t_before0) (n2 : q ≠ a_t_before1) => ho23 q f (hf22 q f hf n0 n1 n2) n0
    refine lv_aload_n hx hb dX0_lay_131 rfl (lv_at hl 4 rfl) ?_
    refine lv_iconst (v := 0) hx hb dX0_lay_132 (by decide) ?_
    refine mw_put (ci := 0) (C := RX0) (T := TX0) (N := 11) (ty := .int) hC i_X0_lay_X0 tyX0 tyX0_ok nmX0 hM hS hc_t rfl 6 (by decide) l_X0_lay_7 rfl rfl (by decide +kernel) rfl rfl (Nat.le_of_ble_eq_true rfl) dX0_lay_133 (fun H locs σ1 hM hS hc_t ho25 => ?_)
    replace hc_t : σ1 a_t = some (cl0 a_t_before0 a_t_before1 a_t_grid (w_t.1, (w_t.2.1 + 1), w_t.2.2.1, (0 : Int32), (w_t.2.2.2.2.1 ||| (shlL 1 p0)), (w_t.2.2.2.2.2.1 &&& (r1 ^^^ (-1))), (w_t.2.2.2.2.2.2.1 + (fJ13_bitCount_95d88 r1)), w_t.2.2.2.2.2.2.2)) := hc_t
    replace hc_t_before0 := ho25 a_t_before0 _ hc_t_before0 (Ne.symm n_t_t_before0)
    replace hc_t_before1 := ho25 a_t_before1 _ hc_t_before1 (Ne.symm n_t_t_before1)
    have hf26 := fun (q : Nat) (f : va_E) (hf : σ q = some f) (n0 : q ≠ a_t) (n1 : q ≠ a_t_before0) (n2 : q ≠ a_t_before1) => ho25 q f (hf24 q f hf n0 n1 n2) n0
    refine lv_aload_n hx hb dX0_lay_136 rfl (lv_at hl 4 rfl) ?_
    obtain ⟨r27, hr27, h⟩ := ob_some h
    refine mw_wv (mw_runV (As := []) (rest := []) (ci := 0) (C := RX0) (T := TX0) (N := 11) hC hM hS hc_t rfl (c_X0_keepPosition (a_t := a_t) (a_t_before0 := a_t_before0) (a_t_before1 := a_t_before1) (a_t_grid := a_t_grid) (w_t := (w_t.1, (w_t.2.1 + 1), w_t.2.2.1, (0 : Int32), (w_t.2.2.2.2.1 ||| (shlL 1 p0)), (w_t.2.2.2.2.2.1 &&& (r1 ^^^ (-1))), (w_t.2.2.2.2.2.2.1 + (fJ13_bitCount_95d88 r1)), w_t.2.2.2.2.2.2.2)) (f_t_before0 := f_t_before0) (f_t_before1 := f_t_before1) (hc_t := hc_t) (hc_t_before0 := hc_t_before0) (hc_t_before1 := hc_t_before1) (n_t_t_before0 := n_t_t_before0) (n_t_t_before1 := n_t_t_before1) (n_t_before0_t_before1 := n_t_before0_t_before1) (v := r27) hr27) gX0_lay_X0_keepPosition rfl rfl rfl rfl q_X0_keepPosition ⟨Nat.le_of_ble_eq_true rfl, Nat.le_of_ble_eq_true rfl⟩ rfl rfl (Nat.le_of_ble_eq_true rfl) hl.1 dX0_lay_137 ⟨Nat.le_of_ble_eq_true rfl, Nat.le_of_ble_eq_true rfl⟩) hS (fun H locs σ1 hp29 hM hS => ?_)
    obtain ⟨hc_t_before0, hc_t_before1, ho28⟩ := hp29
    replace hc_t := ho28 a_t _ hc_t n_t_t_before0 n_t_t_before1
    have hf30 := fun (q : Nat) (f : va_E) (hf : σ q = some f) (n0 : q ≠ a_t) (n1 : q ≠ a_t_before0) (n2 : q ≠ a_t_before1) => ho28 q f (hf26 q f hf n0 n1 n2) n1 n2
    refine lv_iload hx hb dX0_lay_140 (lv_at hl 0 rfl) ?_
    cases h
    exact W.iret hx hb hr (fun t ht hW => ⟨⟨_, _, rfl, ⟨rfl, hc_t, hc_t_before0, hc_t_before1, hf30⟩, by show MW z D _ t.heap; rw [ht]; exact hM⟩, hS.F ht⟩) hS.2.2 dX0_lay_142 hlocks
theorem l_X0_layIfAllowed_0 : Cond.fieldLink RX0 18 "CornerStones$Game" "grid" "LCornerStones$Grid;" ∈ wsX0_layIfAllowed := (List.mem_cons_of_mem _ (List.mem_append_left _ (List.mem_append_left _ (List.mem_append_left _ (List.mem_of_getElem? (i := 0) rfl)))))
theorem i_X0_layIfAllowed_X0 : ∀ w ∈ wsX00, w ∈ wsX0_layIfAllowed := fun _ h => (List.mem_cons_of_mem _ (List.mem_append_left _ (List.mem_append_right _ h)))
theorem q_X0_layIfAllowed : yX0_layIfAllowed.cls ≠ "java/lang/invoke/MethodHandle" ∧ yX0_layIfAllowed.cls ≠ "java/lang/invoke/VarHandle" ∧ (parseMethodDescriptor yX0_layIfAllowed.desc).map (fun d => d.parameters.length) = some 1 := by decide +kernel
def fX0_layIfAllowed (w_t : Int32 × Int32 × Int32 × Int32 × Int64 × Int64 × Int32 × Int32) (f_t_before0 : Nat → Int64) (f_t_before1 : Nat → Int64) (w_t_grid : Int32 × Int32 × Int64 × Int64 × Int64) (p0 : Int32) : Option (Bool × (Int32 × Int32 × Int32 × Int32 × Int64 × Int64 × Int32 × Int32) × (Nat → Int64) × (Nat → Int64)) := if (fX2_has w_t_grid p0) = true then ((fX0_reasonAt w_t f_t_before0 f_t_before1 w_t_grid p0).bind fun r2 => if r2 = 0 then ((fX0_lay w_t f_t_before0 f_t_before1 w_t_grid p0).bind fun r4 => some ((true, r4.2.1, r4.2.2.1, r4.2.2.2))) else (some ((false, w_t, f_t_before0, f_t_before1)))) else (some ((false, w_t, f_t_before0, f_t_before1)))
set_option maxHeartbeats 4000000 in
set_option maxRecDepth 100000 in
theorem c_X0_layIfAllowed {l : Launch} {z : Nat} {D : va_G} {K : Nat → ClassId} {σ : mwm} {a_t a_t_before0 a_t_before1 a_t_grid : Nat} {w_t : Int32 × Int32 × Int32 × Int32 × Int64 × Int64 × Int32 × Int32} {f_t_before0 : Nat → Int64} {f_t_before1 : Nat → Int64} {w_t_grid : Int32 × Int32 × Int64 × Int64 × Int64} {p0 : Int32} (hc_t : σ a_t = some (cl0 a_t_before0 a_t_before1 a_t_grid w_t)) (hc_t_before0 : σ a_t_before0 = some (eJ K 121 f_t_before0)) (hc_t_before1 : σ a_t_before1 = some (eJ K 121 f_t_before1)) (hc_t_grid : σ a_t_grid = some (cl2  w_t_grid)) (n_t_t_before0 : a_t ≠ a_t_before0) (n_t_t_before1 : a_t ≠ a_t_before1) (n_t_before0_t_before1 : a_t_before0 ≠ a_t_before1) {v : Bool × (Int32 × Int32 × Int32 × Int32 × Int64 × Int64 × Int32 × Int32) × (Nat → Int64) × (Nat → Int64)} (h : fX0_layIfAllowed w_t f_t_before0 f_t_before1 w_t_grid p0 = some v) : Met l yX0_layIfAllowed wsX0_layIfAllowed ({ frames := 4, cells := 0, slots := 0, locals := 106 } : Room) (PCm z D K [.ref a_t, .int p0] σ) (qwI z D (fun r σ2 => r = b2i v.1 ∧ σ2 a_t = some (cl0 a_t_before0 a_t_before1 a_t_grid v.2.1) ∧ σ2 a_t_before0 = some (eJ K 121 v.2.2.1) ∧ σ2 a_t_before1 = some (eJ K 121 v.2.2.2) ∧ ∀ (q : Nat) (f : va_E), σ q = some f → q ≠ a_t → q ≠ a_t_before0 → q ≠ a_t_before1 → σ2 q = some f)) 0 0 (zA z) := by
  refine mt_enter (cc := cX0_layIfAllowed) (maxL := 2) (ret := (some .boolean)) (own := RX0) (lv := [(0, .ref a_t), (1, .int p0)]) (by decide) rfl rfl (Nat.le_of_ble_eq_true rfl) rfl ?_
  intro p e s m below meth c ls hC hx hb hown hts hK hr hlocks hnm hz hM hS hl
  unfold fX0_layIfAllowed at h
  refine lv_aload_n hx hb dX0_layIfAllowed_0 rfl (lv_at hl 0 rfl) ?_
  refine mw_get (ci := 0) (C := RX0) (T := TX0) (N := 11) (v := .ref a_t_grid) hC i_X0_layIfAllowed_X0 hM hc_t rfl 2 (by decide) l_X0_layIfAllowed_0 rfl rfl dX0_layIfAllowed_1 ?_
  refine lv_iload_n hx hb dX0_layIfAllowed_4 rfl (lv_at hl 1 rfl) ?_
  refine mw_ci (mw_runV (As := [.int p0]) (rest := []) (ci := 2) (C := RX2) (T := TX2) (N := 5) hC hM hS hc_t_grid rfl (c_X2_has (a_t := a_t_grid) (w_t := w_t_grid) (p0 := p0) (hc_t := hc_t_grid) (v := (fX2_has w_t_grid p0)) rfl) gX0_layIfAllowed_X2_has rfl rfl rfl rfl q_X2_has ⟨Nat.le_of_ble_eq_true rfl, Nat.le_of_ble_eq_true rfl⟩ rfl rfl (Nat.le_of_ble_eq_true rfl) hl.1 dX0_layIfAllowed_5 ⟨Nat.le_of_ble_eq_true rfl, Nat.le_of_ble_eq_true rfl⟩) ?_
  refine lv_if_eq (tgt := 19) hx hb dX0_layIfAllowed_8 (by decide) (fun c1 => ?_) (fun c1 => ?_)
  · replace c1 := b2i_eq0.mp c1
    replace h := it_neg c1 h
    refine lv_iconst (v := 0) hx hb dX0_layIfAllowed_19 (by decide) ?_
    cases h
    exact W.zret (ty := .boolean) (v := b2i false) hx hb hr (b2i_nar _) (fun t ht hW => ⟨⟨_, _, rfl, ⟨rfl, hc_t, hc_t_before0, hc_t_before1, (fun _ _ h9 _ _ _ => h9)⟩, by show MW z D _ t.heap; rw [ht]; exact hM⟩, hS.F ht⟩) hS.2.2 dX0_layIfAllowed_20 hlocks
  · replace c1 := b2i_ne0.mp c1
    replace h := it_pos c1 h
    refine lv_aload_n hx hb dX0_layIfAllowed_11 rfl (lv_at hl 0 rfl) ?_
    refine lv_iload_n hx hb dX0_layIfAllowed_12 rfl (lv_at hl 1 rfl) ?_
    obtain ⟨r2, hr2, h⟩ := ob_some h
    refine mw_ci (mw_runV (As := [.int p0]) (rest := []) (ci := 0) (C := RX0) (T := TX0) (N := 11) hC hM hS hc_t rfl (c_X0_reasonAt (a_t := a_t) (a_t_before0 := a_t_before0) (a_t_before1 := a_t_before1) (a_t_grid := a_t_grid) (w_t := w_t) (f_t_before0 := f_t_before0) (f_t_before1 := f_t_before1) (w_t_grid := w_t_grid) (p0 := p0) (hc_t := hc_t) (hc_t_before0 := hc_t_before0) (hc_t_before1 := hc_t_before1) (hc_t_grid := hc_t_grid) (v := r2) hr2) gX0_layIfAllowed_X0_reasonAt rfl rfl rfl rfl q_X0_reasonAt ⟨Nat.le_of_ble_eq_true rfl, Nat.le_of_ble_eq_true rfl⟩ rfl rfl (Nat.le_of_ble_eq_true rfl) hl.1 dX0_layIfAllowed_13 ⟨Nat.le_of_ble_eq_true rfl, Nat.le_of_ble_eq_true rfl⟩) ?_
    refine lv_if_eq (tgt := 21) hx hb dX0_layIfAllowed_16 (by decide) (fun c3 => ?_) (fun c3 => ?_)
    · replace h := it_pos c3 h
      refine lv_aload_n hx hb dX0_layIfAllowed_21 rfl (lv_at hl 0 rfl) ?_
      refine lv_iload_n hx hb dX0_layIfAllowed_22 rfl (lv_at hl 1 rfl) ?_
      obtain ⟨r4, hr4, h⟩ := ob_some h
      refine mw_wi (mw_runV (As := [.int p0]) (rest := []) (ci := 0) (C := RX0) (T := TX0) (N := 11) hC hM hS hc_t rfl (c_X0_lay (a_t := a_t) (a_t_before0 := a_t_before0) (a_t_before1 := a_t_before1) (a_t_grid := a_t_grid) (w_t := w_t) (f_t_before0 := f_t_before0) (f_t_before1 := f_t_before1) (w_t_grid := w_t_grid) (p0 := p0) (hc_t := hc_t) (hc_t_before0 := hc_t_before0) (hc_t_before1 := hc_t_before1) (hc_t_grid := hc_t_grid) (n_t_t_before0 := n_t_t_before0) (n_t_t_before1 := n_t_t_before1) (n_t_before0_t_before1 := n_t_before0_t_before1) (v := r4) hr4) gX0_layIfAllowed_X0_lay rfl rfl rfl rfl q_X0_lay ⟨Nat.le_of_ble_eq_true rfl, Nat.le_of_ble_eq_true rfl⟩ rfl rfl (Nat.le_of_ble_eq_true rfl) hl.1 dX0_layIfAllowed_23 ⟨Nat.le_of_ble_eq_true rfl, Nat.le_of_ble_eq_true rfl⟩) hS (fun r9 H locs σ1 hp6 hM hS => ?_)
      obtain ⟨rfl, hc_t, hc_t_before0, hc_t_before1, ho5⟩ := hp6
      have hf7 := fun (q : Nat) (f : va_E) (hf : σ q = some f) (n0 : q ≠ a_t) (n1 : q ≠ a_t_before0) (n2 : q ≠ a_t_before1) => ho5 q f hf n0 n1 n2
      refine lv_pop hx hb dX0_layIfAllowed_26 rfl ?_
      refine lv_iconst (v := 1) hx hb dX0_layIfAllowed_27 (by decide) ?_
      cases h
      exact W.zret (ty := .boolean) (v := b2i true) hx hb hr (b2i_nar _) (fun t ht hW => ⟨⟨_, _, rfl, ⟨rfl, hc_t, hc_t_before0, hc_t_before1, hf7⟩, by show MW z D _ t.heap; rw [ht]; exact hM⟩, hS.F ht⟩) hS.2.2 dX0_layIfAllowed_28 hlocks
    · replace h := it_neg c3 h
      refine lv_iconst (v := 0) hx hb dX0_layIfAllowed_19 (by decide) ?_
      cases h
      exact W.zret (ty := .boolean) (v := b2i false) hx hb hr (b2i_nar _) (fun t ht hW => ⟨⟨_, _, rfl, ⟨rfl, hc_t, hc_t_before0, hc_t_before1, (fun _ _ h9 _ _ _ => h9)⟩, by show MW z D _ t.heap; rw [ht]; exact hM⟩, hS.F ht⟩) hS.2.2 dX0_layIfAllowed_20 hlocks
theorem l_X0_passIfAllowed_0 : Cond.fieldLink RX0 27 "CornerStones$Game" "moves" "I" ∈ wsX0_passIfAllowed := (List.mem_cons_of_mem _ (List.mem_append_left _ (List.mem_of_getElem? (i := 0) rfl)))
theorem i_X0_passIfAllowed_X0 : ∀ w ∈ wsX00, w ∈ wsX0_passIfAllowed := fun _ h => (List.mem_cons_of_mem _ (List.mem_append_right _ h))
theorem l_X0_passIfAllowed_2 : Cond.fieldLink RX0 31 "CornerStones$Game" "passes" "I" ∈ wsX0_passIfAllowed := (List.mem_cons_of_mem _ (List.mem_append_left _ (List.mem_of_getElem? (i := 1) rfl)))
theorem l_X0_passIfAllowed_3 : Cond.fieldLink RX0 34 "CornerStones$Game" "passesInRow" "I" ∈ wsX0_passIfAllowed := (List.mem_cons_of_mem _ (List.mem_append_left _ (List.mem_of_getElem? (i := 2) rfl)))
theorem q_X0_passIfAllowed : yX0_passIfAllowed.cls ≠ "java/lang/invoke/MethodHandle" ∧ yX0_passIfAllowed.cls ≠ "java/lang/invoke/VarHandle" ∧ (parseMethodDescriptor yX0_passIfAllowed.desc).map (fun d => d.parameters.length) = some 0 := by decide +kernel
def fX0_passIfAllowed (w_t : Int32 × Int32 × Int32 × Int32 × Int64 × Int64 × Int32 × Int32) (f_t_before0 : Nat → Int64) (f_t_before1 : Nat → Int64) : Option (Bool × (Int32 × Int32 × Int32 × Int32 × Int64 × Int64 × Int32 × Int32) × (Nat → Int64) × (Nat → Int64)) := if w_t.2.1 < 120 then ((fX0_keepPosition (w_t.1, (w_t.2.1 + 1), (w_t.2.2.1 + 1), (w_t.2.2.2.1 + 1), w_t.2.2.2.2.1, w_t.2.2.2.2.2.1, w_t.2.2.2.2.2.2.1, w_t.2.2.2.2.2.2.2) f_t_before0 f_t_before1).bind fun r8 => some ((true, (w_t.1, (w_t.2.1 + 1), (w_t.2.2.1 + 1), (w_t.2.2.2.1 + 1), w_t.2.2.2.2.1, w_t.2.2.2.2.2.1, w_t.2.2.2.2.2.2.1, w_t.2.2.2.2.2.2.2), r8.1, r8.2))) else (some ((false, w_t, f_t_before0, f_t_before1)))
set_option maxHeartbeats 4000000 in
set_option maxRecDepth 100000 in
theorem c_X0_passIfAllowed {l : Launch} {z : Nat} {D : va_G} {K : Nat → ClassId} {σ : mwm} {a_t a_t_before0 a_t_before1 a_t_grid : Nat} {w_t : Int32 × Int32 × Int32 × Int32 × Int64 × Int64 × Int32 × Int32} {f_t_before0 : Nat → Int64} {f_t_before1 : Nat → Int64} (hc_t : σ a_t = some (cl0 a_t_before0 a_t_before1 a_t_grid w_t)) (hc_t_before0 : σ a_t_before0 = some (eJ K 121 f_t_before0)) (hc_t_before1 : σ a_t_before1 = some (eJ K 121 f_t_before1)) (n_t_t_before0 : a_t ≠ a_t_before0) (n_t_t_before1 : a_t ≠ a_t_before1) (n_t_before0_t_before1 : a_t_before0 ≠ a_t_before1) {v : Bool × (Int32 × Int32 × Int32 × Int32 × Int64 × Int64 × Int32 × Int32) × (Nat → Int64) × (Nat → Int64)} (h : fX0_passIfAllowed w_t f_t_before0 f_t_before1 = some v) : Met l yX0_passIfAllowed wsX0_passIfAllowed ({ frames := 1, cells := 0, slots := 0, locals := 20 } : Room) (PCm z D K [.ref a_t] σ) (qwI z D (fun r σ2 => r = b2i v.1 ∧ σ2 a_t = some (cl0 a_t_before0 a_t_before1 a_t_grid v.2.1) ∧ σ2 a_t_before0 = some (eJ K 121 v.2.2.1) ∧ σ2 a_t_before1 = some (eJ K 121 v.2.2.2) ∧ ∀ (q : Nat) (f : va_E), σ q = some f → q ≠ a_t → q ≠ a_t_before0 → q ≠ a_t_before1 → σ2 q = some f)) 0 0 (zA z) := by
  refine mt_enter (cc := cX0_passIfAllowed) (maxL := 1) (ret := (some .boolean)) (own := RX0) (lv := [(0, .ref a_t)]) (by decide) rfl rfl (Nat.le_of_ble_eq_true rfl) rfl ?_
  intro p e s m below meth c ls hC hx hb hown hts hK hr hlocks hnm hz hM hS hl
  unfold fX0_passIfAllowed at h
  refine lv_aload_n hx hb dX0_passIfAllowed_0 rfl (lv_at hl 0 rfl) ?_
  refine mw_get (ci := 0) (C := RX0) (T := TX0) (N := 11) (v := .int w_t.2.1) hC i_X0_passIfAllowed_X0 hM hc_t rfl 4 (by decide) l_X0_passIfAllowed_0 rfl rfl dX0_passIfAllowed_1 ?_
  refine lv_bipush (v := 120) hx hb dX0_passIfAllowed_4 (by decide) ?_
  refine lv_icmp_lt (tgt := 11) hx hb dX0_passIfAllowed_6 (by decide) (fun c1 => ?_) (fun c1 => ?_)
  · replace h := it_pos c1 h
    refine lv_aload_n hx hb dX0_passIfAllowed_11 rfl (lv_at hl 0 rfl) ?_
    refine lv_dup hx hb dX0_passIfAllowed_12 rfl ?_
    refine mw_get (ci := 0) (C := RX0) (T := TX0) (N := 11) (v := .int w_t.2.1) hC i_X0_passIfAllowed_X0 hM hc_t rfl 4 (by decide) l_X0_passIfAllowed_0 rfl rfl dX0_passIfAllowed_13 ?_
    refine lv_iconst (v := 1) hx hb dX0_passIfAllowed_16 (by decide) ?_
    refine lv_iadd hx hb dX0_passIfAllowed_17 ?_
    refine mw_put (ci := 0) (C := RX0) (T := TX0) (N := 11) (ty := .int) hC i_X0_passIfAllowed_X0 tyX0 tyX0_ok nmX0 hM hS hc_t rfl 4 (by decide) l_X0_passIfAllowed_0 rfl rfl (by decide +kernel) rfl rfl (Nat.le_of_ble_eq_true rfl) dX0_passIfAllowed_18 (fun H locs σ1 hM hS hc_t ho2 => ?_)
    replace hc_t : σ1 a_t = some (cl0 a_t_before0 a_t_before1 a_t_grid (w_t.1, (w_t.2.1 + 1), w_t.2.2.1, w_t.2.2.2.1, w_t.2.2.2.2.1, w_t.2.2.2.2.2.1, w_t.2.2.2.2.2.2.1, w_t.2.2.2.2.2.2.2)) := hc_t
    replace hc_t_before0 := ho2 a_t_before0 _ hc_t_before0 (Ne.symm n_t_t_before0)
    replace hc_t_before1 := ho2 a_t_before1 _ hc_t_before1 (Ne.symm n_t_t_before1)
    have hf3 := fun (q : Nat) (f : va_E) (hf : σ q = some f) (n0 : q ≠ a_t) (n1 : q ≠ a_t_before0) (n2 : q ≠ a_t_before1) => ho2 q f hf n0
    refine lv_aload_n hx hb dX0_passIfAllowed_21 rfl (lv_at hl 0 rfl) ?_
    refine lv_dup hx hb dX0_passIfAllowed_22 rfl ?_
    refine mw_get (ci := 0) (C := RX0) (T := TX0) (N := 11) (v := .int w_t.2.2.1) hC i_X0_passIfAllowed_X0 hM hc_t rfl 5 (by decide) l_X0_passIfAllowed_2 rfl rfl dX0_passIfAllowed_23 ?_
    refine lv_iconst (v := 1) hx hb dX0_passIfAllowed_26 (by decide) ?_
    refine lv_iadd hx hb dX0_passIfAllowed_27 ?_
    refine mw_put (ci := 0) (C := RX0) (T := TX0) (N := 11) (ty := .int) hC i_X0_passIfAllowed_X0 tyX0 tyX0_ok nmX0 hM hS hc_t rfl 5 (by decide) l_X0_passIfAllowed_2 rfl rfl (by decide +kernel) rfl rfl (Nat.le_of_ble_eq_true rfl) dX0_passIfAllowed_28 (fun H locs σ1 hM hS hc_t ho4 => ?_)
    replace hc_t : σ1 a_t = some (cl0 a_t_before0 a_t_before1 a_t_grid (w_t.1, (w_t.2.1 + 1), (w_t.2.2.1 + 1), w_t.2.2.2.1, w_t.2.2.2.2.1, w_t.2.2.2.2.2.1, w_t.2.2.2.2.2.2.1, w_t.2.2.2.2.2.2.2)) := hc_t
    replace hc_t_before0 := ho4 a_t_before0 _ hc_t_before0 (Ne.symm n_t_t_before0)
    replace hc_t_before1 := ho4 a_t_before1 _ hc_t_before1 (Ne.symm n_t_t_before1)
    have hf5 := fun (q : Nat) (f : va_E) (hf : σ q = some f) (n0 : q ≠ a_t) (n1 : q ≠ a_t_before0) (n2 : q ≠ a_t_before1) => ho4 q f (hf3 q f hf n0 n1 n2) n0
    refine lv_aload_n hx hb dX0_passIfAllowed_31 rfl (lv_at hl 0 rfl) ?_
    refine lv_dup hx hb dX0_passIfAllowed_32 rfl ?_
    refine mw_get (ci := 0) (C := RX0) (T := TX0) (N := 11) (v := .int w_t.2.2.2.1) hC i_X0_passIfAllowed_X0 hM hc_t rfl 6 (by decide) l_X0_passIfAllowed_3 rfl rfl dX0_passIfAllowed_33 ?_
    refine lv_iconst (v := 1) hx hb dX0_passIfAllowed_36 (by decide) ?_
    refine lv_iadd hx hb dX0_passIfAllowed_37 ?_
    refine mw_put (ci := 0) (C := RX0) (T := TX0) (N := 11) (ty := .int) hC i_X0_passIfAllowed_X0 tyX0 tyX0_ok nmX0 hM hS hc_t rfl 6 (by decide) l_X0_passIfAllowed_3 rfl rfl (by decide +kernel) rfl rfl (Nat.le_of_ble_eq_true rfl) dX0_passIfAllowed_38 (fun H locs σ1 hM hS hc_t ho6 => ?_)
    replace hc_t : σ1 a_t = some (cl0 a_t_before0 a_t_before1 a_t_grid (w_t.1, (w_t.2.1 + 1), (w_t.2.2.1 + 1), (w_t.2.2.2.1 + 1), w_t.2.2.2.2.1, w_t.2.2.2.2.2.1, w_t.2.2.2.2.2.2.1, w_t.2.2.2.2.2.2.2)) := hc_t
    replace hc_t_before0 := ho6 a_t_before0 _ hc_t_before0 (Ne.symm n_t_t_before0)
    replace hc_t_before1 := ho6 a_t_before1 _ hc_t_before1 (Ne.symm n_t_t_before1)
    have hf7 := fun (q : Nat) (f : va_E) (hf : σ q = some f) (n0 : q ≠ a_t) (n1 : q ≠ a_t_before0) (n2 : q ≠ a_t_before1) => ho6 q f (hf5 q f hf n0 n1 n2) n0
    refine lv_aload_n hx hb dX0_passIfAllowed_41 rfl (lv_at hl 0 rfl) ?_
    obtain ⟨r8, hr8, h⟩ := ob_some h
    refine mw_wv (mw_runV (As := []) (rest := []) (ci := 0) (C := RX0) (T := TX0) (N := 11) hC hM hS hc_t rfl (c_X0_keepPosition (a_t := a_t) (a_t_before0 := a_t_before0) (a_t_before1 := a_t_before1) (a_t_grid := a_t_grid) (w_t := (w_t.1, (w_t.2.1 + 1), (w_t.2.2.1 + 1), (w_t.2.2.2.1 + 1), w_t.2.2.2.2.1, w_t.2.2.2.2.2.1, w_t.2.2.2.2.2.2.1, w_t.2.2.2.2.2.2.2)) (f_t_before0 := f_t_before0) (f_t_before1 := f_t_before1) (hc_t := hc_t) (hc_t_before0 := hc_t_before0) (hc_t_before1 := hc_t_before1) (n_t_t_before0 := n_t_t_before0) (n_t_t_before1 := n_t_t_before1) (n_t_before0_t_before1 := n_t_before0_t_before1) (v := r8) hr8) gX0_passIfAllowed_X0_keepPosition rfl rfl rfl rfl q_X0_keepPosition ⟨Nat.le_of_ble_eq_true rfl, Nat.le_of_ble_eq_true rfl⟩ rfl rfl (Nat.le_of_ble_eq_true rfl) hl.1 dX0_passIfAllowed_42 ⟨Nat.le_of_ble_eq_true rfl, Nat.le_of_ble_eq_true rfl⟩) hS (fun H locs σ1 hp10 hM hS => ?_)
    obtain ⟨hc_t_before0, hc_t_before1, ho9⟩ := hp10
    replace hc_t := ho9 a_t _ hc_t n_t_t_before0 n_t_t_before1
    have hf11 := fun (q : Nat) (f : va_E) (hf : σ q = some f) (n0 : q ≠ a_t) (n1 : q ≠ a_t_before0) (n2 : q ≠ a_t_before1) => ho9 q f (hf7 q f hf n0 n1 n2) n1 n2
    refine lv_iconst (v := 1) hx hb dX0_passIfAllowed_45 (by decide) ?_
    cases h
    exact W.zret (ty := .boolean) (v := b2i true) hx hb hr (b2i_nar _) (fun t ht hW => ⟨⟨_, _, rfl, ⟨rfl, hc_t, hc_t_before0, hc_t_before1, hf11⟩, by show MW z D _ t.heap; rw [ht]; exact hM⟩, hS.F ht⟩) hS.2.2 dX0_passIfAllowed_46 hlocks
  · replace h := it_neg c1 h
    refine lv_iconst (v := 0) hx hb dX0_passIfAllowed_9 (by decide) ?_
    cases h
    exact W.zret (ty := .boolean) (v := b2i false) hx hb hr (b2i_nar _) (fun t ht hW => ⟨⟨_, _, rfl, ⟨rfl, hc_t, hc_t_before0, hc_t_before1, (fun _ _ h9 _ _ _ => h9)⟩, by show MW z D _ t.heap; rw [ht]; exact hM⟩, hS.F ht⟩) hS.2.2 dX0_passIfAllowed_10 hlocks
theorem l_X1_isFull_0 : Cond.fieldLink RX1 15 "CornerStones$GameText" "length" "I" ∈ wsX1_isFull := (List.mem_cons_of_mem _ (List.mem_append_left _ (List.mem_of_getElem? (i := 0) rfl)))
theorem i_X1_isFull_X1 : ∀ w ∈ wsX10, w ∈ wsX1_isFull := fun _ h => (List.mem_cons_of_mem _ (List.mem_append_right _ h))
theorem q_X1_isFull : yX1_isFull.cls ≠ "java/lang/invoke/MethodHandle" ∧ yX1_isFull.cls ≠ "java/lang/invoke/VarHandle" ∧ (parseMethodDescriptor yX1_isFull.desc).map (fun d => d.parameters.length) = some 0 := by decide +kernel
def fX1_isFull (w_t : Int32) : Bool := if w_t < 120 then ((false)) else ((true))
set_option maxHeartbeats 4000000 in
set_option maxRecDepth 100000 in
theorem c_X1_isFull {l : Launch} {z : Nat} {D : va_G} {K : Nat → ClassId} {σ : mwm} {a_t a_t_characters : Nat} {w_t : Int32} (hc_t : σ a_t = some (cl1 a_t_characters w_t)) {v : Bool} (h : fX1_isFull w_t = v) : Met l yX1_isFull wsX1_isFull ({ frames := 0, cells := 0, slots := 0, locals := 0 } : Room) (PCm z D K [.ref a_t] σ) (qsI (b2i v)) 0 0 (fun _ => False) := by
  refine mt_enter (cc := cX1_isFull) (maxL := 1) (ret := (some .boolean)) (own := RX1) (lv := [(0, .ref a_t)]) (by decide) rfl rfl (Nat.le_of_ble_eq_true rfl) rfl ?_
  intro p e s m below meth c ls hC hx hb hown hts hK hr hlocks hnm hz hM hS hl
  unfold fX1_isFull at h
  refine lv_aload_n hx hb dX1_isFull_0 rfl (lv_at hl 0 rfl) ?_
  refine mw_get (ci := 1) (C := RX1) (T := TX1) (N := 2) (v := .int w_t) hC i_X1_isFull_X1 hM hc_t rfl 1 (by decide) l_X1_isFull_0 rfl rfl dX1_isFull_1 ?_
  refine lv_bipush (v := 120) hx hb dX1_isFull_4 (by decide) ?_
  refine lv_icmp_lt (tgt := 13) hx hb dX1_isFull_6 (by decide) (fun c1 => ?_) (fun c1 => ?_)
  · replace h := it_pos c1 h
    refine lv_iconst (v := 0) hx hb dX1_isFull_13 (by decide) ?_
    subst h
    exact W.zret (ty := .boolean) (v := b2i false) hx hb hr (b2i_nar _) (fun t ht hW => ⟨_, rfl, rfl, ht⟩) (fun _ h9 => by cases h9) dX1_isFull_14 hlocks
  · replace h := it_neg c1 h
    refine lv_iconst (v := 1) hx hb dX1_isFull_9 (by decide) ?_
    refine lv_goto (tgt := 14) hx hb dX1_isFull_10 (by decide) ?_
    subst h
    exact W.zret (ty := .boolean) (v := b2i true) hx hb hr (b2i_nar _) (fun t ht hW => ⟨_, rfl, rfl, ht⟩) (fun _ h9 => by cases h9) dX1_isFull_14 hlocks
theorem l_X1_add_0 : Cond.fieldLink RX1 15 "CornerStones$GameText" "length" "I" ∈ wsX1_add := (List.mem_cons_of_mem _ (List.mem_append_left _ (List.mem_of_getElem? (i := 0) rfl)))
theorem i_X1_add_X1 : ∀ w ∈ wsX10, w ∈ wsX1_add := fun _ h => (List.mem_cons_of_mem _ (List.mem_append_right _ h))
theorem l_X1_add_2 : Cond.fieldLink RX1 9 "CornerStones$GameText" "characters" "[C" ∈ wsX1_add := (List.mem_cons_of_mem _ (List.mem_append_left _ (List.mem_of_getElem? (i := 1) rfl)))
theorem q_X1_add : yX1_add.cls ≠ "java/lang/invoke/MethodHandle" ∧ yX1_add.cls ≠ "java/lang/invoke/VarHandle" ∧ (parseMethodDescriptor yX1_add.desc).map (fun d => d.parameters.length) = some 1 := by decide +kernel
def fX1_add (w_t : Int32) (f_t_characters : Nat → Int32) (p0 : Int32) : Option (Int32 × Int32 × (Nat → Int32)) := if w_t < 0 then (some ((w_t, w_t, f_t_characters))) else (if 120 ≤ w_t then (some ((w_t, w_t, f_t_characters))) else (if inB w_t 120 = true then (some (((w_t + 1), (w_t + 1), (upd f_t_characters w_t.toNatClampNeg (vp_nar .char p0))))) else none))
set_option maxHeartbeats 4000000 in
set_option maxRecDepth 100000 in
theorem c_X1_add {l : Launch} {z : Nat} {D : va_G} {K : Nat → ClassId} {σ : mwm} {a_t a_t_characters : Nat} {w_t : Int32} {f_t_characters : Nat → Int32} {p0 : Int32} (hc_t : σ a_t = some (cl1 a_t_characters w_t)) (hc_t_characters : σ a_t_characters = some (eC K 120 f_t_characters)) (n_t_t_characters : a_t ≠ a_t_characters) {v : Int32 × Int32 × (Nat → Int32)} (h : fX1_add w_t f_t_characters p0 = some v) : Met l yX1_add wsX1_add ({ frames := 0, cells := 0, slots := 0, locals := 0 } : Room) (PCm z D K [.ref a_t, .int p0] σ) (qwI z D (fun r σ2 => r = v.1 ∧ σ2 a_t = some (cl1 a_t_characters v.2.1) ∧ σ2 a_t_characters = some (eC K 120 v.2.2) ∧ ∀ (q : Nat) (f : va_E), σ q = some f → q ≠ a_t → q ≠ a_t_characters → σ2 q = some f)) 0 0 (zA z) := by
  refine mt_enter (cc := cX1_add) (maxL := 2) (ret := (some .int)) (own := RX1) (lv := [(0, .ref a_t), (1, .int p0)]) (by decide) rfl rfl (Nat.le_of_ble_eq_true rfl) rfl ?_
  intro p e s m below meth c ls hC hx hb hown hts hK hr hlocks hnm hz hM hS hl
  unfold fX1_add at h
  refine lv_aload_n hx hb dX1_add_0 rfl (lv_at hl 0 rfl) ?_
  refine mw_get (ci := 1) (C := RX1) (T := TX1) (N := 2) (v := .int w_t) hC i_X1_add_X1 hM hc_t rfl 1 (by decide) l_X1_add_0 rfl rfl dX1_add_1 ?_
  refine lv_if_lt (tgt := 39) hx hb dX1_add_4 (by decide) (fun c1 => ?_) (fun c1 => ?_)
  · replace h := it_pos c1 h
    refine lv_aload_n hx hb dX1_add_39 rfl (lv_at hl 0 rfl) ?_
    refine mw_get (ci := 1) (C := RX1) (T := TX1) (N := 2) (v := .int w_t) hC i_X1_add_X1 hM hc_t rfl 1 (by decide) l_X1_add_0 rfl rfl dX1_add_40 ?_
    cases h
    exact W.iret hx hb hr (fun t ht hW => ⟨⟨_, _, rfl, ⟨rfl, hc_t, hc_t_characters, (fun _ _ h9 _ _ => h9)⟩, by show MW z D _ t.heap; rw [ht]; exact hM⟩, hS.F ht⟩) hS.2.2 dX1_add_43 hlocks
  · replace h := it_neg c1 h
    refine lv_aload_n hx hb dX1_add_7 rfl (lv_at hl 0 rfl) ?_
    refine mw_get (ci := 1) (C := RX1) (T := TX1) (N := 2) (v := .int w_t) hC i_X1_add_X1 hM hc_t rfl 1 (by decide) l_X1_add_0 rfl rfl dX1_add_8 ?_
    refine lv_aload_n hx hb dX1_add_11 rfl (lv_at hl 0 rfl) ?_
    refine mw_get (ci := 1) (C := RX1) (T := TX1) (N := 2) (v := .ref a_t_characters) hC i_X1_add_X1 hM hc_t rfl 0 (by decide) l_X1_add_2 rfl rfl dX1_add_12 ?_
    refine mw_len (v := 120) hC hM hc_t_characters 2 rfl rfl dX1_add_15 ?_
    refine lv_icmp_ge (tgt := 39) hx hb dX1_add_16 (by decide) (fun c2 => ?_) (fun c2 => ?_)
    · replace h := it_pos c2 h
      refine lv_aload_n hx hb dX1_add_39 rfl (lv_at hl 0 rfl) ?_
      refine mw_get (ci := 1) (C := RX1) (T := TX1) (N := 2) (v := .int w_t) hC i_X1_add_X1 hM hc_t rfl 1 (by decide) l_X1_add_0 rfl rfl dX1_add_40 ?_
      cases h
      exact W.iret hx hb hr (fun t ht hW => ⟨⟨_, _, rfl, ⟨rfl, hc_t, hc_t_characters, (fun _ _ h9 _ _ => h9)⟩, by show MW z D _ t.heap; rw [ht]; exact hM⟩, hS.F ht⟩) hS.2.2 dX1_add_43 hlocks
    · replace h := it_neg c2 h
      refine lv_aload_n hx hb dX1_add_19 rfl (lv_at hl 0 rfl) ?_
      refine mw_get (ci := 1) (C := RX1) (T := TX1) (N := 2) (v := .ref a_t_characters) hC i_X1_add_X1 hM hc_t rfl 0 (by decide) l_X1_add_2 rfl rfl dX1_add_20 ?_
      refine lv_aload_n hx hb dX1_add_23 rfl (lv_at hl 0 rfl) ?_
      refine mw_get (ci := 1) (C := RX1) (T := TX1) (N := 2) (v := .int w_t) hC i_X1_add_X1 hM hc_t rfl 1 (by decide) l_X1_add_0 rfl rfl dX1_add_24 ?_
      refine lv_iload_n hx hb dX1_add_27 rfl (lv_at hl 1 rfl) ?_
      obtain ⟨c3, h⟩ := gd_some h
      refine mw_stC hC hM hS hc_t_characters (inB_ok c3) dX1_add_28 (fun H locs σ1 hM hS hc_t_characters ho4 => ?_)
      replace hc_t_characters : σ1 a_t_characters = some (eC K 120 (upd f_t_characters w_t.toNatClampNeg (vp_nar .char p0))) := hc_t_characters
      replace hc_t := ho4 a_t _ hc_t n_t_t_characters
      have hf5 := fun (q : Nat) (f : va_E) (hf : σ q = some f) (n0 : q ≠ a_t) (n1 : q ≠ a_t_characters) => ho4 q f hf n1
      refine lv_aload_n hx hb dX1_add_29 rfl (lv_at hl 0 rfl) ?_
      refine lv_dup hx hb dX1_add_30 rfl ?_
      refine mw_get (ci := 1) (C := RX1) (T := TX1) (N := 2) (v := .int w_t) hC i_X1_add_X1 hM hc_t rfl 1 (by decide) l_X1_add_0 rfl rfl dX1_add_31 ?_
      refine lv_iconst (v := 1) hx hb dX1_add_34 (by decide) ?_
      refine lv_iadd hx hb dX1_add_35 ?_
      refine mw_put (ci := 1) (C := RX1) (T := TX1) (N := 2) (ty := .int) hC i_X1_add_X1 tyX1 tyX1_ok nmX1 hM hS hc_t rfl 1 (by decide) l_X1_add_0 rfl rfl (by decide +kernel) rfl rfl (Nat.le_of_ble_eq_true rfl) dX1_add_36 (fun H locs σ1 hM hS hc_t ho6 => ?_)
      replace hc_t : σ1 a_t = some (cl1 a_t_characters (w_t + 1)) := hc_t
      replace hc_t_characters := ho6 a_t_characters _ hc_t_characters (Ne.symm n_t_t_characters)
      have hf7 := fun (q : Nat) (f : va_E) (hf : σ q = some f) (n0 : q ≠ a_t) (n1 : q ≠ a_t_characters) => ho6 q f (hf5 q f hf n0 n1) n0
      refine lv_aload_n hx hb dX1_add_39 rfl (lv_at hl 0 rfl) ?_
      refine mw_get (ci := 1) (C := RX1) (T := TX1) (N := 2) (v := .int (w_t + 1)) hC i_X1_add_X1 hM hc_t rfl 1 (by decide) l_X1_add_0 rfl rfl dX1_add_40 ?_
      cases h
      exact W.iret hx hb hr (fun t ht hW => ⟨⟨_, _, rfl, ⟨rfl, hc_t, hc_t_characters, hf7⟩, by show MW z D _ t.heap; rw [ht]; exact hM⟩, hS.F ht⟩) hS.2.2 dX1_add_43 hlocks
