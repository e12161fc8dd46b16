theorem q_X3_holdsOwner : yX3_holdsOwner.cls ≠ "java/lang/invoke/MethodHandle" ∧ yX3_holdsOwner.cls ≠ "java/lang/invoke/VarHandle" ∧ (parseMethodDescriptor yX3_holdsOwner.desc).map (fun d => d.parameters.length) = some 5 := by decide +kernel
theorem l_X3_firstStone_0 : Cond.constantLong RX3 22 (-1) ∈ wsX3_firstStone := (List.mem_cons_of_mem _ (List.mem_append_left _ (List.mem_append_left _ (List.mem_of_getElem? (i := 0) rfl))))
theorem q_X3_firstStone : yX3_firstStone.cls ≠ "java/lang/invoke/MethodHandle" ∧ yX3_firstStone.cls ≠ "java/lang/invoke/VarHandle" ∧ (parseMethodDescriptor yX3_firstStone.desc).map (fun d => d.parameters.length) = some 5 := by decide +kernel
def fX3_firstStone_33 (HO : (Int32 × Int32 × Int64 × Int64 × Int64) → Int64 → Int64 → Int64 → Int32 → Option Bool) (w_p0 : Int32 × Int32 × Int64 × Int64 × Int64) (p1 : Int64) (p2 : Int64) (p3 : Int64) (p4 : Int32) : Nat → Int64 → Int32 → Int32 → Option (Int64)
  | 0, _, _, _ => none
  | fu + 1, x8, x10, x11 => if x10 ≤ x11 then (some ((0 : Int64))) else ((fX2_taken w_p0 p1 p2 (x8 &&& (-x8))).bind fun r5 => (fX2_liberties w_p0 (p1 ||| (x8 &&& (-x8))) (p2 &&& (r5 ^^^ (-1))) (x8 &&& (-x8))).bind fun r6 => if r6 = 0 then (if (0 : Int32) = 0 then (fX3_firstStone_33 HO w_p0 p1 p2 p3 p4 fu (x8 ^^^ (x8 &&& (-x8))) x10 (x11 + 1)) else (if x10 = 1 then (some ((x8 &&& (-x8)))) else ((HO w_p0 (p1 ||| (x8 &&& (-x8))) (p2 &&& (r5 ^^^ (-1))) p3 (p4 - 1)).bind fun r10 => if r10 = true then (some ((x8 &&& (-x8)))) else (fX3_firstStone_33 HO w_p0 p1 p2 p3 p4 fu (x8 ^^^ (x8 &&& (-x8))) x10 (x11 + 1))))) else (if (1 : Int32) = 0 then (fX3_firstStone_33 HO w_p0 p1 p2 p3 p4 fu (x8 ^^^ (x8 &&& (-x8))) x10 (x11 + 1)) else (if x10 = 1 then (some ((x8 &&& (-x8)))) else ((HO w_p0 (p1 ||| (x8 &&& (-x8))) (p2 &&& (r5 ^^^ (-1))) p3 (p4 - 1)).bind fun r14 => if r14 = true then (some ((x8 &&& (-x8)))) else (fX3_firstStone_33 HO w_p0 p1 p2 p3 p4 fu (x8 ^^^ (x8 &&& (-x8))) x10 (x11 + 1))))))
def fX3_firstStone (HO : (Int32 × Int32 × Int64 × Int64 × Int64) → Int64 → Int64 → Int64 → Int32 → Option Bool) (w_p0 : Int32 × Int32 × Int64 × Int64 × Int64) (p1 : Int64) (p2 : Int64) (p3 : Int64) (p4 : Int32) : Option (Int64) := (fX2_liberties w_p0 p2 p1 p3).bind fun r1 => if p4 ≤ 0 then (some ((0 : Int64))) else (if (fJ13_bitCount_95d88 r1) ≤ 2 then (fX3_firstStone_33 HO w_p0 p1 p2 p3 p4 5000 r1 (fJ13_bitCount_95d88 r1) 0 ) else (some ((0 : Int64))))
set_option maxHeartbeats 4000000 in
set_option maxRecDepth 100000 in
theorem c_X3_firstStone {l : Launch} {z : Nat} {D : va_G} {K : Nat → ClassId} {σ : mwm} {a_p0 : Nat} {HO : (Int32 × Int32 × Int64 × Int64 × Int64) → Int64 → Int64 → Int64 → Int32 → Option Bool} {w_p0 : Int32 × Int32 × Int64 × Int64 × Int64} {p1 : Int64} {p2 : Int64} {p3 : Int64} {p4 : Int32} (hc_p0 : σ a_p0 = some (cl2  w_p0)) {fn : Nat} (hO : ∀ (w_p0 : Int32 × Int32 × Int64 × Int64 × Int64) (p1 p2 p3 : Int64) (p4 : Int32) (v : Bool), HO w_p0 p1 p2 p3 p4 = some v → ∀ (σ : mwm) (a_p0 : Nat), σ a_p0 = some (cl2 w_p0) → Met l yX3_holdsOwner wsX3_holdsOwner ({ frames := fn + 10, cells := 0, slots := 0, locals := 36 * fn + 840 } : Room) (PCm z D K [.ref a_p0, .long p1, .long p2, .long p3, .int p4] σ) (qsI (b2i v)) 0 0 (fun _ => False)) {v : Int64} (h : fX3_firstStone HO w_p0 p1 p2 p3 p4 = some v) : Met l yX3_firstStone wsX3_firstStone ({ frames := (fn + 1) + 10, cells := 0, slots := 0, locals := 36 * (fn + 1) + 840 } : Room) (PCm z D K [.ref a_p0, .long p1, .long p2, .long p3, .int p4] σ) (qsL v) 0 0 (fun _ => False) := by
  refine mt_enter (cc := cX3_firstStone) (maxL := 17) (ret := (some .long)) (own := RX3) (lv := [(0, .ref a_p0), (1, .long p1), (3, .long p2), (5, .long p3), (7, .int p4)]) (by decide) rfl rfl (Nat.le_of_ble_eq_true rfl) rfl ?_
  intro p e s m below meth c ls hC hx hb hown hts hK hr hlocks hnm hz hM hS hl
  unfold fX3_firstStone at h
  refine lv_aload_n hx hb dX3_firstStone_0 rfl (lv_at hl 0 rfl) ?_
  refine lv_lload_n hx hb dX3_firstStone_1 rfl (lv_at hl 2 rfl) ?_
  refine lv_lload_n hx hb dX3_firstStone_2 rfl (lv_at hl 1 rfl) ?_
  refine lv_lload hx hb dX3_firstStone_3 (lv_at hl 3 rfl) ?_
  obtain ⟨r1, hr1, h⟩ := ob_some h
  refine mw_cl (mw_runV (As := [.long p2, .long p1, .long p3]) (rest := []) (ci := 2) (C := RX2) (T := TX2) (N := 5) hC hM hS hc_p0 rfl (c_X2_liberties (a_t := a_p0) (w_t := w_p0) (p0 := p2) (p1 := p1) (p2 := p3) (hc_t := hc_p0) (v := r1) hr1) gX3_firstStone_X2_liberties rfl rfl rfl rfl q_X2_liberties ⟨(by dsimp only; omega), (by dsimp only; omega)⟩ rfl rfl (Nat.le_of_ble_eq_true rfl) hl.1 dX3_firstStone_5 ⟨(by dsimp only; omega), (by dsimp only; omega)⟩) ?_
  refine lv_lstore (lv' := [(8, .long r1), (0, .ref a_p0), (1, .long p1), (3, .long p2), (5, .long p3), (7, .int p4)]) hx hb dX3_firstStone_8 hl (by decide) rfl (fun ls hl => ?_)
  refine lv_lload hx hb dX3_firstStone_10 (lv_at hl 0 rfl) ?_
  refine mw_ci (mw_runS (As := [.long r1]) (rest := []) hC hM hS (c_J13_bitCount_95d88 (p0 := r1) (v := (fJ13_bitCount_95d88 r1)) rfl) gX3_firstStone_J13_bitCount_95d88 rfl rfl rfl q_J13_bitCount_95d88 ⟨(by dsimp only; omega), (by dsimp only; omega)⟩ rfl rfl (Nat.le_of_ble_eq_true rfl) hl.1 dX3_firstStone_12 ⟨(by dsimp only; omega), (by dsimp only; omega)⟩) ?_
  refine lv_istore (lv' := [(10, .int (fJ13_bitCount_95d88 r1)), (8, .long r1), (0, .ref a_p0), (1, .long p1), (3, .long p2), (5, .long p3), (7, .int p4)]) hx hb dX3_firstStone_15 hl (by decide) rfl (fun ls hl => ?_)
  refine lv_iload hx hb dX3_firstStone_17 (lv_at hl 6 rfl) ?_
  refine lv_if_le (tgt := 28) hx hb dX3_firstStone_19 (by decide) (fun c2 => ?_) (fun c2 => ?_)
  · replace h := it_pos c2 h
    refine lv_lconst (v := 0) hx hb dX3_firstStone_28 (by decide) ?_
    cases h
    exact W.lret hx hb hr (fun t ht hW => ⟨_, rfl, rfl, ht⟩) (fun _ h9 => by cases h9) dX3_firstStone_29 hlocks
  · replace h := it_neg c2 h
    refine lv_iload hx hb dX3_firstStone_22 (lv_at hl 0 rfl) ?_
    refine lv_iconst (v := 2) hx hb dX3_firstStone_24 (by decide) ?_
    refine lv_icmp_le (tgt := 30) hx hb dX3_firstStone_25 (by decide) (fun c3 => ?_) (fun c3 => ?_)
    · replace h := it_pos c3 h
      refine lv_iconst (v := 0) hx hb dX3_firstStone_30 (by decide) ?_
      refine lv_istore (lv' := [(11, .int 0), (10, .int (fJ13_bitCount_95d88 r1)), (8, .long r1), (0, .ref a_p0), (1, .long p1), (3, .long p2), (5, .long p3), (7, .int p4)]) hx hb dX3_firstStone_31 hl (by decide) rfl (fun ls hl => ?_)
      have L33 : ∀ (fu0 : Nat) (x8 : Int64) (x10 : Int32) (x11 : Int32), fX3_firstStone_33 HO w_p0 p1 p2 p3 p4 fu0 x8 x10 x11 = some v → ∀ ls : Array Slot, lv_has ls 17 [(11, .int x11), (10, .int x10), (8, .long x8), (0, .ref a_p0), (1, .long p1), (3, .long p2), (5, .long p3), (7, .int p4)] → W p l e ({ frames := (fn + 1) + 10, cells := 0, slots := 0, locals := 36 * (fn + 1) + 840 } : Room) s m ([.ref a_p0, .long p1, .long p2, .long p3, .int p4] : List Value).toArray below meth c s.heap [] 0 0 (MQ below (qsL v) ([.ref a_p0, .long p1, .long p2, .long p3, .int p4] : List Value).toArray s 0 0 (fun _ => False)) (F0 m 33 ls []) := by
        intro fu0
        induction fu0 with
        | zero =>
          intro x8 x10 x11 h
          unfold fX3_firstStone_33 at h
          cases h
        | succ fu0 ih0 =>
          intro x8 x10 x11 h ls hl
          unfold fX3_firstStone_33 at h
          refine lv_iload hx hb dX3_firstStone_33 (lv_at hl 0 rfl) ?_
          refine lv_iload hx hb dX3_firstStone_35 (lv_at hl 1 rfl) ?_
          refine lv_icmp_ge (tgt := 134) hx hb dX3_firstStone_37 (by decide) (fun c4 => ?_) (fun c4 => ?_)
          · replace h := it_pos c4 h
            refine lv_lconst (v := 0) hx hb dX3_firstStone_134 (by decide) ?_
            cases h
            exact W.lret hx hb hr (fun t ht hW => ⟨_, rfl, rfl, ht⟩) (fun _ h9 => by cases h9) dX3_firstStone_135 hlocks
          · replace h := it_neg c4 h
            refine lv_lload hx hb dX3_firstStone_40 (lv_at hl 2 rfl) ?_
            refine lv_lload hx hb dX3_firstStone_42 (lv_at hl 2 rfl) ?_
            refine lv_lneg hx hb dX3_firstStone_44 ?_
            refine lv_land hx hb dX3_firstStone_45 ?_
            refine lv_lstore (lv' := [(12, .long (x8 &&& (-x8))), (11, .int x11), (10, .int x10), (8, .long x8), (0, .ref a_p0), (1, .long p1), (3, .long p2), (5, .long p3), (7, .int p4)]) hx hb dX3_firstStone_46 hl (by decide) rfl (fun ls hl => ?_)
            refine lv_lload_n hx hb dX3_firstStone_48 rfl (lv_at hl 6 rfl) ?_
            refine lv_aload_n hx hb dX3_firstStone_49 rfl (lv_at hl 4 rfl) ?_
            refine lv_lload_n hx hb dX3_firstStone_50 rfl (lv_at hl 5 rfl) ?_
            refine lv_lload_n hx hb dX3_firstStone_51 rfl (lv_at hl 6 rfl) ?_
            refine lv_lload hx hb dX3_firstStone_52 (lv_at hl 0 rfl) ?_
            obtain ⟨r5, hr5, h⟩ := ob_some h
            refine mw_cl (mw_runV (As := [.long p1, .long p2, .long (x8 &&& (-x8))]) (rest := [.long p2]) (ci := 2) (C := RX2) (T := TX2) (N := 5) hC hM hS hc_p0 rfl (c_X2_taken (a_t := a_p0) (w_t := w_p0) (p0 := p1) (p1 := p2) (p2 := (x8 &&& (-x8))) (hc_t := hc_p0) (v := r5) hr5) gX3_firstStone_X2_taken rfl rfl rfl rfl q_X2_taken ⟨(by dsimp only; omega), (by dsimp only; omega)⟩ rfl rfl (Nat.le_of_ble_eq_true rfl) hl.1 dX3_firstStone_54 ⟨(by dsimp only; omega), (by dsimp only; omega)⟩) ?_
            refine lv_ldc2 (v := -1) hx hb hown (hts _ l_X3_firstStone_0) dX3_firstStone_57 ?_
            refine lv_lxor hx hb dX3_firstStone_60 ?_
            refine lv_land hx hb dX3_firstStone_61 ?_
            refine lv_lstore (lv' := [(14, .long (p2 &&& (r5 ^^^ (-1)))), (12, .long (x8 &&& (-x8))), (11, .int x11), (10, .int x10), (8, .long x8), (0, .ref a_p0), (1, .long p1), (3, .long p2), (5, .long p3), (7, .int p4)]) hx hb dX3_firstStone_62 hl (by decide) rfl (fun ls hl => ?_)
            refine lv_aload_n hx hb dX3_firstStone_64 rfl (lv_at hl 5 rfl) ?_
            refine lv_lload_n hx hb dX3_firstStone_65 rfl (lv_at hl 6 rfl) ?_
            refine lv_lload hx hb dX3_firstStone_66 (lv_at hl 1 rfl) ?_
            refine lv_lor hx hb dX3_firstStone_68 ?_
            refine lv_lload hx hb dX3_firstStone_69 (lv_at hl 0 rfl) ?_
            refine lv_lload hx hb dX3_firstStone_71 (lv_at hl 1 rfl) ?_
            obtain ⟨r6, hr6, h⟩ := ob_some h
            refine mw_cl (mw_runV (As := [.long (p1 ||| (x8 &&& (-x8))), .long (p2 &&& (r5 ^^^ (-1))), .long (x8 &&& (-x8))]) (rest := []) (ci := 2) (C := RX2) (T := TX2) (N := 5) hC hM hS hc_p0 rfl (c_X2_liberties (a_t := a_p0) (w_t := w_p0) (p0 := (p1 ||| (x8 &&& (-x8)))) (p1 := (p2 &&& (r5 ^^^ (-1)))) (p2 := (x8 &&& (-x8))) (hc_t := hc_p0) (v := r6) hr6) gX3_firstStone_X2_liberties rfl rfl rfl rfl q_X2_liberties ⟨(by dsimp only; omega), (by dsimp only; omega)⟩ rfl rfl (Nat.le_of_ble_eq_true rfl) hl.1 dX3_firstStone_73 ⟨(by dsimp only; omega), (by dsimp only; omega)⟩) ?_
            refine lv_lconst (v := 0) hx hb dX3_firstStone_76 (by decide) ?_
            refine W.lcmp hx hb dX3_firstStone_77 ?_
            refine lv_if_eq (tgt := 85) hx hb dX3_firstStone_78 (by decide) (fun c7 => ?_) (fun c7 => ?_)
            · replace c7 := (lg_cmp_eq _ _).mp c7
              replace h := it_pos c7 h
              refine lv_iconst (v := 0) hx hb dX3_firstStone_85 (by decide) ?_
              refine lv_istore (lv' := [(16, .int 0), (14, .long (p2 &&& (r5 ^^^ (-1)))), (12, .long (x8 &&& (-x8))), (11, .int x11), (10, .int x10), (8, .long x8), (0, .ref a_p0), (1, .long p1), (3, .long p2), (5, .long p3), (7, .int p4)]) hx hb dX3_firstStone_86 hl (by decide) rfl (fun ls hl => ?_)
              refine lv_iload hx hb dX3_firstStone_88 (lv_at hl 0 rfl) ?_
              refine lv_if_eq (tgt := 121) hx hb dX3_firstStone_90 (by decide) (fun c8 => ?_) (fun c8 => ?_)
              · replace h := it_pos c8 h
                refine lv_lload hx hb dX3_firstStone_121 (lv_at hl 5 rfl) ?_
                refine lv_lload hx hb dX3_firstStone_123 (lv_at hl 2 rfl) ?_
                refine lv_lxor hx hb dX3_firstStone_125 ?_
                refine lv_lstore (lv' := [(8, .long (x8 ^^^ (x8 &&& (-x8)))), (16, .int 0), (14, .long (p2 &&& (r5 ^^^ (-1)))), (12, .long (x8 &&& (-x8))), (11, .int x11), (10, .int x10), (0, .ref a_p0), (1, .long p1), (3, .long p2), (5, .long p3), (7, .int p4)]) hx hb dX3_firstStone_126 hl (by decide) rfl (fun ls hl => ?_)
                refine lv_iinc (v := (x11 + 1)) (lv' := [(11, .int (x11 + 1)), (8, .long (x8 ^^^ (x8 &&& (-x8)))), (16, .int 0), (14, .long (p2 &&& (r5 ^^^ (-1)))), (12, .long (x8 &&& (-x8))), (10, .int x10), (0, .ref a_p0), (1, .long p1), (3, .long p2), (5, .long p3), (7, .int p4)]) hx hb dX3_firstStone_128 hl (k := 4) rfl rfl (by decide) rfl (fun ls hl => ?_)
                refine lv_goto (tgt := 33) hx hb dX3_firstStone_131 (by decide) ?_
                exact ih0 (x8 ^^^ (x8 &&& (-x8))) x10 (x11 + 1) h ls (lv_sub hl [0, 5, 1, 6, 7, 8, 9, 10] rfl)
              · replace h := it_neg c8 h
                refine lv_iload hx hb dX3_firstStone_93 (lv_at hl 4 rfl) ?_
                refine lv_iconst (v := 1) hx hb dX3_firstStone_95 (by decide) ?_
                refine lv_icmp_eq (tgt := 118) hx hb dX3_firstStone_96 (by decide) (fun c9 => ?_) (fun c9 => ?_)
                · replace h := it_pos c9 h
                  refine lv_lload hx hb dX3_firstStone_118 (lv_at hl 2 rfl) ?_
                  cases h
                  exact W.lret hx hb hr (fun t ht hW => ⟨_, rfl, rfl, ht⟩) (fun _ h9 => by cases h9) dX3_firstStone_120 hlocks
                · replace h := it_neg c9 h
                  refine lv_aload_n hx hb dX3_firstStone_99 rfl (lv_at hl 6 rfl) ?_
                  refine lv_lload_n hx hb dX3_firstStone_100 rfl (lv_at hl 7 rfl) ?_
                  refine lv_lload hx hb dX3_firstStone_101 (lv_at hl 2 rfl) ?_
                  refine lv_lor hx hb dX3_firstStone_103 ?_
                  refine lv_lload hx hb dX3_firstStone_104 (lv_at hl 1 rfl) ?_
                  refine lv_lload hx hb dX3_firstStone_106 (lv_at hl 9 rfl) ?_
                  refine lv_iload hx hb dX3_firstStone_108 (lv_at hl 10 rfl) ?_
                  refine lv_iconst (v := 1) hx hb dX3_firstStone_110 (by decide) ?_
                  refine lv_isub hx hb dX3_firstStone_111 ?_
                  obtain ⟨r10, hr10, h⟩ := ob_some h
                  refine mw_ci (mw_runS (As := [.ref a_p0, .long (p1 ||| (x8 &&& (-x8))), .long (p2 &&& (r5 ^^^ (-1))), .long p3, .int (p4 - 1)]) (rest := []) hC hM hS (hO _ _ _ _ _ _ hr10 _ _ hc_p0) gX3_firstStone_X3_holdsOwner rfl rfl rfl q_X3_holdsOwner ⟨(by dsimp only; omega), (by dsimp only; omega)⟩ rfl rfl (Nat.le_of_ble_eq_true rfl) hl.1 dX3_firstStone_112 ⟨(by dsimp only; omega), (by dsimp only; omega)⟩) ?_
                  refine lv_if_eq (tgt := 121) hx hb dX3_firstStone_115 (by decide) (fun c11 => ?_) (fun c11 => ?_)
                  · replace c11 := b2i_eq0.mp c11
                    replace h := it_neg c11 h
                    refine lv_lload hx hb dX3_firstStone_121 (lv_at hl 5 rfl) ?_
                    refine lv_lload hx hb dX3_firstStone_123 (lv_at hl 2 rfl) ?_
                    refine lv_lxor hx hb dX3_firstStone_125 ?_
                    refine lv_lstore (lv' := [(8, .long (x8 ^^^ (x8 &&& (-x8)))), (16, .int 0), (14, .long (p2 &&& (r5 ^^^ (-1)))), (12, .long (x8 &&& (-x8))), (11, .int x11), (10, .int x10), (0, .ref a_p0), (1, .long p1), (3, .long p2), (5, .long p3), (7, .int p4)]) hx hb dX3_firstStone_126 hl (by decide) rfl (fun ls hl => ?_)
                    refine lv_iinc (v := (x11 + 1)) (lv' := [(11, .int (x11 + 1)), (8, .long (x8 ^^^ (x8 &&& (-x8)))), (16, .int 0), (14, .long (p2 &&& (r5 ^^^ (-1)))), (12, .long (x8 &&& (-x8))), (10, .int x10), (0, .ref a_p0), (1, .long p1), (3, .long p2), (5, .long p3), (7, .int p4)]) hx hb dX3_firstStone_128 hl (k := 4) rfl rfl (by decide) rfl (fun ls hl => ?_)
                    refine lv_goto (tgt := 33) hx hb dX3_firstStone_131 (by decide) ?_
                    exact ih0 (x8 ^^^ (x8 &&& (-x8))) x10 (x11 + 1) h ls (lv_sub hl [0, 5, 1, 6, 7, 8, 9, 10] rfl)
                  · replace c11 := b2i_ne0.mp c11
                    replace h := it_pos c11 h
                    refine lv_lload hx hb dX3_firstStone_118 (lv_at hl 2 rfl) ?_
                    cases h
                    exact W.lret hx hb hr (fun t ht hW => ⟨_, rfl, rfl, ht⟩) (fun _ h9 => by cases h9) dX3_firstStone_120 hlocks
            · replace c7 := mt (lg_cmp_eq _ _).mpr c7
              replace h := it_neg c7 h
              refine lv_iconst (v := 1) hx hb dX3_firstStone_81 (by decide) ?_
              refine lv_goto (tgt := 86) hx hb dX3_firstStone_82 (by decide) ?_
              refine lv_istore (lv' := [(16, .int 1), (14, .long (p2 &&& (r5 ^^^ (-1)))), (12, .long (x8 &&& (-x8))), (11, .int x11), (10, .int x10), (8, .long x8), (0, .ref a_p0), (1, .long p1), (3, .long p2), (5, .long p3), (7, .int p4)]) hx hb dX3_firstStone_86 hl (by decide) rfl (fun ls hl => ?_)
              refine lv_iload hx hb dX3_firstStone_88 (lv_at hl 0 rfl) ?_
              refine lv_if_eq (tgt := 121) hx hb dX3_firstStone_90 (by decide) (fun c12 => ?_) (fun c12 => ?_)
              · replace h := it_pos c12 h
                refine lv_lload hx hb dX3_firstStone_121 (lv_at hl 5 rfl) ?_
                refine lv_lload hx hb dX3_firstStone_123 (lv_at hl 2 rfl) ?_
                refine lv_lxor hx hb dX3_firstStone_125 ?_
                refine lv_lstore (lv' := [(8, .long (x8 ^^^ (x8 &&& (-x8)))), (16, .int 1), (14, .long (p2 &&& (r5 ^^^ (-1)))), (12, .long (x8 &&& (-x8))), (11, .int x11), (10, .int x10), (0, .ref a_p0), (1, .long p1), (3, .long p2), (5, .long p3), (7, .int p4)]) hx hb dX3_firstStone_126 hl (by decide) rfl (fun ls hl => ?_)
                refine lv_iinc (v := (x11 + 1)) (lv' := [(11, .int (x11 + 1)), (8, .long (x8 ^^^ (x8 &&& (-x8)))), (16, .int 1), (14, .long (p2 &&& (r5 ^^^ (-1)))), (12, .long (x8 &&& (-x8))), (10, .int x10), (0, .ref a_p0), (1, .long p1), (3, .long p2), (5, .long p3), (7, .int p4)]) hx hb dX3_firstStone_128 hl (k := 4) rfl rfl (by decide) rfl (fun ls hl => ?_)
                refine lv_goto (tgt := 33) hx hb dX3_firstStone_131 (by decide) ?_
                exact ih0 (x8 ^^^ (x8 &&& (-x8))) x10 (x11 + 1) h ls (lv_sub hl [0, 5, 1, 6, 7, 8, 9, 10] rfl)
              · replace h := it_neg c12 h
                refine lv_iload hx hb dX3_firstStone_93 (lv_at hl 4 rfl) ?_
                refine lv_iconst (v := 1) hx hb dX3_firstStone_95 (by decide) ?_
                refine lv_icmp_eq (tgt := 118) hx hb dX3_firstStone_96 (by decide) (fun c13 => ?_) (fun c13 => ?_)
                · replace h := it_pos c13 h
                  refine lv_lload hx hb dX3_firstStone_118 (lv_at hl 2 rfl) ?_
                  cases h
                  exact W.lret hx hb hr (fun t ht hW => ⟨_, rfl, rfl, ht⟩) (fun _ h9 => by cases h9) dX3_firstStone_120 hlocks
                · replace h := it_neg c13 h
                  refine lv_aload_n hx hb dX3_firstStone_99 rfl (lv_at hl 6 rfl) ?_
                  refine lv_lload_n hx hb dX3_firstStone_100 rfl (lv_at hl 7 rfl) ?_
                  refine lv_lload hx hb dX3_firstStone_101 (lv_at hl 2 rfl) ?_
                  refine lv_lor hx hb dX3_firstStone_103 ?_
                  refine lv_lload hx hb dX3_firstStone_104 (lv_at hl 1 rfl) ?_
                  refine lv_lload hx hb dX3_firstStone_106 (lv_at hl 9 rfl) ?_
                  refine lv_iload hx hb dX3_firstStone_108 (lv_at hl 10 rfl) ?_
                  refine lv_iconst (v := 1) hx hb dX3_firstStone_110 (by decide) ?_
                  refine lv_isub hx hb dX3_firstStone_111 ?_
                  obtain ⟨r14, hr14, h⟩ := ob_some h
                  refine mw_ci (mw_runS (As := [.ref a_p0, .long (p1 ||| (x8 &&& (-x8))), .long (p2 &&& (r5 ^^^ (-1))), .long p3, .int (p4 - 1)]) (rest := []) hC hM hS (hO _ _ _ _ _ _ hr14 _ _ hc_p0) gX3_firstStone_X3_holdsOwner rfl rfl rfl q_X3_holdsOwner ⟨(by dsimp only; omega), (by dsimp only; omega)⟩ rfl rfl (Nat.le_of_ble_eq_true rfl) hl.1 dX3_firstStone_112 ⟨(by dsimp only; omega), (by dsimp only; omega)⟩) ?_
                  refine lv_if_eq (tgt := 121) hx hb dX3_firstStone_115 (by decide) (fun c15 => ?_) (fun c15 => ?_)
                  · replace c15 := b2i_eq0.mp c15
                    replace h := it_neg c15 h
                    refine lv_lload hx hb dX3_firstStone_121 (lv_at hl 5 rfl) ?_
                    refine lv_lload hx hb dX3_firstStone_123 (lv_at hl 2 rfl) ?_
                    refine lv_lxor hx hb dX3_firstStone_125 ?_
                    refine lv_lstore (lv' := [(8, .long (x8 ^^^ (x8 &&& (-x8)))), (16, .int 1), (14, .long (p2 &&& (r5 ^^^ (-1)))), (12, .long (x8 &&& (-x8))), (11, .int x11), (10, .int x10), (0, .ref a_p0), (1, .long p1), (3, .long p2), (5, .long p3), (7, .int p4)]) hx hb dX3_firstStone_126 hl (by decide) rfl (fun ls hl => ?_)
                    refine lv_iinc (v := (x11 + 1)) (lv' := [(11, .int (x11 + 1)), (8, .long (x8 ^^^ (x8 &&& (-x8)))), (16, .int 1), (14, .long (p2 &&& (r5 ^^^ (-1)))), (12, .long (x8 &&& (-x8))), (10, .int x10), (0, .ref a_p0), (1, .long p1), (3, .long p2), (5, .long p3), (7, .int p4)]) hx hb dX3_firstStone_128 hl (k := 4) rfl rfl (by decide) rfl (fun ls hl => ?_)
                    refine lv_goto (tgt := 33) hx hb dX3_firstStone_131 (by decide) ?_
                    exact ih0 (x8 ^^^ (x8 &&& (-x8))) x10 (x11 + 1) h ls (lv_sub hl [0, 5, 1, 6, 7, 8, 9, 10] rfl)
                  · replace c15 := b2i_ne0.mp c15
                    replace h := it_pos c15 h
                    refine lv_lload hx hb dX3_firstStone_118 (lv_at hl 2 rfl) ?_
                    cases h
                    exact W.lret hx hb hr (fun t ht hW => ⟨_, rfl, rfl, ht⟩) (fun _ h9 => by cases h9) dX3_firstStone_120 hlocks
      exact L33 5000 r1 (fJ13_bitCount_95d88 r1) 0  h ls (lv_sub hl [0, 1, 2, 3, 4, 5, 6, 7] rfl)
    · replace h := it_neg c3 h
      refine lv_lconst (v := 0) hx hb dX3_firstStone_28 (by decide) ?_
      cases h
      exact W.lret hx hb hr (fun t ht hW => ⟨_, rfl, rfl, ht⟩) (fun _ h9 => by cases h9) dX3_firstStone_29 hlocks
theorem l_X3_holdsOwner_0 : Cond.constantLong RX3 22 (-1) ∈ wsX3_holdsOwner := (List.mem_cons_of_mem _ (List.mem_append_left _ (List.mem_append_left _ (List.mem_of_getElem? (i := 0) rfl))))
def fX3_holdsOwner (FS : (Int32 × Int32 × Int64 × Int64 × Int64) → Int64 → Int64 → Int64 → Int32 → Option Int64) (w_p0 : Int32 × Int32 × Int64 × Int64 × Int64) (p1 : Int64) (p2 : Int64) (p3 : Int64) (p4 : Int32) : Option (Bool) := (fX2_liberties w_p0 p2 p1 p3).bind fun r1 => if (fJ13_bitCount_95d88 r1) = 1 then ((fX2_taken w_p0 p2 p1 r1).bind fun r3 => (fX2_liberties w_p0 (p2 ||| r1) (p1 &&& (r3 ^^^ (-1))) r1).bind fun r4 => if r4 = 0 then (some (true)) else ((FS w_p0 (p1 &&& (r3 ^^^ (-1))) (p2 ||| r1) r1 p4).bind fun r6 => if r6 = 0 then (some (false)) else (some (true)))) else (some (false))
set_option maxHeartbeats 4000000 in
set_option maxRecDepth 100000 in
theorem c_X3_holdsOwner {l : Launch} {z : Nat} {D : va_G} {K : Nat → ClassId} {σ : mwm} {a_p0 : Nat} {FS : (Int32 × Int32 × Int64 × Int64 × Int64) → Int64 → Int64 → Int64 → Int32 → Option Int64} {w_p0 : Int32 × Int32 × Int64 × Int64 × Int64} {p1 : Int64} {p2 : Int64} {p3 : Int64} {p4 : Int32} (hc_p0 : σ a_p0 = some (cl2  w_p0)) {fn : Nat} (hO : ∀ (w_p0 : Int32 × Int32 × Int64 × Int64 × Int64) (p1 p2 p3 : Int64) (p4 : Int32) (v : Int64), FS w_p0 p1 p2 p3 p4 = some v → ∀ (σ : mwm) (a_p0 : Nat), σ a_p0 = some (cl2 w_p0) → Met l yX3_firstStone wsX3_firstStone ({ frames := fn + 10, cells := 0, slots := 0, locals := 36 * fn + 840 } : Room) (PCm z D K [.ref a_p0, .long p1, .long p2, .long p3, .int p4] σ) (qsL v) 0 0 (fun _ => False)) {v : Bool} (h : fX3_holdsOwner FS w_p0 p1 p2 p3 p4 = some v) : Met l yX3_holdsOwner wsX3_holdsOwner ({ frames := (fn + 1) + 10, cells := 0, slots := 0, locals := 36 * (fn + 1) + 840 } : Room) (PCm z D K [.ref a_p0, .long p1, .long p2, .long p3, .int p4] σ) (qsI (b2i v)) 0 0 (fun _ => False) := by
  refine mt_enter (cc := cX3_holdsOwner) (maxL := 14) (ret := (some .boolean)) (own := RX3) (lv := [(0, .ref a_p0), (1, .long p1), (3, .long p2), (5, .long p3), (7, .int p4)]) (by decide) rfl rfl (Nat.le_of_ble_eq_true rfl) rfl ?_
  intro p e s m below meth c ls hC hx hb hown hts hK hr hlocks hnm hz hM hS hl
  unfold fX3_holdsOwner at h
  refine lv_aload_n hx hb dX3_holdsOwner_0 rfl (lv_at hl 0 rfl) ?_
  refine lv_lload_n hx hb dX3_holdsOwner_1 rfl (lv_at hl 2 rfl) ?_
  refine lv_lload_n hx hb dX3_holdsOwner_2 rfl (lv_at hl 1 rfl) ?_
  refine lv_lload hx hb dX3_holdsOwner_3 (lv_at hl 3 rfl) ?_
  obtain ⟨r1, hr1, h⟩ := ob_some h
  refine mw_cl (mw_runV (As := [.long p2, .long p1, .long p3]) (rest := []) (ci := 2) (C := RX2) (T := TX2) (N := 5) hC hM hS hc_p0 rfl (c_X2_liberties (a_t := a_p0) (w_t := w_p0) (p0 := p2) (p1 := p1) (p2 := p3) (hc_t := hc_p0) (v := r1) hr1) gX3_holdsOwner_X2_liberties rfl rfl rfl rfl q_X2_liberties ⟨(by dsimp only; omega), (by dsimp only; omega)⟩ rfl rfl (Nat.le_of_ble_eq_true rfl) hl.1 dX3_holdsOwner_5 ⟨(by dsimp only; omega), (by dsimp only; omega)⟩) ?_
  refine lv_lstore (lv' := [(8, .long r1), (0, .ref a_p0), (1, .long p1), (3, .long p2), (5, .long p3), (7, .int p4)]) hx hb dX3_holdsOwner_8 hl (by decide) rfl (fun ls hl => ?_)
  refine lv_lload hx hb dX3_holdsOwner_10 (lv_at hl 0 rfl) ?_
  refine mw_ci (mw_runS (As := [.long r1]) (rest := []) hC hM hS (c_J13_bitCount_95d88 (p0 := r1) (v := (fJ13_bitCount_95d88 r1)) rfl) gX3_holdsOwner_J13_bitCount_95d88 rfl rfl rfl q_J13_bitCount_95d88 ⟨(by dsimp only; omega), (by dsimp only; omega)⟩ rfl rfl (Nat.le_of_ble_eq_true rfl) hl.1 dX3_holdsOwner_12 ⟨(by dsimp only; omega), (by dsimp only; omega)⟩) ?_
  refine lv_iconst (v := 1) hx hb dX3_holdsOwner_15 (by decide) ?_
  refine lv_icmp_eq (tgt := 21) hx hb dX3_holdsOwner_16 (by decide) (fun c2 => ?_) (fun c2 => ?_)
  · replace h := it_pos c2 h
    refine lv_lload_n hx hb dX3_holdsOwner_21 rfl (lv_at hl 2 rfl) ?_
    refine lv_aload_n hx hb dX3_holdsOwner_22 rfl (lv_at hl 1 rfl) ?_
    refine lv_lload_n hx hb dX3_holdsOwner_23 rfl (lv_at hl 3 rfl) ?_
    refine lv_lload_n hx hb dX3_holdsOwner_24 rfl (lv_at hl 2 rfl) ?_
    refine lv_lload hx hb dX3_holdsOwner_25 (lv_at hl 0 rfl) ?_
    obtain ⟨r3, hr3, h⟩ := ob_some h
    refine mw_cl (mw_runV (As := [.long p2, .long p1, .long r1]) (rest := [.long p1]) (ci := 2) (C := RX2) (T := TX2) (N := 5) hC hM hS hc_p0 rfl (c_X2_taken (a_t := a_p0) (w_t := w_p0) (p0 := p2) (p1 := p1) (p2 := r1) (hc_t := hc_p0) (v := r3) hr3) gX3_holdsOwner_X2_taken rfl rfl rfl rfl q_X2_taken ⟨(by dsimp only; omega), (by dsimp only; omega)⟩ rfl rfl (Nat.le_of_ble_eq_true rfl) hl.1 dX3_holdsOwner_27 ⟨(by dsimp only; omega), (by dsimp only; omega)⟩) ?_
    refine lv_ldc2 (v := -1) hx hb hown (hts _ l_X3_holdsOwner_0) dX3_holdsOwner_30 ?_
    refine lv_lxor hx hb dX3_holdsOwner_33 ?_
    refine lv_land hx hb dX3_holdsOwner_34 ?_
    refine lv_lstore (lv' := [(10, .long (p1 &&& (r3 ^^^ (-1)))), (8, .long r1), (0, .ref a_p0), (1, .long p1), (3, .long p2), (5, .long p3), (7, .int p4)]) hx hb dX3_holdsOwner_35 hl (by decide) rfl (fun ls hl => ?_)
    refine lv_aload_n hx hb dX3_holdsOwner_37 rfl (lv_at hl 2 rfl) ?_
    refine lv_lload_n hx hb dX3_holdsOwner_38 rfl (lv_at hl 4 rfl) ?_
    refine lv_lload hx hb dX3_holdsOwner_39 (lv_at hl 1 rfl) ?_
    refine lv_lor hx hb dX3_holdsOwner_41 ?_
    refine lv_lload hx hb dX3_holdsOwner_42 (lv_at hl 0 rfl) ?_
    refine lv_lload hx hb dX3_holdsOwner_44 (lv_at hl 1 rfl) ?_
    obtain ⟨r4, hr4, h⟩ := ob_some h
    refine mw_cl (mw_runV (As := [.long (p2 ||| r1), .long (p1 &&& (r3 ^^^ (-1))), .long r1]) (rest := []) (ci := 2) (C := RX2) (T := TX2) (N := 5) hC hM hS hc_p0 rfl (c_X2_liberties (a_t := a_p0) (w_t := w_p0) (p0 := (p2 ||| r1)) (p1 := (p1 &&& (r3 ^^^ (-1)))) (p2 := r1) (hc_t := hc_p0) (v := r4) hr4) gX3_holdsOwner_X2_liberties rfl rfl rfl rfl q_X2_liberties ⟨(by dsimp only; omega), (by dsimp only; omega)⟩ rfl rfl (Nat.le_of_ble_eq_true rfl) hl.1 dX3_holdsOwner_46 ⟨(by dsimp only; omega), (by dsimp only; omega)⟩) ?_
    refine lv_lstore (lv' := [(12, .long r4), (10, .long (p1 &&& (r3 ^^^ (-1)))), (8, .long r1), (0, .ref a_p0), (1, .long p1), (3, .long p2), (5, .long p3), (7, .int p4)]) hx hb dX3_holdsOwner_49 hl (by decide) rfl (fun ls hl => ?_)
    refine lv_lload hx hb dX3_holdsOwner_51 (lv_at hl 0 rfl) ?_
    refine lv_lconst (v := 0) hx hb dX3_holdsOwner_53 (by decide) ?_
    refine W.lcmp hx hb dX3_holdsOwner_54 ?_
    refine lv_if_ne (tgt := 60) hx hb dX3_holdsOwner_55 (by decide) (fun c5 => ?_) (fun c5 => ?_)
    · replace c5 := mt (lg_cmp_eq _ _).mpr c5
      replace h := it_neg c5 h
      refine lv_aload_n hx hb dX3_holdsOwner_60 rfl (lv_at hl 3 rfl) ?_
      refine lv_lload hx hb dX3_holdsOwner_61 (lv_at hl 1 rfl) ?_
      refine lv_lload_n hx hb dX3_holdsOwner_63 rfl (lv_at hl 5 rfl) ?_
      refine lv_lload hx hb dX3_holdsOwner_64 (lv_at hl 2 rfl) ?_
      refine lv_lor hx hb dX3_holdsOwner_66 ?_
      refine lv_lload hx hb dX3_holdsOwner_67 (lv_at hl 2 rfl) ?_
      refine lv_iload hx hb dX3_holdsOwner_69 (lv_at hl 7 rfl) ?_
      obtain ⟨r6, hr6, h⟩ := ob_some h
      refine mw_cl (mw_runS (As := [.ref a_p0, .long (p1 &&& (r3 ^^^ (-1))), .long (p2 ||| r1), .long r1, .int p4]) (rest := []) hC hM hS (hO _ _ _ _ _ _ hr6 _ _ hc_p0) gX3_holdsOwner_X3_firstStone rfl rfl rfl q_X3_firstStone ⟨(by dsimp only; omega), (by dsimp only; omega)⟩ rfl rfl (Nat.le_of_ble_eq_true rfl) hl.1 dX3_holdsOwner_71 ⟨(by dsimp only; omega), (by dsimp only; omega)⟩) ?_
      refine lv_lconst (v := 0) hx hb dX3_holdsOwner_74 (by decide) ?_
      refine W.lcmp hx hb dX3_holdsOwner_75 ?_
      refine lv_if_eq (tgt := 83) hx hb dX3_holdsOwner_76 (by decide) (fun c7 => ?_) (fun c7 => ?_)
      · replace c7 := (lg_cmp_eq _ _).mp c7
        replace h := it_pos c7 h
        refine lv_iconst (v := 0) hx hb dX3_holdsOwner_83 (by decide) ?_
        cases h
        exact W.zret (ty := .boolean) (v := b2i false) hx hb hr (b2i_nar _) (fun t ht hW => ⟨_, rfl, rfl, ht⟩) (fun _ h9 => by cases h9) dX3_holdsOwner_84 hlocks
      · replace c7 := mt (lg_cmp_eq _ _).mpr c7
        replace h := it_neg c7 h
        refine lv_iconst (v := 1) hx hb dX3_holdsOwner_79 (by decide) ?_
        refine lv_goto (tgt := 84) hx hb dX3_holdsOwner_80 (by decide) ?_
        cases h
        exact W.zret (ty := .boolean) (v := b2i true) hx hb hr (b2i_nar _) (fun t ht hW => ⟨_, rfl, rfl, ht⟩) (fun _ h9 => by cases h9) dX3_holdsOwner_84 hlocks
    · replace c5 := (lg_cmp_eq _ _).mp c5
      replace h := it_pos c5 h
      refine lv_iconst (v := 1) hx hb dX3_holdsOwner_58 (by decide) ?_
      cases h
      exact W.zret (ty := .boolean) (v := b2i true) hx hb hr (b2i_nar _) (fun t ht hW => ⟨_, rfl, rfl, ht⟩) (fun _ h9 => by cases h9) dX3_holdsOwner_59 hlocks
  · replace h := it_neg c2 h
    refine lv_iconst (v := 0) hx hb dX3_holdsOwner_19 (by decide) ?_
    cases h
    exact W.zret (ty := .boolean) (v := b2i false) hx hb hr (b2i_nar _) (fun t ht hW => ⟨_, rfl, rfl, ht⟩) (fun _ h9 => by cases h9) dX3_holdsOwner_20 hlocks
def fLad : Nat → (((Int32 × Int32 × Int64 × Int64 × Int64) → Int64 → Int64 → Int64 → Int32 → Option Int64)) × (((Int32 × Int32 × Int64 × Int64 × Int64) → Int64 → Int64 → Int64 → Int32 → Option Bool))
  | 0 => (fun _ _ _ _ _ => none, fun _ _ _ _ _ => none)
  | n + 1 => (fun w a b c d => fX3_firstStone (fLad n).2 w a b c d, fun w a b c d => fX3_holdsOwner (fLad n).1 w a b c d)
theorem c_Lad {l : Launch} {z : Nat} {D : va_G} {K : Nat → ClassId} : ∀ n : Nat, (∀ (w_p0 : Int32 × Int32 × Int64 × Int64 × Int64) (p1 p2 p3 : Int64) (p4 : Int32) (v : Int64), (fLad n).1 w_p0 p1 p2 p3 p4 = some v → ∀ (σ : mwm) (a_p0 : Nat), σ a_p0 = some (cl2 w_p0) → Met l yX3_firstStone wsX3_firstStone ({ frames := n + 10, cells := 0, slots := 0, locals := 36 * n + 840 } : Room) (PCm z D K [.ref a_p0, .long p1, .long p2, .long p3, .int p4] σ) (qsL v) 0 0 (fun _ => False)) ∧ (∀ (w_p0 : Int32 × Int32 × Int64 × Int64 × Int64) (p1 p2 p3 : Int64) (p4 : Int32) (v : Bool), (fLad n).2 w_p0 p1 p2 p3 p4 = some v → ∀ (σ : mwm) (a_p0 : Nat), σ a_p0 = some (cl2 w_p0) → Met l yX3_holdsOwner wsX3_holdsOwner ({ frames := n + 10, cells := 0, slots := 0, locals := 36 * n + 840 } : Room) (PCm z D K [.ref a_p0, .long p1, .long p2, .long p3, .int p4] σ) (qsI (b2i v)) 0 0 (fun _ => False)) := by
  intro n
  induction n with
  | zero => exact ⟨fun _ _ _ _ _ _ h => (by cases h), fun _ _ _ _ _ _ h => (by cases h)⟩
  | succ n ih =>
    exact ⟨fun _ _ _ _ _ _ h _ _ hc => c_X3_firstStone (fn := n) (hc_p0 := hc) ih.2 h, fun _ _ _ _ _ _ h _ _ hc => c_X3_holdsOwner (fn := n) (hc_p0 := hc) ih.1 h⟩
def fLadF (w_p0 : Int32 × Int32 × Int64 × Int64 × Int64) (p1 p2 p3 : Int64) (p4 : Int32) : Option Int64 := (fLad 60).1 w_p0 p1 p2 p3 p4
def fLadO (w_p0 : Int32 × Int32 × Int64 × Int64 × Int64) (p1 p2 p3 : Int64) (p4 : Int32) : Option Bool := (fLad 60).2 w_p0 p1 p2 p3 p4
theorem cl_X3_firstStone {l : Launch} {z : Nat} {D : va_G} {K : Nat → ClassId} {σ : mwm} {a_p0 : Nat} {w_p0 : Int32 × Int32 × Int64 × Int64 × Int64} {p1 p2 p3 : Int64} {p4 : Int32} (hc_p0 : σ a_p0 = some (cl2 w_p0)) {v : Int64} (h : fLadF w_p0 p1 p2 p3 p4 = some v) : Met l yX3_firstStone wsX3_firstStone ({ frames := 70, cells := 0, slots := 0, locals := 3000 } : Room) (PCm z D K [.ref a_p0, .long p1, .long p2, .long p3, .int p4] σ) (qsL v) 0 0 (fun _ => False) := (c_Lad 60).1 _ _ _ _ _ _ h _ _ hc_p0
theorem cl_X3_holdsOwner {l : Launch} {z : Nat} {D : va_G} {K : Nat → ClassId} {σ : mwm} {a_p0 : Nat} {w_p0 : Int32 × Int32 × Int64 × Int64 × Int64} {p1 p2 p3 : Int64} {p4 : Int32} (hc_p0 : σ a_p0 = some (cl2 w_p0)) {v : Bool} (h : fLadO w_p0 p1 p2 p3 p4 = some v) : Met l yX3_holdsOwner wsX3_holdsOwner ({ frames := 70, cells := 0, slots := 0, locals := 3000 } : Room) (PCm z D K [.ref a_p0, .long p1, .long p2, .long p3, .int p4] σ) (qsI (b2i v)) 0 0 (fun _ => False) := (c_Lad 60).2 _ _ _ _ _ _ h _ _ hc_p0
theorem l_X4_forgetAll_0 : Cond.fieldLink RX4 24 "CornerStones$Memory" "count" "I" ∈ wsX4_forgetAll := (List.mem_cons_of_mem _ (List.mem_append_left _ (List.mem_of_getElem? (i := 0) rfl)))
theorem i_X4_forgetAll_X4 : ∀ w ∈ wsX40, w ∈ wsX4_forgetAll := fun _ h => (List.mem_cons_of_mem _ (List.mem_append_right _ h))
theorem q_X4_forgetAll : yX4_forgetAll.cls ≠ "java/lang/invoke/MethodHandle" ∧ yX4_forgetAll.cls ≠ "java/lang/invoke/VarHandle" ∧ (parseMethodDescriptor yX4_forgetAll.desc).map (fun d => d.parameters.length) = some 0 := by decide +kernel
def fX4_forgetAll (w_t : Int32 × Int32) : (Int32 × Int32) := ((w_t.1, (0 : Int32)))
set_option maxHeartbeats 4000000 in
set_option maxRecDepth 100000 in
theorem c_X4_forgetAll {l : Launch} {z : Nat} {D : va_G} {K : Nat → ClassId} {σ : mwm} {a_t a_t_ring : Nat} {w_t : Int32 × Int32} (hc_t : σ a_t = some (cl3 a_t_ring w_t)) {v : (Int32 × Int32)} (h : fX4_forgetAll w_t = v) : Met l yX4_forgetAll wsX4_forgetAll ({ frames := 0, cells := 0, slots := 0, locals := 0 } : Room) (PCm z D K [.ref a_t] σ) (qwV z D (fun σ2 => σ2 a_t = some (cl3 a_t_ring v) ∧ ∀ (q : Nat) (f : va_E), σ q = some f → q ≠ a_t → σ2 q = some f)) 0 0 (zA z) := by
  refine mt_enter (cc := cX4_forgetAll) (maxL := 1) (ret := none) (own := RX4) (lv := [(0, .ref a_t)]) (by decide) rfl rfl (Nat.le_of_ble_eq_true rfl) rfl ?_
  intro p e s m below meth c ls hC hx hb hown hts hK hr hlocks hnm hz hM hS hl
  unfold fX4_forgetAll at h
  refine lv_aload_n hx hb dX4_forgetAll_0 rfl (lv_at hl 0 rfl) ?_
  refine lv_iconst (v := 0) hx hb dX4_forgetAll_1 (by decide) ?_
  refine mw_put (ci := 3) (C := RX4) (T := TX4) (N := 3) (ty := .int) hC i_X4_forgetAll_X4 tyX4 tyX4_ok nmX4 hM hS hc_t rfl 2 (by decide) l_X4_forgetAll_0 rfl rfl (by decide +kernel) rfl rfl (Nat.le_of_ble_eq_true rfl) dX4_forgetAll_2 (fun H locs σ1 hM hS hc_t ho1 => ?_)
  replace hc_t : σ1 a_t = some (cl3 a_t_ring (w_t.1, (0 : Int32))) := hc_t
  have hf2 := fun (q : Nat) (f : va_E) (hf : σ q = some f) (n0 : q ≠ a_t) => ho1 q f hf n0
  subst h
  exact W.vret hx hb hr (fun t ht hW => ⟨⟨_, rfl, ⟨hc_t, hf2⟩, by show MW z D _ t.heap; rw [ht]; exact hM⟩, hS.F ht⟩) hS.2.2 dX4_forgetAll_5 hlocks
theorem l_X4_at_0 : Cond.fieldLink RX4 20 "CornerStones$Memory" "oldest" "I" ∈ wsX4_at := (List.mem_cons_of_mem _ (List.mem_append_left _ (List.mem_of_getElem? (i := 0) rfl)))
theorem i_X4_at_X4 : ∀ w ∈ wsX40, w ∈ wsX4_at := fun _ h => (List.mem_cons_of_mem _ (List.mem_append_right _ h))
theorem l_X4_at_2 : Cond.fieldLink RX4 11 "CornerStones$Memory" "ring" "[LCornerStones$Game;" ∈ wsX4_at := (List.mem_cons_of_mem _ (List.mem_append_left _ (List.mem_of_getElem? (i := 1) rfl)))
theorem q_X4_at : yX4_at.cls ≠ "java/lang/invoke/MethodHandle" ∧ yX4_at.cls ≠ "java/lang/invoke/VarHandle" ∧ (parseMethodDescriptor yX4_at.desc).map (fun d => d.parameters.length) = some 1 := by decide +kernel
def fX4_at (w_t : Int32 × Int32) (f_t_ring : Nat → Option Nat) (p0 : Int32) : Option (Option Nat) := bnd ((w_t.1 + p0) - (w_t.1 + p0) / 14 * 14) fun v1 => if v1 < 0 then (some (none)) else (if 14 ≤ v1 then (some (none)) else (if inB v1 14 = true then (some ((f_t_ring v1.toNatClampNeg))) else none))
set_option maxHeartbeats 4000000 in
set_option maxRecDepth 100000 in
theorem c_X4_at {l : Launch} {z : Nat} {D : va_G} {K : Nat → ClassId} {σ : mwm} {a_t a_t_ring : Nat} {w_t : Int32 × Int32} {f_t_ring : Nat → Option Nat} {p0 : Int32} (hc_t : σ a_t = some (cl3 a_t_ring w_t)) (hc_t_ring : σ a_t_ring = some (eQ K 14 f_t_ring)) {v : Option Nat} (h : fX4_at w_t f_t_ring p0 = some v) : Met l yX4_at wsX4_at ({ frames := 0, cells := 0, slots := 0, locals := 0 } : Room) (PCm z D K [.ref a_t, .int p0] σ) (va_Sq (fun r => r = v)) 0 0 (fun _ => False) := by
  refine mt_enter (cc := cX4_at) (maxL := 3) (ret := (some (.object "CornerStones$Game"))) (own := RX4) (lv := [(0, .ref a_t), (1, .int p0)]) (by decide) rfl rfl (Nat.le_of_ble_eq_true rfl) rfl ?_
  intro p e s m below meth c ls hC hx hb hown hts hK hr hlocks hnm hz hM hS hl
  unfold fX4_at at h
  refine lv_aload_n hx hb dX4_at_0 rfl (lv_at hl 0 rfl) ?_
  refine mw_get (ci := 3) (C := RX4) (T := TX4) (N := 3) (v := .int w_t.1) hC i_X4_at_X4 hM hc_t rfl 1 (by decide) l_X4_at_0 rfl rfl dX4_at_1 ?_
  refine lv_iload_n hx hb dX4_at_4 rfl (lv_at hl 1 rfl) ?_
  refine lv_iadd hx hb dX4_at_5 ?_
  refine lv_bipush (v := 14) hx hb dX4_at_6 (by decide) ?_
  refine lv_irem hx hb dX4_at_8 (by decide) ?_
  refine lv_topi (fun v1 ev1 => ?_)
  replace h := bnd_at ev1 h
  refine lv_istore_n (lv' := [(2, .int v1), (0, .ref a_t), (1, .int p0)]) hx hb dX4_at_9 rfl hl (by decide) rfl (fun ls hl => ?_)
  refine lv_iload_n hx hb dX4_at_10 rfl (lv_at hl 0 rfl) ?_
  refine lv_if_lt (tgt := 32) hx hb dX4_at_11 (by decide) (fun c2 => ?_) (fun c2 => ?_)
  · replace h := it_pos c2 h
    refine lv_null hx hb dX4_at_32 ?_
    cases h
    exact W.aret hx hb hr (Or.inl ⟨_, rfl⟩) (Or.inl rfl) (fun t ht hW => ⟨_, rfl, rfl, ht⟩) (fun _ h9 => by cases h9) dX4_at_33 hlocks
  · replace h := it_neg c2 h
    refine lv_iload_n hx hb dX4_at_14 rfl (lv_at hl 0 rfl) ?_
    refine lv_aload_n hx hb dX4_at_15 rfl (lv_at hl 1 rfl) ?_
    refine mw_get (ci := 3) (C := RX4) (T := TX4) (N := 3) (v := .ref a_t_ring) hC i_X4_at_X4 hM hc_t rfl 0 (by decide) l_X4_at_2 rfl rfl dX4_at_16 ?_
    refine mw_len (v := 14) hC hM hc_t_ring 4 rfl rfl dX4_at_19 ?_
    refine lv_icmp_ge (tgt := 32) hx hb dX4_at_20 (by decide) (fun c3 => ?_) (fun c3 => ?_)
    · replace h := it_pos c3 h
      refine lv_null hx hb dX4_at_32 ?_
      cases h
      exact W.aret hx hb hr (Or.inl ⟨_, rfl⟩) (Or.inl rfl) (fun t ht hW => ⟨_, rfl, rfl, ht⟩) (fun _ h9 => by cases h9) dX4_at_33 hlocks
    · replace h := it_neg c3 h
      refine lv_aload_n hx hb dX4_at_23 rfl (lv_at hl 1 rfl) ?_
      refine mw_get (ci := 3) (C := RX4) (T := TX4) (N := 3) (v := .ref a_t_ring) hC i_X4_at_X4 hM hc_t rfl 0 (by decide) l_X4_at_2 rfl rfl dX4_at_24 ?_
      refine lv_iload_n hx hb dX4_at_27 rfl (lv_at hl 0 rfl) ?_
      obtain ⟨c4, h⟩ := gd_some h
      refine mw_ldQ hC hM hc_t_ring (inB_ok c4) dX4_at_28 ?_
      refine lv_goto (tgt := 33) hx hb dX4_at_29 (by decide) ?_
      cases h
      exact W.aret hx hb hr (Or.inl ⟨_, rfl⟩) (va_rf_or _) (fun t ht hW => ⟨_, rfl, rfl, ht⟩) (fun _ h9 => by cases h9) dX4_at_33 hlocks
theorem l_X5_commandFromEnd_0 : Cond.constantLong RX5 9 (10000) ∈ wsX5_commandFromEnd := (List.mem_cons_of_mem _ (List.mem_of_getElem? (i := 0) rfl))
theorem q_X5_commandFromEnd : yX5_commandFromEnd.cls ≠ "java/lang/invoke/MethodHandle" ∧ yX5_commandFromEnd.cls ≠ "java/lang/invoke/VarHandle" ∧ (parseMethodDescriptor yX5_commandFromEnd.desc).map (fun d => d.parameters.length) = some 2 := by decide +kernel
def fX5_commandFromEnd_5 (p0 : Int64) (p1 : Int32) : Nat → Int64 → Int32 → Option (Int32)
  | 0, _, _ => none
  | fu + 1, x3, x5 => if p1 ≤ x5 then (some ((x3 - x3 / 10000 * 10000).toInt32)) else (if 4 ≤ x5 then (some ((x3 - x3 / 10000 * 10000).toInt32)) else (fX5_commandFromEnd_5 p0 p1 fu (x3 / 10000) (x5 + 1)))
def fX5_commandFromEnd (p0 : Int64) (p1 : Int32) : Option (Int32) := fX5_commandFromEnd_5 p0 p1 5000 p0 0 
set_option maxHeartbeats 4000000 in
set_option maxRecDepth 100000 in
theorem c_X5_commandFromEnd {l : Launch} {z : Nat} {D : va_G} {K : Nat → ClassId} {σ : mwm} {p0 : Int64} {p1 : Int32} {v : Int32} (h : fX5_commandFromEnd p0 p1 = some v) : Met l yX5_commandFromEnd wsX5_commandFromEnd ({ frames := 0, cells := 0, slots := 0, locals := 0 } : Room) (PCm z D K [.long p0, .int p1] σ) (qsI v) 0 0 (fun _ => False) := by
  refine mt_enter (cc := cX5_commandFromEnd) (maxL := 6) (ret := (some .int)) (own := RX5) (lv := [(0, .long p0), (2, .int p1)]) (by decide) rfl rfl (Nat.le_of_ble_eq_true rfl) rfl ?_
  intro p e s m below meth c ls hC hx hb hown hts hK hr hlocks hnm hz hM hS hl
  unfold fX5_commandFromEnd at h
  refine lv_lload_n hx hb dX5_commandFromEnd_0 rfl (lv_at hl 0 rfl) ?_
  refine lv_lstore_n (lv' := [(3, .long p0), (0, .long p0), (2, .int p1)]) hx hb dX5_commandFromEnd_1 rfl hl (by decide) rfl (fun ls hl => ?_)
  refine lv_iconst (v := 0) hx hb dX5_commandFromEnd_2 (by decide) ?_
  refine lv_istore (lv' := [(5, .int 0), (3, .long p0), (0, .long p0), (2, .int p1)]) hx hb dX5_commandFromEnd_3 hl (by decide) rfl (fun ls hl => ?_)
  have L5 : ∀ (fu0 : Nat) (x3 : Int64) (x5 : Int32), fX5_commandFromEnd_5 p0 p1 fu0 x3 x5 = some v → ∀ ls : Array Slot, lv_has ls 6 [(5, .int x5), (3, .long x3), (2, .int p1)] → W p l e ({ frames := 0, cells := 0, slots := 0, locals := 0 } : Room) s m ([.long p0, .int p1] : List Value).toArray below meth c s.heap [] 0 0 (MQ below (qsI v) ([.long p0, .int p1] : List Value).toArray s 0 0 (fun _ => False)) (F0 m 5 ls []) := by
    intro fu0
    induction fu0 with
    | zero =>
      intro x3 x5 h
      unfold fX5_commandFromEnd_5 at h
      cases h
    | succ fu0 ih0 =>
      intro x3 x5 h ls hl
      unfold fX5_commandFromEnd_5 at h
      refine lv_iload hx hb dX5_commandFromEnd_5 (lv_at hl 0 rfl) ?_
      refine lv_iload_n hx hb dX5_commandFromEnd_7 rfl (lv_at hl 2 rfl) ?_
      refine lv_icmp_ge (tgt := 29) hx hb dX5_commandFromEnd_8 (by decide) (fun c1 => ?_) (fun c1 => ?_)
      · replace h := it_pos c1 h
        refine lv_lload_n hx hb dX5_commandFromEnd_29 rfl (lv_at hl 1 rfl) ?_
        refine lv_ldc2 (v := 10000) hx hb hown (hts _ l_X5_commandFromEnd_0) dX5_commandFromEnd_30 ?_
        refine lv_lrem hx hb dX5_commandFromEnd_33 (by decide) ?_
        refine lv_l2i hx hb dX5_commandFromEnd_34 rfl ?_
        cases h
        exact W.iret hx hb hr (fun t ht hW => ⟨_, rfl, rfl, ht⟩) (fun _ h9 => by cases h9) dX5_commandFromEnd_35 hlocks
      · replace h := it_neg c1 h
        refine lv_iload hx hb dX5_commandFromEnd_11 (lv_at hl 0 rfl) ?_
        refine lv_iconst (v := 4) hx hb dX5_commandFromEnd_13 (by decide) ?_
        refine lv_icmp_ge (tgt := 29) hx hb dX5_commandFromEnd_14 (by decide) (fun c2 => ?_) (fun c2 => ?_)
        · replace h := it_pos c2 h
          refine lv_lload_n hx hb dX5_commandFromEnd_29 rfl (lv_at hl 1 rfl) ?_
          refine lv_ldc2 (v := 10000) hx hb hown (hts _ l_X5_commandFromEnd_0) dX5_commandFromEnd_30 ?_
          refine lv_lrem hx hb dX5_commandFromEnd_33 (by decide) ?_
          refine lv_l2i hx hb dX5_commandFromEnd_34 rfl ?_
          cases h
          exact W.iret hx hb hr (fun t ht hW => ⟨_, rfl, rfl, ht⟩) (fun _ h9 => by cases h9) dX5_commandFromEnd_35 hlocks
        · replace h := it_neg c2 h
          refine lv_lload_n hx hb dX5_commandFromEnd_17 rfl (lv_at hl 1 rfl) ?_
          refine lv_ldc2 (v := 10000) hx hb hown (hts _ l_X5_commandFromEnd_0) dX5_commandFromEnd_18 ?_
          refine lv_ldiv hx hb dX5_commandFromEnd_21 (by decide) ?_
          refine lv_lstore_n (lv' := [(3, .long (x3 / 10000)), (5, .int x5), (2, .int p1)]) hx hb dX5_commandFromEnd_22 rfl hl (by decide) rfl (fun ls hl => ?_)
          refine lv_iinc (v := (x5 + 1)) (lv' := [(5, .int (x5 + 1)), (3, .long (x3 / 10000)), (2, .int p1)]) hx hb dX5_commandFromEnd_23 hl (k := 1) rfl rfl (by decide) rfl (fun ls hl => ?_)
          refine lv_goto (tgt := 5) hx hb dX5_commandFromEnd_26 (by decide) ?_
          exact ih0 (x3 / 10000) (x5 + 1) h ls (lv_sub hl [0, 1, 2] rfl)
  exact L5 5000 p0 0  h ls (lv_sub hl [0, 1, 3] rfl)
theorem q_X7_isColour : yX7_isColour.cls ≠ "java/lang/invoke/MethodHandle" ∧ yX7_isColour.cls ≠ "java/lang/invoke/VarHandle" ∧ (parseMethodDescriptor yX7_isColour.desc).map (fun d => d.parameters.length) = some 1 := by decide +kernel
def fX7_isColour (p0 : Int32) : Bool := if p0 = 0 then ((true)) else (if p0 = 1 then ((true)) else ((false)))
set_option maxHeartbeats 4000000 in
set_option maxRecDepth 100000 in
theorem c_X7_isColour {l : Launch} {z : Nat} {D : va_G} {K : Nat → ClassId} {σ : mwm} {p0 : Int32} {v : Bool} (h : fX7_isColour p0 = v) : Met l yX7_isColour wsX7_isColour ({ frames := 0, cells := 0, slots := 0, locals := 0 } : Room) (PCm z D K [.int p0] σ) (qsI (b2i v)) 0 0 (fun _ => False) := by
  refine mt_enter (cc := cX7_isColour) (maxL := 1) (ret := (some .boolean)) (own := RX7) (lv := [(0, .int p0)]) (by decide) rfl rfl (Nat.le_of_ble_eq_true rfl) rfl ?_
  intro p e s m below meth c ls hC hx hb hown hts hK hr hlocks hnm hz hM hS hl
  unfold fX7_isColour at h
  refine lv_iload_n hx hb dX7_isColour_0 rfl (lv_at hl 0 rfl) ?_
  refine lv_if_eq (tgt := 9) hx hb dX7_isColour_1 (by decide) (fun c1 => ?_) (fun c1 => ?_)
  · replace h := it_pos c1 h
    refine lv_iconst (v := 1) hx hb dX7_isColour_9 (by decide) ?_
    refine lv_goto (tgt := 14) hx hb dX7_isColour_10 (by decide) ?_
    subst h
    exact W.zret (ty := .boolean) (v := b2i true) hx hb hr (b2i_nar _) (fun t ht hW => ⟨_, rfl, rfl, ht⟩) (fun _ h9 => by cases h9) dX7_isColour_14 hlocks
  · replace h := it_neg c1 h
    refine lv_iload_n hx hb dX7_isColour_4 rfl (lv_at hl 0 rfl) ?_
    refine lv_iconst (v := 1) hx hb dX7_isColour_5 (by decide) ?_
    refine lv_icmp_ne (tgt := 13) hx hb dX7_isColour_6 (by decide) (fun c2 => ?_) (fun c2 => ?_)
    · replace h := it_neg c2 h
      refine lv_iconst (v := 0) hx hb dX7_isColour_13 (by decide) ?_
      subst h
      exact W.zret (ty := .boolean) (v := b2i false) hx hb hr (b2i_nar _) (fun t ht hW => ⟨_, rfl, rfl, ht⟩) (fun _ h9 => by cases h9) dX7_isColour_14 hlocks
    · replace h := it_pos c2 h
      refine lv_iconst (v := 1) hx hb dX7_isColour_9 (by decide) ?_
      refine lv_goto (tgt := 14) hx hb dX7_isColour_10 (by decide) ?_
      subst h
      exact W.zret (ty := .boolean) (v := b2i true) hx hb hr (b2i_nar _) (fun t ht hW => ⟨_, rfl, rfl, ht⟩) (fun _ h9 => by cases h9) dX7_isColour_14 hlocks
theorem l_X7_commandsIn_0 : Cond.constantLong RX7 280 (10000) ∈ wsX7_commandsIn := (List.mem_cons_of_mem _ (List.mem_of_getElem? (i := 0) rfl))
theorem q_X7_commandsIn : yX7_commandsIn.cls ≠ "java/lang/invoke/MethodHandle" ∧ yX7_commandsIn.cls ≠ "java/lang/invoke/VarHandle" ∧ (parseMethodDescriptor yX7_commandsIn.desc).map (fun d => d.parameters.length) = some 1 := by decide +kernel
def fX7_commandsIn_11 (p0 : Int64) : Nat → Int32 → Int64 → Int32 → Option (Int32)
  | 0, _, _, _ => none
  | fu + 1, x2, x3, x5 => if 5 ≤ x5 then (some (x2)) else (if x3 = 0 then (some (x2)) else (fX7_commandsIn_11 p0 fu (x2 + 1) (x3 / 10000) (x5 + 1)))
def fX7_commandsIn (p0 : Int64) : Option (Int32) := fX7_commandsIn_11 p0 5000 1 (p0 / 10000) 0 
set_option maxHeartbeats 4000000 in
set_option maxRecDepth 100000 in
theorem c_X7_commandsIn {l : Launch} {z : Nat} {D : va_G} {K : Nat → ClassId} {σ : mwm} {p0 : Int64} {v : Int32} (h : fX7_commandsIn p0 = some v) : Met l yX7_commandsIn wsX7_commandsIn ({ frames := 0, cells := 0, slots := 0, locals := 0 } : Room) (PCm z D K [.long p0] σ) (qsI v) 0 0 (fun _ => False) := by
  refine mt_enter (cc := cX7_commandsIn) (maxL := 6) (ret := (some .int)) (own := RX7) (lv := [(0, .long p0)]) (by decide) rfl rfl (Nat.le_of_ble_eq_true rfl) rfl ?_
  intro p e s m below meth c ls hC hx hb hown hts hK hr hlocks hnm hz hM hS hl
  unfold fX7_commandsIn at h
  refine lv_iconst (v := 1) hx hb dX7_commandsIn_0 (by decide) ?_
  refine lv_istore_n (lv' := [(2, .int 1), (0, .long p0)]) hx hb dX7_commandsIn_1 rfl hl (by decide) rfl (fun ls hl => ?_)
  refine lv_lload_n hx hb dX7_commandsIn_2 rfl (lv_at hl 1 rfl) ?_
  refine lv_ldc2 (v := 10000) hx hb hown (hts _ l_X7_commandsIn_0) dX7_commandsIn_3 ?_
  refine lv_ldiv hx hb dX7_commandsIn_6 (by decide) ?_
  refine lv_lstore_n (lv' := [(3, .long (p0 / 10000)), (2, .int 1), (0, .long p0)]) hx hb dX7_commandsIn_7 rfl hl (by decide) rfl (fun ls hl => ?_)
  refine lv_iconst (v := 0) hx hb dX7_commandsIn_8 (by decide) ?_
  refine lv_istore (lv' := [(5, .int 0), (3, .long (p0 / 10000)), (2, .int 1), (0, .long p0)]) hx hb dX7_commandsIn_9 hl (by decide) rfl (fun ls hl => ?_)
  have L11 : ∀ (fu0 : Nat) (x2 : Int32) (x3 : Int64) (x5 : Int32), fX7_commandsIn_11 p0 fu0 x2 x3 x5 = some v → ∀ ls : Array Slot, lv_has ls 6 [(5, .int x5), (3, .long x3), (2, .int x2)] → W p l e ({ frames := 0, cells := 0, slots := 0, locals := 0 } : Room) s m ([.long p0] : List Value).toArray below meth c s.heap [] 0 0 (MQ below (qsI v) ([.long p0] : List Value).toArray s 0 0 (fun _ => False)) (F0 m 11 ls []) := by
    intro fu0
    induction fu0 with
    | zero =>
      intro x2 x3 x5 h
      unfold fX7_commandsIn_11 at h
      cases h
    | succ fu0 ih0 =>
      intro x2 x3 x5 h ls hl
      unfold fX7_commandsIn_11 at h
      refine lv_iload hx hb dX7_commandsIn_11 (lv_at hl 0 rfl) ?_
      refine lv_iconst (v := 5) hx hb dX7_commandsIn_13 (by decide) ?_
      refine lv_icmp_ge (tgt := 38) hx hb dX7_commandsIn_14 (by decide) (fun c1 => ?_) (fun c1 => ?_)
      · replace h := it_pos c1 h
        refine lv_iload_n hx hb dX7_commandsIn_38 rfl (lv_at hl 2 rfl) ?_
        cases h
        exact W.iret hx hb hr (fun t ht hW => ⟨_, rfl, rfl, ht⟩) (fun _ h9 => by cases h9) dX7_commandsIn_39 hlocks
      · replace h := it_neg c1 h
        refine lv_lload_n hx hb dX7_commandsIn_17 rfl (lv_at hl 1 rfl) ?_
        refine lv_lconst (v := 0) hx hb dX7_commandsIn_18 (by decide) ?_
        refine W.lcmp hx hb dX7_commandsIn_19 ?_
        refine lv_if_eq (tgt := 38) hx hb dX7_commandsIn_20 (by decide) (fun c2 => ?_) (fun c2 => ?_)
        · replace c2 := (lg_cmp_eq _ _).mp c2
          replace h := it_pos c2 h
          refine lv_iload_n hx hb dX7_commandsIn_38 rfl (lv_at hl 2 rfl) ?_
          cases h
          exact W.iret hx hb hr (fun t ht hW => ⟨_, rfl, rfl, ht⟩) (fun _ h9 => by cases h9) dX7_commandsIn_39 hlocks
        · replace c2 := mt (lg_cmp_eq _ _).mpr c2
          replace h := it_neg c2 h
          refine lv_lload_n hx hb dX7_commandsIn_23 rfl (lv_at hl 1 rfl) ?_
          refine lv_ldc2 (v := 10000) hx hb hown (hts _ l_X7_commandsIn_0) dX7_commandsIn_24 ?_
          refine lv_ldiv hx hb dX7_commandsIn_27 (by decide) ?_
          refine lv_lstore_n (lv' := [(3, .long (x3 / 10000)), (5, .int x5), (2, .int x2)]) hx hb dX7_commandsIn_28 rfl hl (by decide) rfl (fun ls hl => ?_)
          refine lv_iinc (v := (x2 + 1)) (lv' := [(2, .int (x2 + 1)), (3, .long (x3 / 10000)), (5, .int x5)]) hx hb dX7_commandsIn_29 hl (k := 2) rfl rfl (by decide) rfl (fun ls hl => ?_)
          refine lv_iinc (v := (x5 + 1)) (lv' := [(5, .int (x5 + 1)), (2, .int (x2 + 1)), (3, .long (x3 / 10000))]) hx hb dX7_commandsIn_32 hl (k := 2) rfl rfl (by decide) rfl (fun ls hl => ?_)
          refine lv_goto (tgt := 11) hx hb dX7_commandsIn_35 (by decide) ?_
          exact ih0 (x2 + 1) (x3 / 10000) (x5 + 1) h ls (lv_sub hl [0, 2, 1] rfl)
  exact L11 5000 1 (p0 / 10000) 0  h ls (lv_sub hl [0, 1, 2] rfl)
theorem l_X5_holdsForColour_0 : Cond.initialized RX7 ∈ wsX5_holdsForColour := (List.mem_cons_of_mem _ (List.mem_append_left _ (List.mem_append_left _ (List.mem_append_left _ (List.mem_of_getElem? (i := 1) rfl)))))
theorem l_X5_holdsForColour_1 : Cond.static yX7_isColour ∈ wsX5_holdsForColour := (List.mem_cons_of_mem _ (List.mem_append_left _ (List.mem_append_left _ (List.mem_append_left _ (List.mem_of_getElem? (i := 0) rfl)))))
theorem q_X5_holdsForColour : yX5_holdsForColour.cls ≠ "java/lang/invoke/MethodHandle" ∧ yX5_holdsForColour.cls ≠ "java/lang/invoke/VarHandle" ∧ (parseMethodDescriptor yX5_holdsForColour.desc).map (fun d => d.parameters.length) = some 4 := by decide +kernel
def fX5_holdsForColour (w_p0 : Int32 × Int32 × Int32 × Int32 × Int64 × Int64 × Int32 × Int32) (w_p0_grid : Int32 × Int32 × Int64 × Int64 × Int64) (p1 : Int32) (p2 : Int32) (p3 : Int32) : Option (Bool) := if (fX7_isColour p2) = true then (if p1 = 6 then (if (fX0_captivesOf w_p0 p2) < p3 then (some (false)) else (some (true))) else ((fX0_areaOf w_p0 w_p0_grid p2).bind fun r3 => if r3 < p3 then (some (false)) else (some (true)))) else (some (false))
set_option maxHeartbeats 4000000 in
set_option maxRecDepth 100000 in
theorem c_X5_holdsForColour {l : Launch} {z : Nat} {D : va_G} {K : Nat → ClassId} {σ : mwm} {a_p0 a_p0_before0 a_p0_before1 a_p0_grid : Nat} {w_p0 : Int32 × Int32 × Int32 × Int32 × Int64 × Int64 × Int32 × Int32} {w_p0_grid : Int32 × Int32 × Int64 × Int64 × Int64} {p1 : Int32} {p2 : Int32} {p3 : Int32} (hc_p0 : σ a_p0 = some (cl0 a_p0_before0 a_p0_before1 a_p0_grid w_p0)) (hc_p0_grid : σ a_p0_grid = some (cl2  w_p0_grid)) {v : Bool} (h : fX5_holdsForColour w_p0 w_p0_grid p1 p2 p3 = some v) : Met l yX5_holdsForColour wsX5_holdsForColour ({ frames := 4, cells := 0, slots := 0, locals := 98 } : Room) (PCm z D K [.ref a_p0, .int p1, .int p2, .int p3] σ) (qsI (b2i v)) 0 0 (fun _ => False) := by
  refine mt_enter (cc := cX5_holdsForColour) (maxL := 4) (ret := (some .boolean)) (own := RX5) (lv := [(0, .ref a_p0), (1, .int p1), (2, .int p2), (3, .int p3)]) (by decide) rfl rfl (Nat.le_of_ble_eq_true rfl) rfl ?_
  intro p e s m below meth c ls hC hx hb hown hts hK hr hlocks hnm hz hM hS hl
  unfold fX5_holdsForColour at h
  refine lv_iload_n hx hb dX5_holdsForColour_0 rfl (lv_at hl 2 rfl) ?_
  refine mw_ci (mw_runSN (As := [.int p2]) (rest := []) hC hM hS (c_X7_isColour (p0 := p2) (v := (fX7_isColour p2)) rfl) gX5_holdsForColour_X7_isColour_n30 rfl rfl rfl (nx_RX5_30 hC.2.2.2) l_X5_holdsForColour_0 l_X5_holdsForColour_1 q_X7_isColour ⟨Nat.le_of_ble_eq_true rfl, Nat.le_of_ble_eq_true rfl⟩ rfl rfl (Nat.le_of_ble_eq_true rfl) hl.1 dX5_holdsForColour_1 ⟨Nat.le_of_ble_eq_true rfl, Nat.le_of_ble_eq_true rfl⟩) ?_
  refine lv_if_ne (tgt := 9) hx hb dX5_holdsForColour_4 (by decide) (fun c1 => ?_) (fun c1 => ?_)
  · replace c1 := b2i_ne0.mp c1
    replace h := it_pos c1 h
    refine lv_iload_n hx hb dX5_holdsForColour_9 rfl (lv_at hl 1 rfl) ?_
    refine lv_bipush (v := 6) hx hb dX5_holdsForColour_10 (by decide) ?_
    refine lv_icmp_ne (tgt := 23) hx hb dX5_holdsForColour_12 (by decide) (fun c2 => ?_) (fun c2 => ?_)
    · replace h := it_neg c2 h
      refine lv_aload_n hx hb dX5_holdsForColour_23 rfl (lv_at hl 0 rfl) ?_
      refine lv_iload_n hx hb dX5_holdsForColour_24 rfl (lv_at hl 2 rfl) ?_
      obtain ⟨r3, hr3, h⟩ := ob_some h
      refine mw_ci (mw_runV (As := [.int p2]) (rest := []) (ci := 0) (C := RX0) (T := TX0) (N := 11) hC hM hS hc_p0 rfl (c_X0_areaOf (a_t := a_p0) (a_t_before0 := a_p0_before0) (a_t_before1 := a_p0_before1) (a_t_grid := a_p0_grid) (w_t := w_p0) (w_t_grid := w_p0_grid) (p0 := p2) (hc_t := hc_p0) (hc_t_grid := hc_p0_grid) (v := r3) hr3) gX5_holdsForColour_X0_areaOf rfl rfl rfl rfl q_X0_areaOf ⟨Nat.le_of_ble_eq_true rfl, Nat.le_of_ble_eq_true rfl⟩ rfl rfl (Nat.le_of_ble_eq_true rfl) hl.1 dX5_holdsForColour_25 ⟨Nat.le_of_ble_eq_true rfl, Nat.le_of_ble_eq_true rfl⟩) ?_
      refine lv_iload_n hx hb dX5_holdsForColour_28 rfl (lv_at hl 3 rfl) ?_
      refine lv_icmp_lt (tgt := 36) hx hb dX5_holdsForColour_29 (by decide) (fun c4 => ?_) (fun c4 => ?_)
      · replace h := it_pos c4 h
        refine lv_iconst (v := 0) hx hb dX5_holdsForColour_36 (by decide) ?_
        cases h
        exact W.zret (ty := .boolean) (v := b2i false) hx hb hr (b2i_nar _) (fun t ht hW => ⟨_, rfl, rfl, ht⟩) (fun _ h9 => by cases h9) dX5_holdsForColour_37 hlocks
      · replace h := it_neg c4 h
        refine lv_iconst (v := 1) hx hb dX5_holdsForColour_32 (by decide) ?_
        refine lv_goto (tgt := 37) hx hb dX5_holdsForColour_33 (by decide) ?_
        cases h
        exact W.zret (ty := .boolean) (v := b2i true) hx hb hr (b2i_nar _) (fun t ht hW => ⟨_, rfl, rfl, ht⟩) (fun _ h9 => by cases h9) dX5_holdsForColour_37 hlocks
    · replace h := it_pos c2 h
      refine lv_aload_n hx hb dX5_holdsForColour_15 rfl (lv_at hl 0 rfl) ?_
      refine lv_iload_n hx hb dX5_holdsForColour_16 rfl (lv_at hl 2 rfl) ?_
      refine mw_ci (mw_runV (As := [.int p2]) (rest := []) (ci := 0) (C := RX0) (T := TX0) (N := 11) hC hM hS hc_p0 rfl (c_X0_captivesOf (a_t := a_p0) (a_t_before0 := a_p0_before0) (a_t_before1 := a_p0_before1) (a_t_grid := a_p0_grid) (w_t := w_p0) (p0 := p2) (hc_t := hc_p0) (v := (fX0_captivesOf w_p0 p2)) rfl) gX5_holdsForColour_X0_captivesOf rfl rfl rfl rfl q_X0_captivesOf ⟨Nat.le_of_ble_eq_true rfl, Nat.le_of_ble_eq_true rfl⟩ rfl rfl (Nat.le_of_ble_eq_true rfl) hl.1 dX5_holdsForColour_17 ⟨Nat.le_of_ble_eq_true rfl, Nat.le_of_ble_eq_true rfl⟩) ?_
      refine lv_goto (tgt := 28) hx hb dX5_holdsForColour_20 (by decide) ?_
      refine lv_iload_n hx hb dX5_holdsForColour_28 rfl (lv_at hl 3 rfl) ?_
      refine lv_icmp_lt (tgt := 36) hx hb dX5_holdsForColour_29 (by decide) (fun c5 => ?_) (fun c5 => ?_)
      · replace h := it_pos c5 h
        refine lv_iconst (v := 0) hx hb dX5_holdsForColour_36 (by decide) ?_
        cases h
        exact W.zret (ty := .boolean) (v := b2i false) hx hb hr (b2i_nar _) (fun t ht hW => ⟨_, rfl, rfl, ht⟩) (fun _ h9 => by cases h9) dX5_holdsForColour_37 hlocks
      · replace h := it_neg c5 h
        refine lv_iconst (v := 1) hx hb dX5_holdsForColour_32 (by decide) ?_
        refine lv_goto (tgt := 37) hx hb dX5_holdsForColour_33 (by decide) ?_
        cases h
        exact W.zret (ty := .boolean) (v := b2i true) hx hb hr (b2i_nar _) (fun t ht hW => ⟨_, rfl, rfl, ht⟩) (fun _ h9 => by cases h9) dX5_holdsForColour_37 hlocks
  · replace c1 := b2i_eq0.mp c1
    replace h := it_neg c1 h
    refine lv_iconst (v := 0) hx hb dX5_holdsForColour_7 (by decide) ?_
    cases h
    exact W.zret (ty := .boolean) (v := b2i false) hx hb hr (b2i_nar _) (fun t ht hW => ⟨_, rfl, rfl, ht⟩) (fun _ h9 => by cases h9) dX5_holdsForColour_8 hlocks
theorem i_X5_holdsForPoint_X0 : ∀ w ∈ wsX00, w ∈ wsX5_holdsForPoint := fun _ h => (List.mem_cons_of_mem _ (List.mem_append_left _ (List.mem_append_right _ h)))
theorem l_X5_holdsForPoint_1 : Cond.initialized RX3 ∈ wsX5_holdsForPoint := (List.mem_cons_of_mem _ (List.mem_append_left _ (List.mem_append_left _ (List.mem_append_right _ (List.mem_append_right _ (List.mem_append_right _ (List.mem_append_left _ (List.mem_of_getElem? (i := 2) rfl))))))))
theorem l_X5_holdsForPoint_2 : Cond.static yX3_firstStone ∈ wsX5_holdsForPoint := (List.mem_cons_of_mem _ (List.mem_append_left _ (List.mem_append_left _ (List.mem_append_right _ (List.mem_append_right _ (List.mem_append_right _ (List.mem_append_left _ (List.mem_of_getElem? (i := 1) rfl))))))))
theorem q_X5_holdsForPoint : yX5_holdsForPoint.cls ≠ "java/lang/invoke/MethodHandle" ∧ yX5_holdsForPoint.cls ≠ "java/lang/invoke/VarHandle" ∧ (parseMethodDescriptor yX5_holdsForPoint.desc).map (fun d => d.parameters.length) = some 4 := by decide +kernel
def fX5_holdsForPoint (w_p0 : Int32 × Int32 × Int32 × Int32 × Int64 × Int64 × Int32 × Int32) (f_p0_before0 : Nat → Int64) (f_p0_before1 : Nat → Int64) (w_p0_grid : Int32 × Int32 × Int64 × Int64 × Int64) (p1 : Int32) (p2 : Int32) (p3 : Int32) : Option (Bool) := if (fX2_has w_p0_grid p2) = true then (if p1 = 3 then (if (fX0_colourAt w_p0 p2) = (-1) then (some (false)) else (if (fX0_colourAt w_p0 p2) = p3 then (some (true)) else (some (false)))) else (if p1 = 4 then (if (fX0_colourAt w_p0 p2) = (-1) then (some (false)) else ((fX0_libertiesAt w_p0 w_p0_grid p2).bind fun r7 => if (fJ13_bitCount_95d88 r7) < p3 then (some (false)) else (some (true)))) else (if p1 = 5 then ((fX0_reasonAt w_p0 f_p0_before0 f_p0_before1 w_p0_grid p2).bind fun r10 => if r10 = p3 then (some (true)) else (some (false))) else (if p1 = 6 then (some (false)) else (if p1 = 7 then (if (fX0_colourAt w_p0 p2) = (-1) then (some (false)) else ((fLadF w_p0_grid (fX0_stonesOf w_p0 (1 - (fX0_colourAt w_p0 p2))) (fX0_stonesOf w_p0 (fX0_colourAt w_p0 p2)) (shlL 1 p2) 12).bind fun r15 => if r15 = 0 then (if p3 = 0 then (some (true)) else (some (false))) else (if p3 = 1 then (some (true)) else (some (false))))) else (if p1 = 8 then (some (false)) else (if p1 = 9 then ((fX0_eyeAt w_p0 w_p0_grid p2).bind fun r21 => if r21 = p3 then (some (true)) else (some (false))) else (some (false))))))))) else (some (false))
set_option maxHeartbeats 4000000 in
set_option maxRecDepth 100000 in
theorem c_X5_holdsForPoint {l : Launch} {z : Nat} {D : va_G} {K : Nat → ClassId} {σ : mwm} {a_p0 a_p0_before0 a_p0_before1 a_p0_grid : Nat} {w_p0 : Int32 × Int32 × Int32 × Int32 × Int64 × Int64 × Int32 × Int32} {f_p0_before0 : Nat → Int64} {f_p0_before1 : Nat → Int64} {w_p0_grid : Int32 × Int32 × Int64 × Int64 × Int64} {p1 : Int32} {p2 : Int32} {p3 : Int32} (hc_p0 : σ a_p0 = some (cl0 a_p0_before0 a_p0_before1 a_p0_grid w_p0)) (hc_p0_before0 : σ a_p0_before0 = some (eJ K 121 f_p0_before0)) (hc_p0_before1 : σ a_p0_before1 = some (eJ K 121 f_p0_before1)) (hc_p0_grid : σ a_p0_grid = some (cl2  w_p0_grid)) {v : Bool} (h : fX5_holdsForPoint w_p0 f_p0_before0 f_p0_before1 w_p0_grid p1 p2 p3 = some v) : Met l yX5_holdsForPoint wsX5_holdsForPoint ({ frames := 71, cells := 0, slots := 0, locals := 3036 } : Room) (PCm z D K [.ref a_p0, .int p1, .int p2, .int p3] σ) (qsI (b2i v)) 0 0 (fun _ => False) := by
  refine mt_enter (cc := cX5_holdsForPoint) (maxL := 5) (ret := (some .boolean)) (own := RX5) (lv := [(0, .ref a_p0), (1, .int p1), (2, .int p2), (3, .int p3)]) (by decide) rfl rfl (Nat.le_of_ble_eq_true rfl) rfl ?_
  intro p e s m below meth c ls hC hx hb hown hts hK hr hlocks hnm hz hM hS hl
  unfold fX5_holdsForPoint at h
  refine lv_aload_n hx hb dX5_holdsForPoint_0 rfl (lv_at hl 0 rfl) ?_
  refine mw_getN (ci := 0) (C := RX0) (T := TX0) (N := 11) (v := .ref a_p0_grid) hC i_X5_holdsForPoint_X0 hM hc_p0 rfl 2 (by decide) (nx_RX5_40 hC.2.2.2) rfl rfl dX5_holdsForPoint_1 ?_
  refine lv_iload_n hx hb dX5_holdsForPoint_4 rfl (lv_at hl 2 rfl) ?_
  refine mw_ci (mw_runV (As := [.int p2]) (rest := []) (ci := 2) (C := RX2) (T := TX2) (N := 5) hC hM hS hc_p0_grid rfl (c_X2_has (a_t := a_p0_grid) (w_t := w_p0_grid) (p0 := p2) (hc_t := hc_p0_grid) (v := (fX2_has w_p0_grid p2)) rfl) gX5_holdsForPoint_X2_has rfl rfl rfl rfl q_X2_has ⟨Nat.le_of_ble_eq_true rfl, Nat.le_of_ble_eq_true rfl⟩ rfl rfl (Nat.le_of_ble_eq_true rfl) hl.1 dX5_holdsForPoint_5 ⟨Nat.le_of_ble_eq_true rfl, Nat.le_of_ble_eq_true rfl⟩) ?_
  refine lv_if_ne (tgt := 13) hx hb dX5_holdsForPoint_8 (by decide) (fun c1 => ?_) (fun c1 => ?_)
  · replace c1 := b2i_ne0.mp c1
    replace h := it_pos c1 h
    refine lv_aload_n hx hb dX5_holdsForPoint_13 rfl (lv_at hl 0 rfl) ?_
    refine lv_iload_n hx hb dX5_holdsForPoint_14 rfl (lv_at hl 2 rfl) ?_
    refine mw_ci (mw_runV (As := [.int p2]) (rest := []) (ci := 0) (C := RX0) (T := TX0) (N := 11) hC hM hS hc_p0 rfl (c_X0_colourAt (a_t := a_p0) (a_t_before0 := a_p0_before0) (a_t_before1 := a_p0_before1) (a_t_grid := a_p0_grid) (w_t := w_p0) (p0 := p2) (hc_t := hc_p0) (v := (fX0_colourAt w_p0 p2)) rfl) gX5_holdsForPoint_X0_colourAt rfl rfl rfl rfl q_X0_colourAt ⟨Nat.le_of_ble_eq_true rfl, Nat.le_of_ble_eq_true rfl⟩ rfl rfl (Nat.le_of_ble_eq_true rfl) hl.1 dX5_holdsForPoint_15 ⟨Nat.le_of_ble_eq_true rfl, Nat.le_of_ble_eq_true rfl⟩) ?_
    refine lv_istore (lv' := [(4, .int (fX0_colourAt w_p0 p2)), (0, .ref a_p0), (1, .int p1), (2, .int p2), (3, .int p3)]) hx hb dX5_holdsForPoint_18 hl (by decide) rfl (fun ls hl => ?_)
    refine lv_iload_n hx hb dX5_holdsForPoint_20 rfl (lv_at hl 2 rfl) ?_
    by_cases c2 : p1 = 3
    · replace h := it_pos c2 h
      refine lv_tableIn (tgt := 64) hx hb dX5_holdsForPoint_21 (by rw [c2]; decide) (by rw [c2]; decide) (by rw [c2]; rfl) (by decide) ?_
      refine lv_iload hx hb dX5_holdsForPoint_64 (lv_at hl 0 rfl) ?_
      refine lv_iconst (v := -1) hx hb dX5_holdsForPoint_66 (by decide) ?_
      refine lv_icmp_eq (tgt := 80) hx hb dX5_holdsForPoint_67 (by decide) (fun c3 => ?_) (fun c3 => ?_)
      · replace h := it_pos c3 h
        refine lv_iconst (v := 0) hx hb dX5_holdsForPoint_80 (by decide) ?_
        cases h
        exact W.zret (ty := .boolean) (v := b2i false) hx hb hr (b2i_nar _) (fun t ht hW => ⟨_, rfl, rfl, ht⟩) (fun _ h9 => by cases h9) dX5_holdsForPoint_81 hlocks
      · replace h := it_neg c3 h
        refine lv_iload hx hb dX5_holdsForPoint_70 (lv_at hl 0 rfl) ?_
        refine lv_iload_n hx hb dX5_holdsForPoint_72 rfl (lv_at hl 4 rfl) ?_
        refine lv_icmp_ne (tgt := 80) hx hb dX5_holdsForPoint_73 (by decide) (fun c4 => ?_) (fun c4 => ?_)
        · replace h := it_neg c4 h
          refine lv_iconst (v := 0) hx hb dX5_holdsForPoint_80 (by decide) ?_
          cases h
          exact W.zret (ty := .boolean) (v := b2i false) hx hb hr (b2i_nar _) (fun t ht hW => ⟨_, rfl, rfl, ht⟩) (fun _ h9 => by cases h9) dX5_holdsForPoint_81 hlocks
        · replace h := it_pos c4 h
          refine lv_iconst (v := 1) hx hb dX5_holdsForPoint_76 (by decide) ?_
          refine lv_goto (tgt := 81) hx hb dX5_holdsForPoint_77 (by decide) ?_
          cases h
          exact W.zret (ty := .boolean) (v := b2i true) hx hb hr (b2i_nar _) (fun t ht hW => ⟨_, rfl, rfl, ht⟩) (fun _ h9 => by cases h9) dX5_holdsForPoint_81 hlocks
    replace h := it_neg c2 h
    by_cases c5 : p1 = 4
    · replace h := it_pos c5 h
      refine lv_tableIn (tgt := 82) hx hb dX5_holdsForPoint_21 (by rw [c5]; decide) (by rw [c5]; decide) (by rw [c5]; rfl) (by decide) ?_
      refine lv_iload hx hb dX5_holdsForPoint_82 (lv_at hl 0 rfl) ?_
      refine lv_iconst (v := -1) hx hb dX5_holdsForPoint_84 (by decide) ?_
      refine lv_icmp_eq (tgt := 104) hx hb dX5_holdsForPoint_85 (by decide) (fun c6 => ?_) (fun c6 => ?_)
      · replace h := it_pos c6 h
        refine lv_iconst (v := 0) hx hb dX5_holdsForPoint_104 (by decide) ?_
        cases h
        exact W.zret (ty := .boolean) (v := b2i false) hx hb hr (b2i_nar _) (fun t ht hW => ⟨_, rfl, rfl, ht⟩) (fun _ h9 => by cases h9) dX5_holdsForPoint_105 hlocks
      · replace h := it_neg c6 h
        refine lv_aload_n hx hb dX5_holdsForPoint_88 rfl (lv_at hl 1 rfl) ?_
        refine lv_iload_n hx hb dX5_holdsForPoint_89 rfl (lv_at hl 3 rfl) ?_
        obtain ⟨r7, hr7, h⟩ := ob_some h
        refine mw_cl (mw_runV (As := [.int p2]) (rest := []) (ci := 0) (C := RX0) (T := TX0) (N := 11) hC hM hS hc_p0 rfl (c_X0_libertiesAt (a_t := a_p0) (a_t_before0 := a_p0_before0) (a_t_before1 := a_p0_before1) (a_t_grid := a_p0_grid) (w_t := w_p0) (w_t_grid := w_p0_grid) (p0 := p2) (hc_t := hc_p0) (hc_t_grid := hc_p0_grid) (v := r7) hr7) gX5_holdsForPoint_X0_libertiesAt rfl rfl rfl rfl q_X0_libertiesAt ⟨Nat.le_of_ble_eq_true rfl, Nat.le_of_ble_eq_true rfl⟩ rfl rfl (Nat.le_of_ble_eq_true rfl) hl.1 dX5_holdsForPoint_90 ⟨Nat.le_of_ble_eq_true rfl, Nat.le_of_ble_eq_true rfl⟩) ?_
        refine mw_ci (mw_runS (As := [.long r7]) (rest := []) hC hM hS (c_J13_bitCount_95d88 (p0 := r7) (v := (fJ13_bitCount_95d88 r7)) rfl) gX5_holdsForPoint_J13_bitCount_95d88 rfl rfl rfl q_J13_bitCount_95d88 ⟨Nat.le_of_ble_eq_true rfl, Nat.le_of_ble_eq_true rfl⟩ rfl rfl (Nat.le_of_ble_eq_true rfl) hl.1 dX5_holdsForPoint_93 ⟨Nat.le_of_ble_eq_true rfl, Nat.le_of_ble_eq_true rfl⟩) ?_
        refine lv_iload_n hx hb dX5_holdsForPoint_96 rfl (lv_at hl 4 rfl) ?_
        refine lv_icmp_lt (tgt := 104) hx hb dX5_holdsForPoint_97 (by decide) (fun c8 => ?_) (fun c8 => ?_)
        · replace h := it_pos c8 h
          refine lv_iconst (v := 0) hx hb dX5_holdsForPoint_104 (by decide) ?_
          cases h
          exact W.zret (ty := .boolean) (v := b2i false) hx hb hr (b2i_nar _) (fun t ht hW => ⟨_, rfl, rfl, ht⟩) (fun _ h9 => by cases h9) dX5_holdsForPoint_105 hlocks
        · replace h := it_neg c8 h
          refine lv_iconst (v := 1) hx hb dX5_holdsForPoint_100 (by decide) ?_
          refine lv_goto (tgt := 105) hx hb dX5_holdsForPoint_101 (by decide) ?_
          cases h
          exact W.zret (ty := .boolean) (v := b2i true) hx hb hr (b2i_nar _) (fun t ht hW => ⟨_, rfl, rfl, ht⟩) (fun _ h9 => by cases h9) dX5_holdsForPoint_105 hlocks
    replace h := it_neg c5 h
    by_cases c9 : p1 = 5
    · replace h := it_pos c9 h
      refine lv_tableIn (tgt := 106) hx hb dX5_holdsForPoint_21 (by rw [c9]; decide) (by rw [c9]; decide) (by rw [c9]; rfl) (by decide) ?_
      refine lv_aload_n hx hb dX5_holdsForPoint_106 rfl (lv_at hl 1 rfl) ?_
      refine lv_iload_n hx hb dX5_holdsForPoint_107 rfl (lv_at hl 3 rfl) ?_
      obtain ⟨r10, hr10, h⟩ := ob_some h
      refine mw_ci (mw_runV (As := [.int p2]) (rest := []) (ci := 0) (C := RX0) (T := TX0) (N := 11) hC hM hS hc_p0 rfl (c_X0_reasonAt (a_t := a_p0) (a_t_before0 := a_p0_before0) (a_t_before1 := a_p0_before1) (a_t_grid := a_p0_grid) (w_t := w_p0) (f_t_before0 := f_p0_before0) (f_t_before1 := f_p0_before1) (w_t_grid := w_p0_grid) (p0 := p2) (hc_t := hc_p0) (hc_t_before0 := hc_p0_before0) (hc_t_before1 := hc_p0_before1) (hc_t_grid := hc_p0_grid) (v := r10) hr10) gX5_holdsForPoint_X0_reasonAt rfl rfl rfl rfl q_X0_reasonAt ⟨Nat.le_of_ble_eq_true rfl, Nat.le_of_ble_eq_true rfl⟩ rfl rfl (Nat.le_of_ble_eq_true rfl) hl.1 dX5_holdsForPoint_108 ⟨Nat.le_of_ble_eq_true rfl, Nat.le_of_ble_eq_true rfl⟩) ?_
      refine lv_iload_n hx hb dX5_holdsForPoint_111 rfl (lv_at hl 4 rfl) ?_
      refine lv_icmp_ne (tgt := 119) hx hb dX5_holdsForPoint_112 (by decide) (fun c11 => ?_) (fun c11 => ?_)
      · replace h := it_neg c11 h
        refine lv_iconst (v := 0) hx hb dX5_holdsForPoint_119 (by decide) ?_
        cases h
        exact W.zret (ty := .boolean) (v := b2i false) hx hb hr (b2i_nar _) (fun t ht hW => ⟨_, rfl, rfl, ht⟩) (fun _ h9 => by cases h9) dX5_holdsForPoint_120 hlocks
      · replace h := it_pos c11 h
        refine lv_iconst (v := 1) hx hb dX5_holdsForPoint_115 (by decide) ?_
        refine lv_goto (tgt := 120) hx hb dX5_holdsForPoint_116 (by decide) ?_
        cases h
        exact W.zret (ty := .boolean) (v := b2i true) hx hb hr (b2i_nar _) (fun t ht hW => ⟨_, rfl, rfl, ht⟩) (fun _ h9 => by cases h9) dX5_holdsForPoint_120 hlocks
    replace h := it_neg c9 h
    by_cases c12 : p1 = 6
    · replace h := it_pos c12 h
      refine lv_tableIn (tgt := 188) hx hb dX5_holdsForPoint_21 (by rw [c12]; decide) (by rw [c12]; decide) (by rw [c12]; rfl) (by decide) ?_
      refine lv_iconst (v := 0) hx hb dX5_holdsForPoint_188 (by decide) ?_
      cases h
      exact W.zret (ty := .boolean) (v := b2i false) hx hb hr (b2i_nar _) (fun t ht hW => ⟨_, rfl, rfl, ht⟩) (fun _ h9 => by cases h9) dX5_holdsForPoint_189 hlocks
    replace h := it_neg c12 h
    by_cases c13 : p1 = 7
    · replace h := it_pos c13 h
      refine lv_tableIn (tgt := 121) hx hb dX5_holdsForPoint_21 (by rw [c13]; decide) (by rw [c13]; decide) (by rw [c13]; rfl) (by decide) ?_
      refine lv_iload hx hb dX5_holdsForPoint_121 (lv_at hl 0 rfl) ?_
      refine lv_iconst (v := -1) hx hb dX5_holdsForPoint_123 (by decide) ?_
      refine lv_icmp_eq (tgt := 171) hx hb dX5_holdsForPoint_124 (by decide) (fun c14 => ?_) (fun c14 => ?_)
      · replace h := it_pos c14 h
        refine lv_iconst (v := 0) hx hb dX5_holdsForPoint_171 (by decide) ?_
        cases h
        exact W.zret (ty := .boolean) (v := b2i false) hx hb hr (b2i_nar _) (fun t ht hW => ⟨_, rfl, rfl, ht⟩) (fun _ h9 => by cases h9) dX5_holdsForPoint_172 hlocks
      · replace h := it_neg c14 h
        refine lv_iload_n hx hb dX5_holdsForPoint_127 rfl (lv_at hl 4 rfl) ?_
        refine lv_aload_n hx hb dX5_holdsForPoint_128 rfl (lv_at hl 1 rfl) ?_
        refine mw_getN (ci := 0) (C := RX0) (T := TX0) (N := 11) (v := .ref a_p0_grid) hC i_X5_holdsForPoint_X0 hM hc_p0 rfl 2 (by decide) (nx_RX5_40 hC.2.2.2) rfl rfl dX5_holdsForPoint_129 ?_
        refine lv_aload_n hx hb dX5_holdsForPoint_132 rfl (lv_at hl 1 rfl) ?_
        refine lv_iconst (v := 1) hx hb dX5_holdsForPoint_133 (by decide) ?_
        refine lv_iload hx hb dX5_holdsForPoint_134 (lv_at hl 0 rfl) ?_
        refine lv_isub hx hb dX5_holdsForPoint_136 ?_
        refine mw_cl (mw_runV (As := [.int (1 - (fX0_colourAt w_p0 p2))]) (rest := [.ref a_p0_grid, .int p3]) (ci := 0) (C := RX0) (T := TX0) (N := 11) hC hM hS hc_p0 rfl (c_X0_stonesOf (a_t := a_p0) (a_t_before0 := a_p0_before0) (a_t_before1 := a_p0_before1) (a_t_grid := a_p0_grid) (w_t := w_p0) (p0 := (1 - (fX0_colourAt w_p0 p2))) (hc_t := hc_p0) (v := (fX0_stonesOf w_p0 (1 - (fX0_colourAt w_p0 p2)))) rfl) gX5_holdsForPoint_X0_stonesOf rfl rfl rfl rfl q_X0_stonesOf ⟨Nat.le_of_ble_eq_true rfl, Nat.le_of_ble_eq_true rfl⟩ rfl rfl (Nat.le_of_ble_eq_true rfl) hl.1 dX5_holdsForPoint_137 ⟨Nat.le_of_ble_eq_true rfl, Nat.le_of_ble_eq_true rfl⟩) ?_
        refine lv_aload_n hx hb dX5_holdsForPoint_140 rfl (lv_at hl 1 rfl) ?_
        refine lv_iload hx hb dX5_holdsForPoint_141 (lv_at hl 0 rfl) ?_
        refine mw_cl (mw_runV (As := [.int (fX0_colourAt w_p0 p2)]) (rest := [.long (fX0_stonesOf w_p0 (1 - (fX0_colourAt w_p0 p2))), .ref a_p0_grid, .int p3]) (ci := 0) (C := RX0) (T := TX0) (N := 11) hC hM hS hc_p0 rfl (c_X0_stonesOf (a_t := a_p0) (a_t_before0 := a_p0_before0) (a_t_before1 := a_p0_before1) (a_t_grid := a_p0_grid) (w_t := w_p0) (p0 := (fX0_colourAt w_p0 p2)) (hc_t := hc_p0) (v := (fX0_stonesOf w_p0 (fX0_colourAt w_p0 p2))) rfl) gX5_holdsForPoint_X0_stonesOf rfl rfl rfl rfl q_X0_stonesOf ⟨Nat.le_of_ble_eq_true rfl, Nat.le_of_ble_eq_true rfl⟩ rfl rfl (Nat.le_of_ble_eq_true rfl) hl.1 dX5_holdsForPoint_143 ⟨Nat.le_of_ble_eq_true rfl, Nat.le_of_ble_eq_true rfl⟩) ?_
        refine lv_lconst (v := 1) hx hb dX5_holdsForPoint_146 (by decide) ?_
        refine lv_iload_n hx hb dX5_holdsForPoint_147 rfl (lv_at hl 3 rfl) ?_
        refine lv_lshl (v := (shlL 1 p2)) hx hb dX5_holdsForPoint_148 rfl ?_
        refine lv_bipush (v := 12) hx hb dX5_holdsForPoint_149 (by decide) ?_
        obtain ⟨r15, hr15, h⟩ := ob_some h
        refine mw_cl (mw_runSN (As := [.ref a_p0_grid, .long (fX0_stonesOf w_p0 (1 - (fX0_colourAt w_p0 p2))), .long (fX0_stonesOf w_p0 (fX0_colourAt w_p0 p2)), .long (shlL 1 p2), .int 12]) (rest := [.int p3]) hC hM hS (cl_X3_firstStone (a_p0 := a_p0_grid) (w_p0 := w_p0_grid) (p1 := (fX0_stonesOf w_p0 (1 - (fX0_colourAt w_p0 p2)))) (p2 := (fX0_stonesOf w_p0 (fX0_colourAt w_p0 p2))) (p3 := (shlL 1 p2)) (p4 := 12) (hc_p0 := hc_p0_grid) (v := r15) hr15) gX5_holdsForPoint_X3_firstStone_n68 rfl rfl rfl (nx_RX5_68 hC.2.2.2) l_X5_holdsForPoint_1 l_X5_holdsForPoint_2 q_X3_firstStone ⟨Nat.le_of_ble_eq_true rfl, Nat.le_of_ble_eq_true rfl⟩ rfl rfl (Nat.le_of_ble_eq_true rfl) hl.1 dX5_holdsForPoint_151 ⟨Nat.le_of_ble_eq_true rfl, Nat.le_of_ble_eq_true rfl⟩) ?_
        refine lv_lconst (v := 0) hx hb dX5_holdsForPoint_154 (by decide) ?_
        refine W.lcmp hx hb dX5_holdsForPoint_155 ?_
        refine lv_if_eq (tgt := 163) hx hb dX5_holdsForPoint_156 (by decide) (fun c16 => ?_) (fun c16 => ?_)
        · replace c16 := (lg_cmp_eq _ _).mp c16
          replace h := it_pos c16 h
          refine lv_iconst (v := 0) hx hb dX5_holdsForPoint_163 (by decide) ?_
          refine lv_icmp_ne (tgt := 171) hx hb dX5_holdsForPoint_164 (by decide) (fun c17 => ?_) (fun c17 => ?_)
          · replace h := it_neg c17 h
            refine lv_iconst (v := 0) hx hb dX5_holdsForPoint_171 (by decide) ?_
            cases h
            exact W.zret (ty := .boolean) (v := b2i false) hx hb hr (b2i_nar _) (fun t ht hW => ⟨_, rfl, rfl, ht⟩) (fun _ h9 => by cases h9) dX5_holdsForPoint_172 hlocks
          · replace h := it_pos c17 h
            refine lv_iconst (v := 1) hx hb dX5_holdsForPoint_167 (by decide) ?_
            refine lv_goto (tgt := 172) hx hb dX5_holdsForPoint_168 (by decide) ?_
            cases h
            exact W.zret (ty := .boolean) (v := b2i true) hx hb hr (b2i_nar _) (fun t ht hW => ⟨_, rfl, rfl, ht⟩) (fun _ h9 => by cases h9) dX5_holdsForPoint_172 hlocks
        · replace c16 := mt (lg_cmp_eq _ _).mpr c16
          replace h := it_neg c16 h
          refine lv_iconst (v := 1) hx hb dX5_holdsForPoint_159 (by decide) ?_
          refine lv_goto (tgt := 164) hx hb dX5_holdsForPoint_160 (by decide) ?_
          refine lv_icmp_ne (tgt := 171) hx hb dX5_holdsForPoint_164 (by decide) (fun c18 => ?_) (fun c18 => ?_)
          · replace h := it_neg c18 h
            refine lv_iconst (v := 0) hx hb dX5_holdsForPoint_171 (by decide) ?_
            cases h
            exact W.zret (ty := .boolean) (v := b2i false) hx hb hr (b2i_nar _) (fun t ht hW => ⟨_, rfl, rfl, ht⟩) (fun _ h9 => by cases h9) dX5_holdsForPoint_172 hlocks
          · replace h := it_pos c18 h
            refine lv_iconst (v := 1) hx hb dX5_holdsForPoint_167 (by decide) ?_
            refine lv_goto (tgt := 172) hx hb dX5_holdsForPoint_168 (by decide) ?_
            cases h
            exact W.zret (ty := .boolean) (v := b2i true) hx hb hr (b2i_nar _) (fun t ht hW => ⟨_, rfl, rfl, ht⟩) (fun _ h9 => by cases h9) dX5_holdsForPoint_172 hlocks
    replace h := it_neg c13 h
    by_cases c19 : p1 = 8
    · replace h := it_pos c19 h
      refine lv_tableIn (tgt := 188) hx hb dX5_holdsForPoint_21 (by rw [c19]; decide) (by rw [c19]; decide) (by rw [c19]; rfl) (by decide) ?_
      refine lv_iconst (v := 0) hx hb dX5_holdsForPoint_188 (by decide) ?_
      cases h
      exact W.zret (ty := .boolean) (v := b2i false) hx hb hr (b2i_nar _) (fun t ht hW => ⟨_, rfl, rfl, ht⟩) (fun _ h9 => by cases h9) dX5_holdsForPoint_189 hlocks
    replace h := it_neg c19 h
    by_cases c20 : p1 = 9
    · replace h := it_pos c20 h
      refine lv_tableIn (tgt := 173) hx hb dX5_holdsForPoint_21 (by rw [c20]; decide) (by rw [c20]; decide) (by rw [c20]; rfl) (by decide) ?_
      refine lv_aload_n hx hb dX5_holdsForPoint_173 rfl (lv_at hl 1 rfl) ?_
      refine lv_iload_n hx hb dX5_holdsForPoint_174 rfl (lv_at hl 3 rfl) ?_
      obtain ⟨r21, hr21, h⟩ := ob_some h
      refine mw_ci (mw_runV (As := [.int p2]) (rest := []) (ci := 0) (C := RX0) (T := TX0) (N := 11) hC hM hS hc_p0 rfl (c_X0_eyeAt (a_t := a_p0) (a_t_before0 := a_p0_before0) (a_t_before1 := a_p0_before1) (a_t_grid := a_p0_grid) (w_t := w_p0) (w_t_grid := w_p0_grid) (p0 := p2) (hc_t := hc_p0) (hc_t_grid := hc_p0_grid) (v := r21) hr21) gX5_holdsForPoint_X0_eyeAt rfl rfl rfl rfl q_X0_eyeAt ⟨Nat.le_of_ble_eq_true rfl, Nat.le_of_ble_eq_true rfl⟩ rfl rfl (Nat.le_of_ble_eq_true rfl) hl.1 dX5_holdsForPoint_175 ⟨Nat.le_of_ble_eq_true rfl, Nat.le_of_ble_eq_true rfl⟩) ?_
      refine lv_iload_n hx hb dX5_holdsForPoint_178 rfl (lv_at hl 4 rfl) ?_
      refine lv_icmp_ne (tgt := 186) hx hb dX5_holdsForPoint_179 (by decide) (fun c22 => ?_) (fun c22 => ?_)
      · replace h := it_neg c22 h
        refine lv_iconst (v := 0) hx hb dX5_holdsForPoint_186 (by decide) ?_
        cases h
        exact W.zret (ty := .boolean) (v := b2i false) hx hb hr (b2i_nar _) (fun t ht hW => ⟨_, rfl, rfl, ht⟩) (fun _ h9 => by cases h9) dX5_holdsForPoint_187 hlocks
      · replace h := it_pos c22 h
        refine lv_iconst (v := 1) hx hb dX5_holdsForPoint_182 (by decide) ?_
        refine lv_goto (tgt := 187) hx hb dX5_holdsForPoint_183 (by decide) ?_
        cases h
        exact W.zret (ty := .boolean) (v := b2i true) hx hb hr (b2i_nar _) (fun t ht hW => ⟨_, rfl, rfl, ht⟩) (fun _ h9 => by cases h9) dX5_holdsForPoint_187 hlocks
    replace h := it_neg c20 h
    refine lv_tableOut (tgt := 188) hx hb dX5_holdsForPoint_21 (by have t0 := lv_neT (a := 3) c2 rfl; have t1 := lv_neT (a := 4) c5 rfl; have t2 := lv_neT (a := 5) c9 rfl; have t3 := lv_neT (a := 6) c12 rfl; have t4 := lv_neT (a := 7) c13 rfl; have t5 := lv_neT (a := 8) c19 rfl; have t6 := lv_neT (a := 9) c20 rfl; omega) (by decide) ?_
    refine lv_iconst (v := 0) hx hb dX5_holdsForPoint_188 (by decide) ?_
    cases h
    exact W.zret (ty := .boolean) (v := b2i false) hx hb hr (b2i_nar _) (fun t ht hW => ⟨_, rfl, rfl, ht⟩) (fun _ h9 => by cases h9) dX5_holdsForPoint_189 hlocks
  · replace c1 := b2i_eq0.mp c1
    replace h := it_neg c1 h
    refine lv_iconst (v := 0) hx hb dX5_holdsForPoint_11 (by decide) ?_
    cases h
    exact W.zret (ty := .boolean) (v := b2i false) hx hb hr (b2i_nar _) (fun t ht hW => ⟨_, rfl, rfl, ht⟩) (fun _ h9 => by cases h9) dX5_holdsForPoint_12 hlocks
theorem q_X5_succeeds : yX5_succeeds.cls ≠ "java/lang/invoke/MethodHandle" ∧ yX5_succeeds.cls ≠ "java/lang/invoke/VarHandle" ∧ (parseMethodDescriptor yX5_succeeds.desc).map (fun d => d.parameters.length) = some 2 := by decide +kernel
def fX5_succeeds (w_p0 : Int32 × Int32 × Int32 × Int32 × Int64 × Int64 × Int32 × Int32) (f_p0_before0 : Nat → Int64) (f_p0_before1 : Nat → Int64) (w_p0_grid : Int32 × Int32 × Int64 × Int64 × Int64) (p1 : Int32) : Option (Bool × (Int32 × Int32 × Int32 × Int32 × Int64 × Int64 × Int32 × Int32) × (Nat → Int64) × (Nat → Int64)) := if (p1 / 1000) = 1 then (if (p1 - p1 / 10 * 10) = 0 then ((fX0_layIfAllowed w_p0 f_p0_before0 f_p0_before1 w_p0_grid ((p1 / 10) - (p1 / 10) / 100 * 100)).bind fun r3 => if r3.1 = true then (some ((true, r3.2.1, r3.2.2.1, r3.2.2.2))) else (some ((false, r3.2.1, r3.2.2.1, r3.2.2.2)))) else (some ((false, w_p0, f_p0_before0, f_p0_before1)))) else (if (p1 / 1000) = 2 then (if p1 = 2000 then ((fX0_passIfAllowed w_p0 f_p0_before0 f_p0_before1).bind fun r10 => if r10.1 = true then (some ((true, r10.2.1, r10.2.2.1, r10.2.2.2))) else (some ((false, r10.2.1, r10.2.2.1, r10.2.2.2)))) else (some ((false, w_p0, f_p0_before0, f_p0_before1)))) else (if (p1 / 1000) = 3 then ((fX5_holdsForPoint w_p0 f_p0_before0 f_p0_before1 w_p0_grid (p1 / 1000) ((p1 / 10) - (p1 / 10) / 100 * 100) (p1 - p1 / 10 * 10)).bind fun r16 => some ((r16, w_p0, f_p0_before0, f_p0_before1))) else (if (p1 / 1000) = 4 then ((fX5_holdsForPoint w_p0 f_p0_before0 f_p0_before1 w_p0_grid (p1 / 1000) ((p1 / 10) - (p1 / 10) / 100 * 100) (p1 - p1 / 10 * 10)).bind fun r18 => some ((r18, w_p0, f_p0_before0, f_p0_before1))) else (if (p1 / 1000) = 5 then ((fX5_holdsForPoint w_p0 f_p0_before0 f_p0_before1 w_p0_grid (p1 / 1000) ((p1 / 10) - (p1 / 10) / 100 * 100) (p1 - p1 / 10 * 10)).bind fun r20 => some ((r20, w_p0, f_p0_before0, f_p0_before1))) else (if (p1 / 1000) = 6 then ((fX5_holdsForColour w_p0 w_p0_grid (p1 / 1000) ((p1 / 100) - (p1 / 100) / 10 * 10) (p1 - p1 / 100 * 100)).bind fun r22 => some ((r22, w_p0, f_p0_before0, f_p0_before1))) else (if (p1 / 1000) = 7 then ((fX5_holdsForPoint w_p0 f_p0_before0 f_p0_before1 w_p0_grid (p1 / 1000) ((p1 / 10) - (p1 / 10) / 100 * 100) (p1 - p1 / 10 * 10)).bind fun r24 => some ((r24, w_p0, f_p0_before0, f_p0_before1))) else (if (p1 / 1000) = 8 then ((fX5_holdsForColour w_p0 w_p0_grid (p1 / 1000) ((p1 / 100) - (p1 / 100) / 10 * 10) (p1 - p1 / 100 * 100)).bind fun r26 => some ((r26, w_p0, f_p0_before0, f_p0_before1))) else ((fX5_holdsForPoint w_p0 f_p0_before0 f_p0_before1 w_p0_grid (p1 / 1000) ((p1 / 10) - (p1 / 10) / 100 * 100) (p1 - p1 / 10 * 10)).bind fun r27 => some ((r27, w_p0, f_p0_before0, f_p0_before1))))))))))
set_option maxHeartbeats 4000000 in
set_option maxRecDepth 100000 in
theorem c_X5_succeeds {l : Launch} {z : Nat} {D : va_G} {K : Nat → ClassId} {σ : mwm} {a_p0 a_p0_before0 a_p0_before1 a_p0_grid : Nat} {w_p0 : Int32 × Int32 × Int32 × Int32 × Int64 × Int64 × Int32 × Int32} {f_p0_before0 : Nat → Int64} {f_p0_before1 : Nat → Int64} {w_p0_grid : Int32 × Int32 × Int64 × Int64 × Int64} {p1 : Int32} (hc_p0 : σ a_p0 = some (cl0 a_p0_before0 a_p0_before1 a_p0_grid w_p0)) (hc_p0_before0 : σ a_p0_before0 = some (eJ K 121 f_p0_before0)) (hc_p0_before1 : σ a_p0_before1 = some (eJ K 121 f_p0_before1)) (hc_p0_grid : σ a_p0_grid = some (cl2  w_p0_grid)) (n_p0_p0_before0 : a_p0 ≠ a_p0_before0) (n_p0_p0_before1 : a_p0 ≠ a_p0_before1) (n_p0_before0_p0_before1 : a_p0_before0 ≠ a_p0_before1) {v : Bool × (Int32 × Int32 × Int32 × Int32 × Int64 × Int64 × Int32 × Int32) × (Nat → Int64) × (Nat → Int64)} (h : fX5_succeeds w_p0 f_p0_before0 f_p0_before1 w_p0_grid p1 = some v) : Met l yX5_succeeds wsX5_succeeds ({ frames := 72, cells := 0, slots := 0, locals := 3060 } : Room) (PCm z D K [.ref a_p0, .int p1] σ) (qwI z D (fun r σ2 => r = b2i v.1 ∧ σ2 a_p0 = some (cl0 a_p0_before0 a_p0_before1 a_p0_grid v.2.1) ∧ σ2 a_p0_before0 = some (eJ K 121 v.2.2.1) ∧ σ2 a_p0_before1 = some (eJ K 121 v.2.2.2) ∧ ∀ (q : Nat) (f : va_E), σ q = some f → q ≠ a_p0 → q ≠ a_p0_before0 → q ≠ a_p0_before1 → σ2 q = some f)) 0 0 (zA z) := by
  refine mt_enter (cc := cX5_succeeds) (maxL := 4) (ret := (some .boolean)) (own := RX5) (lv := [(0, .ref a_p0), (1, .int p1)]) (by decide) rfl rfl (Nat.le_of_ble_eq_true rfl) rfl ?_
  intro p e s m below meth c ls hC hx hb hown hts hK hr hlocks hnm hz hM hS hl
  unfold fX5_succeeds at h
  refine lv_iload_n hx hb dX5_succeeds_0 rfl (lv_at hl 1 rfl) ?_
  refine lv_sipush (v := 1000) hx hb dX5_succeeds_1 (by decide) ?_
  refine lv_idiv hx hb dX5_succeeds_4 (by decide) ?_
  refine lv_istore_n (lv' := [(2, .int (p1 / 1000)), (0, .ref a_p0), (1, .int p1)]) hx hb dX5_succeeds_5 rfl hl (by decide) rfl (fun ls hl => ?_)
  refine lv_iload_n hx hb dX5_succeeds_6 rfl (lv_at hl 2 rfl) ?_
  refine lv_bipush (v := 10) hx hb dX5_succeeds_7 (by decide) ?_
  refine lv_irem hx hb dX5_succeeds_9 (by decide) ?_
  refine lv_istore_n (lv' := [(3, .int (p1 - p1 / 10 * 10)), (2, .int (p1 / 1000)), (0, .ref a_p0), (1, .int p1)]) hx hb dX5_succeeds_10 rfl hl (by decide) rfl (fun ls hl => ?_)
  refine lv_iload_n hx hb dX5_succeeds_11 rfl (lv_at hl 1 rfl) ?_
  by_cases c1 : (p1 / 1000) = 1
  · replace h := it_pos c1 h
    refine lv_tableIn (tgt := 60) hx hb dX5_succeeds_12 (by rw [c1]; decide) (by rw [c1]; decide) (by rw [c1]; rfl) (by decide) ?_
    refine lv_iload_n hx hb dX5_succeeds_60 rfl (lv_at hl 0 rfl) ?_
    refine lv_if_ne (tgt := 82) hx hb dX5_succeeds_61 (by decide) (fun c2 => ?_) (fun c2 => ?_)
    · replace h := it_neg c2 h
      refine lv_iconst (v := 0) hx hb dX5_succeeds_82 (by decide) ?_
      cases h
      exact W.zret (ty := .boolean) (v := b2i false) hx hb hr (b2i_nar _) (fun t ht hW => ⟨⟨_, _, rfl, ⟨rfl, hc_p0, hc_p0_before0, hc_p0_before1, (fun _ _ h9 _ _ _ => h9)⟩, by show MW z D _ t.heap; rw [ht]; exact hM⟩, hS.F ht⟩) hS.2.2 dX5_succeeds_83 hlocks
    · replace h := it_pos c2 h
      refine lv_aload_n hx hb dX5_succeeds_64 rfl (lv_at hl 2 rfl) ?_
      refine lv_iload_n hx hb dX5_succeeds_65 rfl (lv_at hl 3 rfl) ?_
      refine lv_bipush (v := 10) hx hb dX5_succeeds_66 (by decide) ?_
      refine lv_idiv hx hb dX5_succeeds_68 (by decide) ?_
      refine lv_bipush (v := 100) hx hb dX5_succeeds_69 (by decide) ?_
      refine lv_irem hx hb dX5_succeeds_71 (by decide) ?_
      obtain ⟨r3, hr3, h⟩ := ob_some h
      refine mw_wi (mw_runV (As := [.int ((p1 / 10) - (p1 / 10) / 100 * 100)]) (rest := []) (ci := 0) (C := RX0) (T := TX0) (N := 11) hC hM hS hc_p0 rfl (c_X0_layIfAllowed (a_t := a_p0) (a_t_before0 := a_p0_before0) (a_t_before1 := a_p0_before1) (a_t_grid := a_p0_grid) (w_t := w_p0) (f_t_before0 := f_p0_before0) (f_t_before1 := f_p0_before1) (w_t_grid := w_p0_grid) (p0 := ((p1 / 10) - (p1 / 10) / 100 * 100)) (hc_t := hc_p0) (hc_t_before0 := hc_p0_before0) (hc_t_before1 := hc_p0_before1) (hc_t_grid := hc_p0_grid) (n_t_t_before0 := n_p0_p0_before0) (n_t_t_before1 := n_p0_p0_before1) (n_t_before0_t_before1 := n_p0_before0_p0_before1) (v := r3) hr3) gX5_succeeds_X0_layIfAllowed rfl rfl rfl rfl q_X0_layIfAllowed ⟨Nat.le_of_ble_eq_true rfl, Nat.le_of_ble_eq_true rfl⟩ rfl rfl (Nat.le_of_ble_eq_true rfl) hl.1 dX5_succeeds_72 ⟨Nat.le_of_ble_eq_true rfl, Nat.le_of_ble_eq_true rfl⟩) hS (fun r9 H locs σ1 hp5 hM hS => ?_)
      obtain ⟨rfl, hc_p0, hc_p0_before0, hc_p0_before1, ho4⟩ := hp5
      have hf6 := fun (q : Nat) (f : va_E) (hf : σ q = some f) (n0 : q ≠ a_p0) (n1 : q ≠ a_p0_before0) (n2 : q ≠ a_p0_before1) => ho4 q f hf n0 n1 n2
      refine lv_if_eq (tgt := 82) hx hb dX5_succeeds_75 (by decide) (fun c7 => ?_) (fun c7 => ?_)
      · replace c7 := b2i_eq0.mp c7
        replace h := it_neg c7 h
        refine lv_iconst (v := 0) hx hb dX5_succeeds_82 (by decide) ?_
        cases h
        exact W.zret (ty := .boolean) (v := b2i false) hx hb hr (b2i_nar _) (fun t ht hW => ⟨⟨_, _, rfl, ⟨rfl, hc_p0, hc_p0_before0, hc_p0_before1, hf6⟩, by show MW z D _ t.heap; rw [ht]; exact hM⟩, hS.F ht⟩) hS.2.2 dX5_succeeds_83 hlocks
      · replace c7 := b2i_ne0.mp c7
        replace h := it_pos c7 h
        refine lv_iconst (v := 1) hx hb dX5_succeeds_78 (by decide) ?_
        refine lv_goto (tgt := 83) hx hb dX5_succeeds_79 (by decide) ?_
        cases h
        exact W.zret (ty := .boolean) (v := b2i true) hx hb hr (b2i_nar _) (fun t ht hW => ⟨⟨_, _, rfl, ⟨rfl, hc_p0, hc_p0_before0, hc_p0_before1, hf6⟩, by show MW z D _ t.heap; rw [ht]; exact hM⟩, hS.F ht⟩) hS.2.2 dX5_succeeds_83 hlocks
  replace h := it_neg c1 h
  by_cases c8 : (p1 / 1000) = 2
  · replace h := it_pos c8 h
    refine lv_tableIn (tgt := 84) hx hb dX5_succeeds_12 (by rw [c8]; decide) (by rw [c8]; decide) (by rw [c8]; rfl) (by decide) ?_
    refine lv_iload_n hx hb dX5_succeeds_84 rfl (lv_at hl 3 rfl) ?_
    refine lv_sipush (v := 2000) hx hb dX5_succeeds_85 (by decide) ?_
    refine lv_icmp_ne (tgt := 102) hx hb dX5_succeeds_88 (by decide) (fun c9 => ?_) (fun c9 => ?_)
    · replace h := it_neg c9 h
      refine lv_iconst (v := 0) hx hb dX5_succeeds_102 (by decide) ?_
      cases h
      exact W.zret (ty := .boolean) (v := b2i false) hx hb hr (b2i_nar _) (fun t ht hW => ⟨⟨_, _, rfl, ⟨rfl, hc_p0, hc_p0_before0, hc_p0_before1, (fun _ _ h9 _ _ _ => h9)⟩, by show MW z D _ t.heap; rw [ht]; exact hM⟩, hS.F ht⟩) hS.2.2 dX5_succeeds_103 hlocks
    · replace h := it_pos c9 h
      refine lv_aload_n hx hb dX5_succeeds_91 rfl (lv_at hl 2 rfl) ?_
      obtain ⟨r10, hr10, h⟩ := ob_some h
      refine mw_wi (mw_runV (As := []) (rest := []) (ci := 0) (C := RX0) (T := TX0) (N := 11) hC hM hS hc_p0 rfl (c_X0_passIfAllowed (a_t := a_p0) (a_t_before0 := a_p0_before0) (a_t_before1 := a_p0_before1) (a_t_grid := a_p0_grid) (w_t := w_p0) (f_t_before0 := f_p0_before0) (f_t_before1 := f_p0_before1) (hc_t := hc_p0) (hc_t_before0 := hc_p0_before0) (hc_t_before1 := hc_p0_before1) (n_t_t_before0 := n_p0_p0_before0) (n_t_t_before1 := n_p0_p0_before1) (n_t_before0_t_before1 := n_p0_before0_p0_before1) (v := r10) hr10) gX5_succeeds_X0_passIfAllowed rfl rfl rfl rfl q_X0_passIfAllowed ⟨Nat.le_of_ble_eq_true rfl, Nat.le_of_ble_eq_true rfl⟩ rfl rfl (Nat.le_of_ble_eq_true rfl) hl.1 dX5_succeeds_92 ⟨Nat.le_of_ble_eq_true rfl, Nat.le_of_ble_eq_true rfl⟩) hS (fun r9 H locs σ1 hp12 hM hS => ?_)
      obtain ⟨rfl, hc_p0, hc_p0_before0, hc_p0_before1, ho11⟩ := hp12
      have hf13 := fun (q : Nat) (f : va_E) (hf : σ q = some f) (n0 : q ≠ a_p0) (n1 : q ≠ a_p0_before0) (n2 : q ≠ a_p0_before1) => ho11 q f hf n0 n1 n2
      refine lv_if_eq (tgt := 102) hx hb dX5_succeeds_95 (by decide) (fun c14 => ?_) (fun c14 => ?_)
      · replace c14 := b2i_eq0.mp c14
        replace h := it_neg c14 h
        refine lv_iconst (v := 0) hx hb dX5_succeeds_102 (by decide) ?_
        cases h
        exact W.zret (ty := .boolean) (v := b2i false) hx hb hr (b2i_nar _) (fun t ht hW => ⟨⟨_, _, rfl, ⟨rfl, hc_p0, hc_p0_before0, hc_p0_before1, hf13⟩, by show MW z D _ t.heap; rw [ht]; exact hM⟩, hS.F ht⟩) hS.2.2 dX5_succeeds_103 hlocks
      · replace c14 := b2i_ne0.mp c14
        replace h := it_pos c14 h
        refine lv_iconst (v := 1) hx hb dX5_succeeds_98 (by decide) ?_
        refine lv_goto (tgt := 103) hx hb dX5_succeeds_99 (by decide) ?_
        cases h
        exact W.zret (ty := .boolean) (v := b2i true) hx hb hr (b2i_nar _) (fun t ht hW => ⟨⟨_, _, rfl, ⟨rfl, hc_p0, hc_p0_before0, hc_p0_before1, hf13⟩, by show MW z D _ t.heap; rw [ht]; exact hM⟩, hS.F ht⟩) hS.2.2 dX5_succeeds_103 hlocks
  replace h := it_neg c8 h
  by_cases c15 : (p1 / 1000) = 3
  · replace h := it_pos c15 h
    refine lv_tableIn (tgt := 121) hx hb dX5_succeeds_12 (by rw [c15]; decide) (by rw [c15]; decide) (by rw [c15]; rfl) (by decide) ?_
    refine lv_aload_n hx hb dX5_succeeds_121 rfl (lv_at hl 2 rfl) ?_
    refine lv_iload_n hx hb dX5_succeeds_122 rfl (lv_at hl 1 rfl) ?_
    refine lv_iload_n hx hb dX5_succeeds_123 rfl (lv_at hl 3 rfl) ?_
    refine lv_bipush (v := 10) hx hb dX5_succeeds_124 (by decide) ?_
    refine lv_idiv hx hb dX5_succeeds_126 (by decide) ?_
    refine lv_bipush (v := 100) hx hb dX5_succeeds_127 (by decide) ?_
    refine lv_irem hx hb dX5_succeeds_129 (by decide) ?_
    refine lv_iload_n hx hb dX5_succeeds_130 rfl (lv_at hl 0 rfl) ?_
    obtain ⟨r16, hr16, h⟩ := ob_some h
    refine mw_ci (mw_runS (As := [.ref a_p0, .int (p1 / 1000), .int ((p1 / 10) - (p1 / 10) / 100 * 100), .int (p1 - p1 / 10 * 10)]) (rest := []) hC hM hS (c_X5_holdsForPoint (a_p0 := a_p0) (a_p0_before0 := a_p0_before0) (a_p0_before1 := a_p0_before1) (a_p0_grid := a_p0_grid) (w_p0 := w_p0) (f_p0_before0 := f_p0_before0) (f_p0_before1 := f_p0_before1) (w_p0_grid := w_p0_grid) (p1 := (p1 / 1000)) (p2 := ((p1 / 10) - (p1 / 10) / 100 * 100)) (p3 := (p1 - p1 / 10 * 10)) (hc_p0 := hc_p0) (hc_p0_before0 := hc_p0_before0) (hc_p0_before1 := hc_p0_before1) (hc_p0_grid := hc_p0_grid) (v := r16) hr16) gX5_succeeds_X5_holdsForPoint rfl rfl rfl q_X5_holdsForPoint ⟨Nat.le_of_ble_eq_true rfl, Nat.le_of_ble_eq_true rfl⟩ rfl rfl (Nat.le_of_ble_eq_true rfl) hl.1 dX5_succeeds_131 ⟨Nat.le_of_ble_eq_true rfl, Nat.le_of_ble_eq_true rfl⟩) ?_
    cases h
    exact W.zret (ty := .boolean) (v := b2i r16) hx hb hr (b2i_nar _) (fun t ht hW => ⟨⟨_, _, rfl, ⟨rfl, hc_p0, hc_p0_before0, hc_p0_before1, (fun _ _ h9 _ _ _ => h9)⟩, by show MW z D _ t.heap; rw [ht]; exact hM⟩, hS.F ht⟩) hS.2.2 dX5_succeeds_134 hlocks
  replace h := it_neg c15 h
  by_cases c17 : (p1 / 1000) = 4
  · replace h := it_pos c17 h
    refine lv_tableIn (tgt := 121) hx hb dX5_succeeds_12 (by rw [c17]; decide) (by rw [c17]; decide) (by rw [c17]; rfl) (by decide) ?_
    refine lv_aload_n hx hb dX5_succeeds_121 rfl (lv_at hl 2 rfl) ?_
    refine lv_iload_n hx hb dX5_succeeds_122 rfl (lv_at hl 1 rfl) ?_
    refine lv_iload_n hx hb dX5_succeeds_123 rfl (lv_at hl 3 rfl) ?_
    refine lv_bipush (v := 10) hx hb dX5_succeeds_124 (by decide) ?_
    refine lv_idiv hx hb dX5_succeeds_126 (by decide) ?_
    refine lv_bipush (v := 100) hx hb dX5_succeeds_127 (by decide) ?_
    refine lv_irem hx hb dX5_succeeds_129 (by decide) ?_
    refine lv_iload_n hx hb dX5_succeeds_130 rfl (lv_at hl 0 rfl) ?_
    obtain ⟨r18, hr18, h⟩ := ob_some h
    refine mw_ci (mw_runS (As := [.ref a_p0, .int (p1 / 1000), .int ((p1 / 10) - (p1 / 10) / 100 * 100), .int (p1 - p1 / 10 * 10)]) (rest := []) hC hM hS (c_X5_holdsForPoint (a_p0 := a_p0) (a_p0_before0 := a_p0_before0) (a_p0_before1 := a_p0_before1) (a_p0_grid := a_p0_grid) (w_p0 := w_p0) (f_p0_before0 := f_p0_before0) (f_p0_before1 := f_p0_before1) (w_p0_grid := w_p0_grid) (p1 := (p1 / 1000)) (p2 := ((p1 / 10) - (p1 / 10) / 100 * 100)) (p3 := (p1 - p1 / 10 * 10)) (hc_p0 := hc_p0) (hc_p0_before0 := hc_p0_before0) (hc_p0_before1 := hc_p0_before1) (hc_p0_grid := hc_p0_grid) (v := r18) hr18) gX5_succeeds_X5_holdsForPoint rfl rfl rfl q_X5_holdsForPoint ⟨Nat.le_of_ble_eq_true rfl, Nat.le_of_ble_eq_true rfl⟩ rfl rfl (Nat.le_of_ble_eq_true rfl) hl.1 dX5_succeeds_131 ⟨Nat.le_of_ble_eq_true rfl, Nat.le_of_ble_eq_true rfl⟩) ?_
    cases h
    exact W.zret (ty := .boolean) (v := b2i r18) hx hb hr (b2i_nar _) (fun t ht hW => ⟨⟨_, _, rfl, ⟨rfl, hc_p0, hc_p0_before0, hc_p0_before1, (fun _ _ h9 _ _ _ => h9)⟩, by show MW z D _ t.heap; rw [ht]; exact hM⟩, hS.F ht⟩) hS.2.2 dX5_succeeds_134 hlocks
  replace h := it_neg c17 h
  by_cases c19 : (p1 / 1000) = 5
  · replace h := it_pos c19 h
    refine lv_tableIn (tgt := 121) hx hb dX5_succeeds_12 (by rw [c19]; decide) (by rw [c19]; decide) (by rw [c19]; rfl) (by decide) ?_
    refine lv_aload_n hx hb dX5_succeeds_121 rfl (lv_at hl 2 rfl) ?_
    refine lv_iload_n hx hb dX5_succeeds_122 rfl (lv_at hl 1 rfl) ?_
    refine lv_iload_n hx hb dX5_succeeds_123 rfl (lv_at hl 3 rfl) ?_
    refine lv_bipush (v := 10) hx hb dX5_succeeds_124 (by decide) ?_
    refine lv_idiv hx hb dX5_succeeds_126 (by decide) ?_
    refine lv_bipush (v := 100) hx hb dX5_succeeds_127 (by decide) ?_
    refine lv_irem hx hb dX5_succeeds_129 (by decide) ?_
    refine lv_iload_n hx hb dX5_succeeds_130 rfl (lv_at hl 0 rfl) ?_
    obtain ⟨r20, hr20, h⟩ := ob_some h
    refine mw_ci (mw_runS (As := [.ref a_p0, .int (p1 / 1000), .int ((p1 / 10) - (p1 / 10) / 100 * 100), .int (p1 - p1 / 10 * 10)]) (rest := []) hC hM hS (c_X5_holdsForPoint (a_p0 := a_p0) (a_p0_before0 := a_p0_before0) (a_p0_before1 := a_p0_before1) (a_p0_grid := a_p0_grid) (w_p0 := w_p0) (f_p0_before0 := f_p0_before0) (f_p0_before1 := f_p0_before1) (w_p0_grid := w_p0_grid) (p1 := (p1 / 1000)) (p2 := ((p1 / 10) - (p1 / 10) / 100 * 100)) (p3 := (p1 - p1 / 10 * 10)) (hc_p0 := hc_p0) (hc_p0_before0 := hc_p0_before0) (hc_p0_before1 := hc_p0_before1) (hc_p0_grid := hc_p0_grid) (v := r20) hr20) gX5_succeeds_X5_holdsForPoint rfl rfl rfl q_X5_holdsForPoint ⟨Nat.le_of_ble_eq_true rfl, Nat.le_of_ble_eq_true rfl⟩ rfl rfl (Nat.le_of_ble_eq_true rfl) hl.1 dX5_succeeds_131 ⟨Nat.le_of_ble_eq_true rfl, Nat.le_of_ble_eq_true rfl⟩) ?_
    cases h
    exact W.zret (ty := .boolean) (v := b2i r20) hx hb hr (b2i_nar _) (fun t ht hW => ⟨⟨_, _, rfl, ⟨rfl, hc_p0, hc_p0_before0, hc_p0_before1, (fun _ _ h9 _ _ _ => h9)⟩, by show MW z D _ t.heap; rw [ht]; exact hM⟩, hS.F ht⟩) hS.2.2 dX5_succeeds_134 hlocks
  replace h := it_neg c19 h
  by_cases c21 : (p1 / 1000) = 6
  · replace h := it_pos c21 h
    refine lv_tableIn (tgt := 104) hx hb dX5_succeeds_12 (by rw [c21]; decide) (by rw [c21]; decide) (by rw [c21]; rfl) (by decide) ?_
    refine lv_aload_n hx hb dX5_succeeds_104 rfl (lv_at hl 2 rfl) ?_
    refine lv_iload_n hx hb dX5_succeeds_105 rfl (lv_at hl 1 rfl) ?_
    refine lv_iload_n hx hb dX5_succeeds_106 rfl (lv_at hl 3 rfl) ?_
    refine lv_bipush (v := 100) hx hb dX5_succeeds_107 (by decide) ?_
    refine lv_idiv hx hb dX5_succeeds_109 (by decide) ?_
    refine lv_bipush (v := 10) hx hb dX5_succeeds_110 (by decide) ?_
    refine lv_irem hx hb dX5_succeeds_112 (by decide) ?_
    refine lv_iload_n hx hb dX5_succeeds_113 rfl (lv_at hl 3 rfl) ?_
    refine lv_bipush (v := 100) hx hb dX5_succeeds_114 (by decide) ?_
    refine lv_irem hx hb dX5_succeeds_116 (by decide) ?_
    obtain ⟨r22, hr22, h⟩ := ob_some h
    refine mw_ci (mw_runS (As := [.ref a_p0, .int (p1 / 1000), .int ((p1 / 100) - (p1 / 100) / 10 * 10), .int (p1 - p1 / 100 * 100)]) (rest := []) hC hM hS (c_X5_holdsForColour (a_p0 := a_p0) (a_p0_before0 := a_p0_before0) (a_p0_before1 := a_p0_before1) (a_p0_grid := a_p0_grid) (w_p0 := w_p0) (w_p0_grid := w_p0_grid) (p1 := (p1 / 1000)) (p2 := ((p1 / 100) - (p1 / 100) / 10 * 10)) (p3 := (p1 - p1 / 100 * 100)) (hc_p0 := hc_p0) (hc_p0_grid := hc_p0_grid) (v := r22) hr22) gX5_succeeds_X5_holdsForColour rfl rfl rfl q_X5_holdsForColour ⟨Nat.le_of_ble_eq_true rfl, Nat.le_of_ble_eq_true rfl⟩ rfl rfl (Nat.le_of_ble_eq_true rfl) hl.1 dX5_succeeds_117 ⟨Nat.le_of_ble_eq_true rfl, Nat.le_of_ble_eq_true rfl⟩) ?_
    cases h
    exact W.zret (ty := .boolean) (v := b2i r22) hx hb hr (b2i_nar _) (fun t ht hW => ⟨⟨_, _, rfl, ⟨rfl, hc_p0, hc_p0_before0, hc_p0_before1, (fun _ _ h9 _ _ _ => h9)⟩, by show MW z D _ t.heap; rw [ht]; exact hM⟩, hS.F ht⟩) hS.2.2 dX5_succeeds_120 hlocks
  replace h := it_neg c21 h
  by_cases c23 : (p1 / 1000) = 7
  · replace h := it_pos c23 h
    refine lv_tableIn (tgt := 121) hx hb dX5_succeeds_12 (by rw [c23]; decide) (by rw [c23]; decide) (by rw [c23]; rfl) (by decide) ?_
    refine lv_aload_n hx hb dX5_succeeds_121 rfl (lv_at hl 2 rfl) ?_
    refine lv_iload_n hx hb dX5_succeeds_122 rfl (lv_at hl 1 rfl) ?_
    refine lv_iload_n hx hb dX5_succeeds_123 rfl (lv_at hl 3 rfl) ?_
    refine lv_bipush (v := 10) hx hb dX5_succeeds_124 (by decide) ?_
    refine lv_idiv hx hb dX5_succeeds_126 (by decide) ?_
    refine lv_bipush (v := 100) hx hb dX5_succeeds_127 (by decide) ?_
    refine lv_irem hx hb dX5_succeeds_129 (by decide) ?_
    refine lv_iload_n hx hb dX5_succeeds_130 rfl (lv_at hl 0 rfl) ?_
    obtain ⟨r24, hr24, h⟩ := ob_some h
    refine mw_ci (mw_runS (As := [.ref a_p0, .int (p1 / 1000), .int ((p1 / 10) - (p1 / 10) / 100 * 100), .int (p1 - p1 / 10 * 10)]) (rest := []) hC hM hS (c_X5_holdsForPoint (a_p0 := a_p0) (a_p0_before0 := a_p0_before0) (a_p0_before1 := a_p0_before1) (a_p0_grid := a_p0_grid) (w_p0 := w_p0) (f_p0_before0 := f_p0_before0) (f_p0_before1 := f_p0_before1) (w_p0_grid := w_p0_grid) (p1 := (p1 / 1000)) (p2 := ((p1 / 10) - (p1 / 10) / 100 * 100)) (p3 := (p1 - p1 / 10 * 10)) (hc_p0 := hc_p0) (hc_p0_before0 := hc_p0_before0) (hc_p0_before1 := hc_p0_before1) (hc_p0_grid := hc_p0_grid) (v := r24) hr24) gX5_succeeds_X5_holdsForPoint rfl rfl rfl q_X5_holdsForPoint ⟨Nat.le_of_ble_eq_true rfl, Nat.le_of_ble_eq_true rfl⟩ rfl rfl (Nat.le_of_ble_eq_true rfl) hl.1 dX5_succeeds_131 ⟨Nat.le_of_ble_eq_true rfl, Nat.le_of_ble_eq_true rfl⟩) ?_
    cases h
    exact W.zret (ty := .boolean) (v := b2i r24) hx hb hr (b2i_nar _) (fun t ht hW => ⟨⟨_, _, rfl, ⟨rfl, hc_p0, hc_p0_before0, hc_p0_before1, (fun _ _ h9 _ _ _ => h9)⟩, by show MW z D _ t.heap; rw [ht]; exact hM⟩, hS.F ht⟩) hS.2.2 dX5_succeeds_134 hlocks
  replace h := it_neg c23 h
  by_cases c25 : (p1 / 1000) = 8
  · replace h := it_pos c25 h
    refine lv_tableIn (tgt := 104) hx hb dX5_succeeds_12 (by rw [c25]; decide) (by rw [c25]; decide) (by rw [c25]; rfl) (by decide) ?_
    refine lv_aload_n hx hb dX5_succeeds_104 rfl (lv_at hl 2 rfl) ?_
    refine lv_iload_n hx hb dX5_succeeds_105 rfl (lv_at hl 1 rfl) ?_
    refine lv_iload_n hx hb dX5_succeeds_106 rfl (lv_at hl 3 rfl) ?_
    refine lv_bipush (v := 100) hx hb dX5_succeeds_107 (by decide) ?_
    refine lv_idiv hx hb dX5_succeeds_109 (by decide) ?_
    refine lv_bipush (v := 10) hx hb dX5_succeeds_110 (by decide) ?_
    refine lv_irem hx hb dX5_succeeds_112 (by decide) ?_
    refine lv_iload_n hx hb dX5_succeeds_113 rfl (lv_at hl 3 rfl) ?_
    refine lv_bipush (v := 100) hx hb dX5_succeeds_114 (by decide) ?_
    refine lv_irem hx hb dX5_succeeds_116 (by decide) ?_
    obtain ⟨r26, hr26, h⟩ := ob_some h
    refine mw_ci (mw_runS (As := [.ref a_p0, .int (p1 / 1000), .int ((p1 / 100) - (p1 / 100) / 10 * 10), .int (p1 - p1 / 100 * 100)]) (rest := []) hC hM hS (c_X5_holdsForColour (a_p0 := a_p0) (a_p0_before0 := a_p0_before0) (a_p0_before1 := a_p0_before1) (a_p0_grid := a_p0_grid) (w_p0 := w_p0) (w_p0_grid := w_p0_grid) (p1 := (p1 / 1000)) (p2 := ((p1 / 100) - (p1 / 100) / 10 * 10)) (p3 := (p1 - p1 / 100 * 100)) (hc_p0 := hc_p0) (hc_p0_grid := hc_p0_grid) (v := r26) hr26) gX5_succeeds_X5_holdsForColour rfl rfl rfl q_X5_holdsForColour ⟨Nat.le_of_ble_eq_true rfl, Nat.le_of_ble_eq_true rfl⟩ rfl rfl (Nat.le_of_ble_eq_true rfl) hl.1 dX5_succeeds_117 ⟨Nat.le_of_ble_eq_true rfl, Nat.le_of_ble_eq_true rfl⟩) ?_
    cases h
    exact W.zret (ty := .boolean) (v := b2i r26) hx hb hr (b2i_nar _) (fun t ht hW => ⟨⟨_, _, rfl, ⟨rfl, hc_p0, hc_p0_before0, hc_p0_before1, (fun _ _ h9 _ _ _ => h9)⟩, by show MW z D _ t.heap; rw [ht]; exact hM⟩, hS.F ht⟩) hS.2.2 dX5_succeeds_120 hlocks
  replace h := it_neg c25 h
  refine lv_tableOut (tgt := 121) hx hb dX5_succeeds_12 (by have t0 := lv_neT (a := 1) c1 rfl; have t1 := lv_neT (a := 2) c8 rfl; have t2 := lv_neT (a := 3) c15 rfl; have t3 := lv_neT (a := 4) c17 rfl; have t4 := lv_neT (a := 5) c19 rfl; have t5 := lv_neT (a := 6) c21 rfl; have t6 := lv_neT (a := 7) c23 rfl; have t7 := lv_neT (a := 8) c25 rfl; omega) (by decide) ?_
  refine lv_aload_n hx hb dX5_succeeds_121 rfl (lv_at hl 2 rfl) ?_
  refine lv_iload_n hx hb dX5_succeeds_122 rfl (lv_at hl 1 rfl) ?_
  refine lv_iload_n hx hb dX5_succeeds_123 rfl (lv_at hl 3 rfl) ?_
  refine lv_bipush (v := 10) hx hb dX5_succeeds_124 (by decide) ?_
  refine lv_idiv hx hb dX5_succeeds_126 (by decide) ?_
  refine lv_bipush (v := 100) hx hb dX5_succeeds_127 (by decide) ?_
  refine lv_irem hx hb dX5_succeeds_129 (by decide) ?_
  refine lv_iload_n hx hb dX5_succeeds_130 rfl (lv_at hl 0 rfl) ?_
  obtain ⟨r27, hr27, h⟩ := ob_some h
  refine mw_ci (mw_runS (As := [.ref a_p0, .int (p1 / 1000), .int ((p1 / 10) - (p1 / 10) / 100 * 100), .int (p1 - p1 / 10 * 10)]) (rest := []) hC hM hS (c_X5_holdsForPoint (a_p0 := a_p0) (a_p0_before0 := a_p0_before0) (a_p0_before1 := a_p0_before1) (a_p0_grid := a_p0_grid) (w_p0 := w_p0) (f_p0_before0 := f_p0_before0) (f_p0_before1 := f_p0_before1) (w_p0_grid := w_p0_grid) (p1 := (p1 / 1000)) (p2 := ((p1 / 10) - (p1 / 10) / 100 * 100)) (p3 := (p1 - p1 / 10 * 10)) (hc_p0 := hc_p0) (hc_p0_before0 := hc_p0_before0) (hc_p0_before1 := hc_p0_before1) (hc_p0_grid := hc_p0_grid) (v := r27) hr27) gX5_succeeds_X5_holdsForPoint rfl rfl rfl q_X5_holdsForPoint ⟨Nat.le_of_ble_eq_true rfl, Nat.le_of_ble_eq_true rfl⟩ rfl rfl (Nat.le_of_ble_eq_true rfl) hl.1 dX5_succeeds_131 ⟨Nat.le_of_ble_eq_true rfl, Nat.le_of_ble_eq_true rfl⟩) ?_
  cases h
  exact W.zret (ty := .boolean) (v := b2i r27) hx hb hr (b2i_nar _) (fun t ht hW => ⟨⟨_, _, rfl, ⟨rfl, hc_p0, hc_p0_before0, hc_p0_before1, (fun _ _ h9 _ _ _ => h9)⟩, by show MW z D _ t.heap; rw [ht]; exact hM⟩, hS.F ht⟩) hS.2.2 dX5_succeeds_134 hlocks
