theorem l_law_k : Cond.constant RL 192 (100000) ∈ wsL_law := List.mem_of_getElem? (i := 20) rfl
set_option maxHeartbeats 8000000 in
set_option maxRecDepth 100000 in
theorem law_loop {p : Program} {l : Launch} {e : Env} {s : State} {m : MethodId} {below : List Frame} {meth : Method} {c : Code} {D : va_G} {K : Nat → ClassId} {b L : Nat} {xs : Nat → Int32} {Q : State → Prop} {a1 a2 : Nat → Nat} {N : Nat} (hN : N ≤ 36) (hC : CF p m c cL_law 8 s #[Value.ref b] wsL_law RL s.heap.size D K) (hX : SX s.heap.size s) (hlt : l.stackTraces = false) (hxs : va_X b L xs s s.heap) (hbl : b < s.heap.size) (hap : apt a1 a2) (hL : L < 2147483648) (kend : ∀ (H1 : Heap) (ls1 : Array Slot), W p l e room_1 s m #[Value.ref b] below meth c H1 [] 670553 7089809 Q (F0 m 186 ls1 [.int 1])) : ∀ (n k cells slots : Nat) (H : Heap) (locs : List Loc) (σ : mwm) (t : OSt) (ls : Array Slot), k + n = N → cells + 1390 * n ≤ 670553 → slots + 8340 * n ≤ 7089809 → OB K a1 σ t → OB K a2 σ t → INV t → MW s.heap.size D σ H → va_S (zA s.heap.size) s.heap H locs → lv_has ls 8 [(0, .ref b), (1, .ref (a1 0)), (2, .ref (a2 0)), (3, .int (nI N)), (4, .int 1), (5, .int (nI k))] → W p l e room_1 s m #[Value.ref b] below meth c H locs cells slots Q (F0 m 34 ls []) := by
  have hx := hC.1.1
  have hb := hC.1.2.1
  have hown := hC.1.2.2.2.1
  have hts := hC.1.2.2.2.2
  have hbA : ¬ zA s.heap.size b := Nat.not_le.mpr hbl
  intro n
  induction n with
  | zero =>
    intro k cells slots H locs σ t ls hk hc hs hO1 hO2 hI hM hS hl
    refine lv_iload hx hb dL_law_34 (lv_at hl 5 rfl) ?_
    refine lv_iload_n hx hb dL_law_36 rfl (lv_at hl 3 rfl) ?_
    refine lv_icmp_ge (tgt := 184) hx hb dL_law_37 (by decide) (fun q => ?_) (fun q => ?_)
    · refine lv_iload hx hb dL_law_184 (lv_at hl 4 rfl) ?_
      exact va_forget (hS.2.2) (W.widen (k := 670553) (n := 7089809) (by omega) (by omega) (kend H ls))
    · exact absurd ((nI_le_iff (a := N) (b := k) (by omega) (by omega)).mpr (by omega)) q
  | succ n ih =>
    intro k cells slots H locs σ t ls hk hc hs hO1 hO2 hI hM hS hl
    refine lv_iload hx hb dL_law_34 (lv_at hl 5 rfl) ?_
    refine lv_iload_n hx hb dL_law_36 rfl (lv_at hl 3 rfl) ?_
    refine lv_icmp_ge (tgt := 184) hx hb dL_law_37 (by decide) (fun q => ?_) (fun q => ?_)
    · exact absurd ((nI_le_iff (a := N) (b := k) (by omega) (by omega)).mp q) (by omega)
    refine lv_iload hx hb dL_law_40 (lv_at hl 4 rfl) ?_
    refine lv_if_eq (tgt := 184) hx hb dL_law_42 (by decide) (fun q => absurd q (by decide)) (fun _ => ?_)
    refine lv_aload_n hx hb dL_law_45 rfl (lv_at hl 0 rfl) ?_
    refine lv_iconst (v := 1) hx hb dL_law_46 (by decide) ?_
    refine lv_iload hx hb dL_law_47 (lv_at hl 5 rfl) ?_
    refine lv_iadd hx hb dL_law_49 ?_
    rw [show (1 : Int32) + nI k = nI (1 + k) from nI_add 1 k]
    refine mw_cell (b := b) (L := L) (xs := xs) (j := 1 + k) (rest := []) (by omega) hL hC hxs hbl hbA hS gL_law_L_cell ⟨(Nat.le_of_ble_eq_true rfl), (Nat.le_of_ble_eq_true rfl)⟩ (Nat.le_of_ble_eq_true rfl) hl.1 dL_law_50 ⟨(show cells + 0 ≤ 670553 by omega), (show slots + 0 ≤ 7089809 by omega)⟩ (fun x hx31 => ?_)
    refine lv_istore hx hb dL_law_53 hl (by decide) rfl (fun ls hl => ?_)
    have hmod : ∀ d, 0 < d → d < 2147483648 → nI x - nI x / nI d * nI d = nI (x % d) := fun d _ hd => nI_mod hx31 hd
    refine lv_aload_n hx hb dL_law_55 rfl (lv_at hl 2 rfl) ?_
    refine lv_iload hx hb dL_law_56 (lv_at hl 0 rfl) ?_
    obtain ⟨r, t1, ha, hI1⟩ := act_ok hI (nI x)
    refine mw_wi (my_runS (As := [.ref (a1 0), .int (nI x)]) (rest := []) hC hX hM hS (c_L_act (ad_p0 := a1) (s_p0 := t) (hO_p0 := hO1) (hlt := hlt) (v := (r, t1)) ha) gL_law_L_act rfl rfl rfl q_L_act ⟨(Nat.le_of_ble_eq_true rfl), (Nat.le_of_ble_eq_true rfl)⟩ rfl rfl (Nat.le_of_ble_eq_true rfl) hl.1 dL_law_58 ⟨(show cells + 4 ≤ 670553 by omega), (show slots + 24 ≤ 7089809 by omega)⟩) hS (fun r9 H locs σ1 hp hM hS => ?_)
    obtain ⟨er, hO1', hke⟩ := hp
    replace hO2 := OB.keep hO2 hO1 hap hke
    replace er : r9 = r := er
    replace hO1' : OB K a1 σ1 t1 := hO1'
    subst er
    refine lv_istore hx hb dL_law_61 hl (by decide) rfl (fun ls hl => ?_)
    refine lv_aload_n hx hb dL_law_63 rfl (lv_at hl 4 rfl) ?_
    refine lv_iload hx hb dL_law_64 (lv_at hl 1 rfl) ?_
    refine lv_ldc hx hb hown (hts _ l_law_k) dL_law_66 ?_
    refine lv_irem hx hb dL_law_68 (by decide) ?_
    rw [show nI x - nI x / 100000 * 100000 = nI (x % 100000) from hmod 100000 (by omega) (by omega)]
    obtain ⟨n0, rule0, mv0, ps0, pr0, c00, c10, hW⟩ := hI.nw
    refine mw_wi (my_runS (As := [.ref (a2 0), .int (nI (x % 100000))]) (rest := []) hC hX hM hS (c_L_refuses (ad_p0 := a2) (s_p0 := t) (hO_p0 := hO2) (hlt := hlt) (v := (true, t)) (refuses_ok hW (by omega))) gL_law_L_refuses rfl rfl rfl q_L_refuses ⟨(Nat.le_of_ble_eq_true rfl), (Nat.le_of_ble_eq_true rfl)⟩ rfl rfl (Nat.le_of_ble_eq_true rfl) hl.1 dL_law_69 ⟨(show cells + 4 + 24 ≤ 670553 by omega), (show slots + 24 + 144 ≤ 7089809 by omega)⟩) hS (fun r8 H locs σ2 hp hM hS => ?_)
    obtain ⟨er, hO2', hke⟩ := hp
    replace hO1' := OB.keep hO1' hO2 hap.symm hke
    replace er : r8 = 1 := er
    replace hO2' : OB K a2 σ2 t := hO2'
    subst er
    refine lv_if_eq (tgt := 175) hx hb dL_law_72 (by decide) (fun q => absurd q (by decide)) (fun _ => ?_)
    refine lv_aload_n hx hb dL_law_75 rfl (lv_at hl 4 rfl) ?_
    refine lv_iload hx hb dL_law_76 (lv_at hl 1 rfl) ?_
    refine mw_wi (my_runS (As := [.ref (a2 0), .int (nI x)]) (rest := []) hC hX hM hS (c_L_act (ad_p0 := a2) (s_p0 := t) (hO_p0 := hO2') (hlt := hlt) (v := (r9, t1)) ha) gL_law_L_act rfl rfl rfl q_L_act ⟨(Nat.le_of_ble_eq_true rfl), (Nat.le_of_ble_eq_true rfl)⟩ rfl rfl (Nat.le_of_ble_eq_true rfl) hl.1 dL_law_78 ⟨(show cells + 4 + 24 + 4 ≤ 670553 by omega), (show slots + 24 + 144 + 24 ≤ 7089809 by omega)⟩) hS (fun r7 H locs σ3 hp hM hS => ?_)
    obtain ⟨er, hO2b, hke⟩ := hp
    replace hO1' := OB.keep hO1' hO2' hap.symm hke
    replace er : r7 = r9 := er
    replace hO2b : OB K a2 σ3 t1 := hO2b
    subst er
    refine lv_iload hx hb dL_law_81 (lv_at hl 0 rfl) ?_
    refine lv_icmp_ne (tgt := 175) hx hb dL_law_83 (by decide) (fun q => absurd rfl q) (fun _ => ?_)
    refine lv_aload_n hx hb dL_law_86 rfl (lv_at hl 4 rfl) ?_
    refine lv_iload hx hb dL_law_87 (lv_at hl 1 rfl) ?_
    refine lv_sipush (v := 1000) hx hb dL_law_89 (by decide) ?_
    refine lv_irem hx hb dL_law_92 (by decide) ?_
    rw [show nI x - nI x / 1000 * 1000 = nI (x % 1000) from hmod 1000 (by omega) (by omega)]
    obtain ⟨n1, rule1, mv1, ps1, pr1, c01, c11, hW1⟩ := hI1.nw
    refine mw_wi (my_runS (As := [.ref (a2 0), .int (nI (x % 1000))]) (rest := []) hC hX hM hS (c_L_refuses (ad_p0 := a2) (s_p0 := t1) (hO_p0 := hO2b) (hlt := hlt) (v := (true, t1)) (refuses_ok hW1 (by omega))) gL_law_L_refuses rfl rfl rfl q_L_refuses ⟨(Nat.le_of_ble_eq_true rfl), (Nat.le_of_ble_eq_true rfl)⟩ rfl rfl (Nat.le_of_ble_eq_true rfl) hl.1 dL_law_93 ⟨(show cells + 4 + 24 + 4 + 24 ≤ 670553 by omega), (show slots + 24 + 144 + 24 + 144 ≤ 7089809 by omega)⟩) hS (fun r6 H locs σ4 hp hM hS => ?_)
    obtain ⟨er, hO2c, hke⟩ := hp
    replace hO1' := OB.keep hO1' hO2b hap.symm hke
    replace er : r6 = 1 := er
    replace hO2c : OB K a2 σ4 t1 := hO2c
    subst er
    refine lv_if_eq (tgt := 175) hx hb dL_law_96 (by decide) (fun q => absurd q (by decide)) (fun _ => ?_)
    refine lv_aload_n hx hb dL_law_99 rfl (lv_at hl 3 rfl) ?_
    refine lv_aload_n hx hb dL_law_100 rfl (lv_at hl 4 rfl) ?_
    refine lv_iload hx hb dL_law_101 (lv_at hl 1 rfl) ?_
    refine lv_sipush (v := 5000) hx hb dL_law_103 (by decide) ?_
    refine lv_irem hx hb dL_law_106 (by decide) ?_
    rw [show nI x - nI x / 5000 * 5000 = nI (x % 5000) from hmod 5000 (by omega) (by omega)]
    obtain ⟨t2, hal, hI2⟩ := alike_ok hI1 (x := x % 5000) (by omega)
    refine mw_wi (my_runS (As := [.ref (a1 0), .ref (a2 0), .int (nI (x % 5000))]) (rest := []) hC hX hM hS (c_L_alike (ad_p0 := a1) (ad_p1 := a2) (s_p0 := t1) (s_p1 := t1) (hO_p0 := hO1') (hO_p1 := hO2c) (hap := hap) (hlt := hlt) (v := (true, t2, t2)) hal) gL_law_L_alike rfl rfl rfl q_L_alike ⟨(Nat.le_of_ble_eq_true rfl), (Nat.le_of_ble_eq_true rfl)⟩ rfl rfl (Nat.le_of_ble_eq_true rfl) hl.1 dL_law_107 ⟨(show cells + 4 + 24 + 4 + 24 + 78 ≤ 670553 by omega), (show slots + 24 + 144 + 24 + 144 + 468 ≤ 7089809 by omega)⟩) hS (fun r5 H locs σ5 hp hM hS => ?_)
    obtain ⟨er, hP1, hP2⟩ := hp
    replace er : r5 = 1 := er
    replace hP1 : OB K a1 σ5 t2 := hP1
    replace hP2 : OB K a2 σ5 t2 := hP2
    subst er
    refine lv_if_eq (tgt := 175) hx hb dL_law_110 (by decide) (fun q => absurd q (by decide)) (fun _ => ?_)
    have J : ∀ (cells1 slots1 : Nat) (H1 : Heap) (locs1 : List Loc) (σ6 : mwm), cells1 + 39 + 1390 * n ≤ 670553 → slots1 + 234 + 8340 * n ≤ 7089809 → OB K a1 σ6 t2 → OB K a2 σ6 t2 → MW s.heap.size D σ6 H1 → va_S (zA s.heap.size) s.heap H1 locs1 → W p l e room_1 s m #[Value.ref b] below meth c H1 locs1 cells1 slots1 Q (F0 m 145 ls []) := by
      intro cells1 slots1 H1 locs1 σ6 hc1 hs1 hP1 hP2 hM hS
      refine lv_aload_n hx hb dL_law_145 rfl (lv_at hl 3 rfl) ?_
      refine lv_aload_n hx hb dL_law_146 rfl (lv_at hl 4 rfl) ?_
      refine lv_iload hx hb dL_law_147 (lv_at hl 1 rfl) ?_
      refine lv_bipush (v := 7) hx hb dL_law_149 (by decide) ?_
      refine lv_idiv hx hb dL_law_151 (by decide) ?_
      rw [show nI x / 7 = nI (x / 7) from nI_div (b := 7) hx31 (by omega)]
      obtain ⟨t3, hly, hI3⟩ := lays_ok hI2 (x := x / 7) (by omega)
      refine mw_wi (my_runS (As := [.ref (a1 0), .ref (a2 0), .int (nI (x / 7))]) (rest := []) hC hX hM hS (c_L_lays (ad_p0 := a1) (ad_p1 := a2) (s_p0 := t2) (s_p1 := t2) (hO_p0 := hP1) (hO_p1 := hP2) (hap := hap) (hlt := hlt) (v := (true, t3, t3)) hly) gL_law_L_lays rfl rfl rfl q_L_lays ⟨(Nat.le_of_ble_eq_true rfl), (Nat.le_of_ble_eq_true rfl)⟩ rfl rfl (Nat.le_of_ble_eq_true rfl) hl.1 dL_law_152 ⟨(show cells1 + 23 ≤ 670553 by omega), (show slots1 + 138 ≤ 7089809 by omega)⟩) hS (fun r4 H locs σ7 hp hM hS => ?_)
      obtain ⟨er, hP3, hP4⟩ := hp
      replace er : r4 = 1 := er
      replace hP3 : OB K a1 σ7 t3 := hP3
      replace hP4 : OB K a2 σ7 t3 := hP4
      subst er
      refine lv_if_eq (tgt := 175) hx hb dL_law_155 (by decide) (fun q => absurd q (by decide)) (fun _ => ?_)
      refine lv_aload_n hx hb dL_law_158 rfl (lv_at hl 3 rfl) ?_
      refine lv_aload_n hx hb dL_law_159 rfl (lv_at hl 4 rfl) ?_
      refine lv_iload hx hb dL_law_160 (lv_at hl 1 rfl) ?_
      refine lv_bipush (v := 11) hx hb dL_law_162 (by decide) ?_
      refine lv_idiv hx hb dL_law_164 (by decide) ?_
      rw [show nI x / 11 = nI (x / 11) from nI_div (b := 11) hx31 (by omega)]
      obtain ⟨t4, hch, hI4⟩ := chases_ok hI3 (x := x / 11) (by omega)
      refine mw_wi (my_runS (As := [.ref (a1 0), .ref (a2 0), .int (nI (x / 11))]) (rest := []) hC hX hM hS (c_L_chases (ad_p0 := a1) (ad_p1 := a2) (s_p0 := t3) (s_p1 := t3) (hO_p0 := hP3) (hO_p1 := hP4) (hap := hap) (hlt := hlt) (v := (true, t4, t4)) hch) gL_law_L_chases rfl rfl rfl q_L_chases ⟨(Nat.le_of_ble_eq_true rfl), (Nat.le_of_ble_eq_true rfl)⟩ rfl rfl (Nat.le_of_ble_eq_true rfl) hl.1 dL_law_165 ⟨(show cells1 + 23 + 16 ≤ 670553 by omega), (show slots1 + 138 + 96 ≤ 7089809 by omega)⟩) hS (fun r3 H locs σ8 hp hM hS => ?_)
      obtain ⟨er, hP5, hP6⟩ := hp
      replace er : r3 = 1 := er
      replace hP5 : OB K a1 σ8 t4 := hP5
      replace hP6 : OB K a2 σ8 t4 := hP6
      subst er
      refine lv_if_eq (tgt := 175) hx hb dL_law_168 (by decide) (fun q => absurd q (by decide)) (fun _ => ?_)
      refine lv_iconst (v := 1) hx hb dL_law_171 (by decide) ?_
      refine lv_goto (tgt := 176) hx hb dL_law_172 (by decide) ?_
      refine lv_istore hx hb dL_law_176 hl (by decide) rfl (fun ls hl => ?_)
      refine lv_iinc (k := 7) hx hb dL_law_178 hl rfl (v := nI (k + 1)) (nI_add k 1) (by decide) rfl (fun ls hl => ?_)
      refine lv_goto (tgt := 34) hx hb dL_law_181 (by decide) ?_
      exact ih (k + 1) _ _ H locs σ8 t4 ls (by omega) (by omega) (by omega) hP5 hP6 hI4 hM hS (lv_sub hl [4, 5, 6, 7, 1, 0] rfl)
    obtain ⟨n2, rule2, mv2, ps2, pr2, c02, c12, hW2⟩ := hI2.nw
    have hH := holds_ok hW2
    refine lv_iload hx hb dL_law_113 (lv_at hl 7 rfl) ?_
    refine lv_iconst (v := 4) hx hb dL_law_115 (by decide) ?_
    refine lv_irem hx hb dL_law_116 (by decide) ?_
    refine lv_if_gt (tgt := 145) hx hb dL_law_117 (by decide) (fun _ => J _ _ _ _ σ5 (by omega) (by omega) hP1 hP2 hM hS) (fun _ => ?_)
    refine lv_iload hx hb dL_law_120 (lv_at hl 7 rfl) ?_
    refine lv_bipush (v := 8) hx hb dL_law_122 (by decide) ?_
    refine lv_irem hx hb dL_law_124 (by decide) ?_
    refine lv_if_ne (tgt := 138) hx hb dL_law_125 (by decide) (fun _ => ?_) (fun _ => ?_)
    · refine lv_aload_n hx hb dL_law_138 rfl (lv_at hl 4 rfl) ?_
      refine mw_wi (my_runS (As := [.ref (a2 0)]) (rest := []) hC hX hM hS (c_L_holds (ad_p0 := a2) (s_p0 := t2) (hO_p0 := hP2) (hlt := hlt) (v := true) hH) gL_law_L_holds rfl rfl rfl q_L_holds ⟨(Nat.le_of_ble_eq_true rfl), (Nat.le_of_ble_eq_true rfl)⟩ rfl rfl (Nat.le_of_ble_eq_true rfl) hl.1 dL_law_139 ⟨(show cells + 4 + 24 + 4 + 24 + 78 + 1217 ≤ 670553 by omega), (show slots + 24 + 144 + 24 + 144 + 468 + 7302 ≤ 7089809 by omega)⟩) hS (fun r4 H locs σ6 hp hM hS => ?_)
      obtain ⟨er, hP2', hke⟩ := hp
      replace er : r4 = 1 := er
      subst er
      refine lv_if_eq (tgt := 175) hx hb dL_law_142 (by decide) (fun q => absurd q (by decide)) (fun _ => ?_)
      exact J _ _ _ _ σ6 (by omega) (by omega) (OB.keep hP1 hP2 hap.symm hke) hP2' hM hS
    · refine lv_aload_n hx hb dL_law_128 rfl (lv_at hl 3 rfl) ?_
      refine mw_wi (my_runS (As := [.ref (a1 0)]) (rest := []) hC hX hM hS (c_L_holds (ad_p0 := a1) (s_p0 := t2) (hO_p0 := hP1) (hlt := hlt) (v := true) hH) gL_law_L_holds rfl rfl rfl q_L_holds ⟨(Nat.le_of_ble_eq_true rfl), (Nat.le_of_ble_eq_true rfl)⟩ rfl rfl (Nat.le_of_ble_eq_true rfl) hl.1 dL_law_129 ⟨(show cells + 4 + 24 + 4 + 24 + 78 + 1217 ≤ 670553 by omega), (show slots + 24 + 144 + 24 + 144 + 468 + 7302 ≤ 7089809 by omega)⟩) hS (fun r4 H locs σ6 hp hM hS => ?_)
      obtain ⟨er, hP1', hke⟩ := hp
      replace er : r4 = 1 := er
      subst er
      refine lv_if_eq (tgt := 175) hx hb dL_law_132 (by decide) (fun q => absurd q (by decide)) (fun _ => ?_)
      refine lv_goto (tgt := 145) hx hb dL_law_135 (by decide) ?_
      exact J _ _ _ _ σ6 (by omega) (by omega) hP1' (OB.keep hP2 hP1 hap hke) hM hS
