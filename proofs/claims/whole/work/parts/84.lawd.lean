set_option maxHeartbeats 4000000 in
set_option maxRecDepth 100000 in
theorem lwc_3 {p : Program} {l : Launch} {e : Env} {s : State} {m : MethodId} {below : List Frame} {meth : Method} {c : Code} {D : va_G} {K : Nat → ClassId} {H : Heap} {locs : List Loc} {cells slots b L i : Nat} {xs : Nat → Int32} {Q : State → Prop} {σ : mwm} {ad : Nat → Nat} {ls : Array Slot} (hC : CF p m c cL_law 8 s #[Value.ref b] wsL_law RL s.heap.size D K) (hX : SX s.heap.size s) (hlt : l.stackTraces = false) (hk162 : (Cond.constantLong RL 162 4294967295).before #[Value.ref b] s = true) (hxs : va_X b L xs s s.heap) (hbl : b < s.heap.size) (hin : inj72 ad) (hR0 : REL K ad σ) (hM : MW s.heap.size D σ H) (hS : va_S (zA s.heap.size) s.heap H locs) (hl : lv_has ls 8 [(0, .ref b), (1, .ref (ad 0)), (2, .ref (ad 8)), (3, .ref (ad 7)), (4, .int (nI i))]) (hi : i + 4 ≤ L) (hL : L ≤ 2048) (hcc : cells + 1 ≤ 601024) (hss : slots + 6 ≤ 7293034) (kk : ∀ (H1 : Heap) (locs1 : List Loc) (σ1 : mwm) (ls1 : Array Slot), MW s.heap.size D σ1 H1 → va_S (zA s.heap.size) s.heap H1 locs1 → REL K ad σ1 → lv_has ls1 8 [(0, .ref b), (1, .ref (ad 0)), (2, .ref (ad 8)), (3, .ref (ad 7)), (4, .int (nI i))] → W p l e room_1 s m #[Value.ref b] below meth c H1 locs1 (cells + 1) (slots + 6) Q (F0 m 1447 ls1 [])) : W p l e room_1 s m #[Value.ref b] below meth c H locs cells slots Q (F0 m 234 ls []) := by
  have hx := hC.1.1
  have hb := hC.1.2.1
  have hown := hC.1.2.2.2.1
  have hbA : ¬ zA s.heap.size b := Nat.not_le.mpr hbl
  have hi1 : vp_in (nI i + 1) L := by rw [show nI i + 1 = nI (i + 1) from nI_add i 1]; exact vp_in_nI (by omega) (by omega)
  have hi2 : vp_in (nI i + 2) L := by rw [show nI i + 2 = nI (i + 2) from nI_add i 2]; exact vp_in_nI (by omega) (by omega)
  have hi3 : vp_in (nI i + 3) L := by rw [show nI i + 3 = nI (i + 3) from nI_add i 3]; exact vp_in_nI (by omega) (by omega)
  obtain ⟨gr, G, wt, ch, mem, rg, S0, S1, o, y, tx, fn, ft, fd, fk, fik, fo, fc, fl, hB, hG, hD, hR, hP⟩ := hR0
  obtain ⟨len, cd, mo, ma, e1, e2, e3, e4, e5, e6, e7, e8, e9, e10⟩ := id hP
  subst e1
  subst e4
  obtain ⟨n, rule, mv, ps, pr, c0, c1, hGR⟩ := id e10
  obtain ⟨g14a, g14b, g14c, g14d⟩ := id (hG 14 (by omega))
  have g14a : σ (ad 60) = some (cl0 (ad 61) (ad 62) (gr 14) (G 14).1) := g14a
  have g14b : σ (ad 61) = some (eJ K 121 (G 14).2.1) := g14b
  have g14c : σ (ad 62) = some (eJ K 121 (G 14).2.2.1) := g14c
  obtain ⟨g15a, g15b, g15c, g15d⟩ := id (hG 15 (by omega))
  have g15a : σ (ad 63) = some (cl0 (ad 64) (ad 65) (gr 15) (G 15).1) := g15a
  have g15b : σ (ad 64) = some (eJ K 121 (G 15).2.1) := g15b
  have g15c : σ (ad 65) = some (eJ K 121 (G 15).2.2.1) := g15c
  obtain ⟨g16a, g16b, g16c, g16d⟩ := id (hG 16 (by omega))
  have g16a : σ (ad 66) = some (cl0 (ad 67) (ad 68) (gr 16) (G 16).1) := g16a
  have g16b : σ (ad 67) = some (eJ K 121 (G 16).2.1) := g16b
  have g16c : σ (ad 68) = some (eJ K 121 (G 16).2.2.1) := g16c
  obtain ⟨g17a, g17b, g17c, g17d⟩ := id (hG 17 (by omega))
  have g17a : σ (ad 69) = some (cl0 (ad 70) (ad 71) (gr 17) (G 17).1) := g17a
  have g17b : σ (ad 70) = some (eJ K 121 (G 17).2.1) := g17b
  have g17c : σ (ad 71) = some (eJ K 121 (G 17).2.2.1) := g17c
  have e10' : gameR ((G 14).1, (G 14).2.1, (G 14).2.2.1, (G 14).2.2.2) fn := e10
  obtain ⟨v, s9, hr, hs, hy9, hval, ht9, ⟨a', ha1, ha2, ha3⟩, hgN, hs0, hs1⟩ := load_act (o := mo) e3 e2 e5 e10' ft o S0 S1 e8 e9
  have hv9 : v.1 = 0 → v.2.1 (0 : Int32).toNatClampNeg = s9.1.toInt64 := fun z => hval z
  refine lv_aload_n hx hb dL_law_234 rfl (lv_at hl 1 rfl) ?_
  refine lv_aload_n hx hb dL_law_235 rfl (lv_at hl 3 rfl) ?_
  refine mw_wi (mw_runSW (As := [.ref (ad 0), .ref (ad 7)]) (rest := []) hC hX hM hS (c_L_load (hc_p0 := hB.1) (hc_p1 := hB.2.2.2.2.2.2.2) (hc_p0_text := hB.2.1) (hc_p0_now := g14a) (hc_p0_memory := hB.2.2.2.1) (hc_p0_slot0 := hB.2.2.2.2.2.1) (hc_p0_slot1 := hB.2.2.2.2.2.2.1) (hc_p0_text_characters := hB.2.2.1) (hc_p0_now_before0 := g14b) (hc_p0_now_before1 := g14c) (hc_p0_now_grid := g14d) (n_p0_p0_memory := inj_ne hin (by omega) (by omega) (by omega)) (n_p0_p0_now := inj_ne hin (by omega) (by omega) (by omega)) (n_p0_p0_now_before0 := inj_ne hin (by omega) (by omega) (by omega)) (n_p0_p0_now_before1 := inj_ne hin (by omega) (by omega) (by omega)) (n_p0_p0_slot0 := inj_ne hin (by omega) (by omega) (by omega)) (n_p0_p0_slot1 := inj_ne hin (by omega) (by omega) (by omega)) (n_p0_memory_p0_now := inj_ne hin (by omega) (by omega) (by omega)) (n_p0_memory_p0_now_before0 := inj_ne hin (by omega) (by omega) (by omega)) (n_p0_memory_p0_now_before1 := inj_ne hin (by omega) (by omega) (by omega)) (n_p0_memory_p0_slot0 := inj_ne hin (by omega) (by omega) (by omega)) (n_p0_memory_p0_slot1 := inj_ne hin (by omega) (by omega) (by omega)) (n_p0_memory_p0_text := inj_ne hin (by omega) (by omega) (by omega)) (n_p0_memory_p0_text_characters := inj_ne hin (by omega) (by omega) (by omega)) (n_p0_memory_p1 := inj_ne hin (by omega) (by omega) (by omega)) (n_p0_now_p0_now_before0 := inj_ne hin (by omega) (by omega) (by omega)) (n_p0_now_p0_now_before1 := inj_ne hin (by omega) (by omega) (by omega)) (n_p0_now_p0_slot0 := inj_ne hin (by omega) (by omega) (by omega)) (n_p0_now_p0_slot1 := inj_ne hin (by omega) (by omega) (by omega)) (n_p0_now_p0_text := inj_ne hin (by omega) (by omega) (by omega)) (n_p0_now_p0_text_characters := inj_ne hin (by omega) (by omega) (by omega)) (n_p0_now_p1 := inj_ne hin (by omega) (by omega) (by omega)) (n_p0_now_before0_p0_now_before1 := inj_ne hin (by omega) (by omega) (by omega)) (n_p0_now_before0_p0_slot0 := inj_ne hin (by omega) (by omega) (by omega)) (n_p0_now_before0_p0_slot1 := inj_ne hin (by omega) (by omega) (by omega)) (n_p0_now_before0_p0_text := inj_ne hin (by omega) (by omega) (by omega)) (n_p0_now_before0_p0_text_characters := inj_ne hin (by omega) (by omega) (by omega)) (n_p0_now_before0_p1 := inj_ne hin (by omega) (by omega) (by omega)) (n_p0_now_before1_p0_slot0 := inj_ne hin (by omega) (by omega) (by omega)) (n_p0_now_before1_p0_slot1 := inj_ne hin (by omega) (by omega) (by omega)) (n_p0_now_before1_p0_text := inj_ne hin (by omega) (by omega) (by omega)) (n_p0_now_before1_p0_text_characters := inj_ne hin (by omega) (by omega) (by omega)) (n_p0_now_before1_p1 := inj_ne hin (by omega) (by omega) (by omega)) (n_p0_slot0_p0_slot1 := inj_ne hin (by omega) (by omega) (by omega)) (n_p0_slot0_p0_text := inj_ne hin (by omega) (by omega) (by omega)) (n_p0_slot0_p0_text_characters := inj_ne hin (by omega) (by omega) (by omega)) (n_p0_slot0_p1 := inj_ne hin (by omega) (by omega) (by omega)) (n_p0_slot1_p0_text := inj_ne hin (by omega) (by omega) (by omega)) (n_p0_slot1_p0_text_characters := inj_ne hin (by omega) (by omega) (by omega)) (n_p0_slot1_p1 := inj_ne hin (by omega) (by omega) (by omega)) (hlt := hlt) (h := hr)) gL_law_L_load rfl rfl rfl q_L_load ⟨Nat.le_of_ble_eq_true rfl, Nat.le_of_ble_eq_true rfl⟩ rfl rfl (Nat.le_of_ble_eq_true rfl) hl.1 dL_law_236 ⟨hcc, hss⟩) hS (fun r9 H locs σ1 hp hM1 hS => ?_)
  obtain ⟨hr9, aq1, hq0, hq1, hq2, hq3, hq4, hq5, hq6, hq7, ho⟩ := hp
  replace hr9 : v.1 = r9 := hr9.symm
  subst hr9
  have hk1 : KE ad [7, 60, 3, 5, 6, 61, 62] σ σ1 := fun q f hq hn => ho q f hq (hn _ (List.Mem.head _)) (hn _ (List.Mem.tail _ (List.Mem.head _))) (hn _ (List.Mem.tail _ (List.Mem.tail _ (List.Mem.head _)))) (hn _ (List.Mem.tail _ (List.Mem.tail _ (List.Mem.tail _ (List.Mem.head _))))) (hn _ (List.Mem.tail _ (List.Mem.tail _ (List.Mem.tail _ (List.Mem.tail _ (List.Mem.head _)))))) (hn _ (List.Mem.tail _ (List.Mem.tail _ (List.Mem.tail _ (List.Mem.tail _ (List.Mem.tail _ (List.Mem.head _))))))) (hn _ (List.Mem.tail _ (List.Mem.tail _ (List.Mem.tail _ (List.Mem.tail _ (List.Mem.tail _ (List.Mem.tail _ (List.Mem.head _))))))))
  have hB1 : BW K ad (nI len) ch v.2.2.2.1 rg v.2.2.2.2.1 v.2.2.2.2.2.1 v.2.1 σ1 := ⟨hk1.at hin (by omega) (by intro t ht; first | exact absurd ht List.not_mem_nil | (simp only [List.mem_cons, List.not_mem_nil, or_false] at ht; omega)) hB.1, hk1.at hin (by omega) (by intro t ht; first | exact absurd ht List.not_mem_nil | (simp only [List.mem_cons, List.not_mem_nil, or_false] at ht; omega)) hB.2.1, hk1.at hin (by omega) (by intro t ht; first | exact absurd ht List.not_mem_nil | (simp only [List.mem_cons, List.not_mem_nil, or_false] at ht; omega)) hB.2.2.1, hq2, hk1.at hin (by omega) (by intro t ht; first | exact absurd ht List.not_mem_nil | (simp only [List.mem_cons, List.not_mem_nil, or_false] at ht; omega)) hB.2.2.2.2.1, hq3, hq4, hq0⟩
  have hgd0 : σ1 aq1 = some (cl2 v.2.2.2.2.2.2.2.2) := hq7
  have hG1 : ∀ u7, u7 < 18 → GW K ad (putN gr 14 aq1) (putR G 14 (v.2.2.1, v.2.2.2.2.2.2.1, v.2.2.2.2.2.2.2.1, v.2.2.2.2.2.2.2.2)) σ1 u7 := by
    intro u7 hi18
    by_cases hu0 : u7 = 14
    · rw [hu0]
      exact GW_mk (hq1) (hq5) (hq6) (hgd0) (by rw [putN_at]) (by rw [putR_at])
    · exact GW_same (by rw [putN_ne hu0]) (by rw [putR_ne hu0]) (GW_keep hk1 hin hD hi18 (by intro t ht; first | exact absurd ht List.not_mem_nil | (simp only [List.mem_cons, List.not_mem_nil, or_false] at ht; omega)) (hG u7 hi18))
  have haq := grid_apart hB1 (RW_keep hk1 hin (by intro t ht; first | exact absurd ht List.not_mem_nil | (simp only [List.mem_cons, List.not_mem_nil, or_false] at ht; omega)) hR) (fun i hi18 => ⟨_, _, _, _, (hG1 i hi18).1, (hG1 i hi18).2.1, (hG1 i hi18).2.2.1⟩) hq7
  have hD1 := (GD_put (x := 14) (a := aq1) hD (haq))
  have hR1 := RW_keep hk1 hin (by intro t ht; first | exact absurd ht List.not_mem_nil | (simp only [List.mem_cons, List.not_mem_nil, or_false] at ht; omega)) hR
  refine lv_istore (lv' := [(5, .int v.1), (0, .ref b), (1, .ref (ad 0)), (2, .ref (ad 8)), (3, .ref (ad 7)), (4, .int (nI i))]) hx hb dL_law_239 hl (by decide) rfl (fun ls hl => ?_)
  refine lv_aload_n hx hb dL_law_241 rfl (lv_at hl 3 rfl) ?_
  refine mw_wi (mw_runV (As := []) (rest := []) (ci := 6) (C := RX8) (T := TX8) (N := 19) hC hM1 hS hR1.1 rfl (c_X8_load (hc_t := hR1.1) (hc_t_text := hR1.2.1) (hc_t_now := hR1.2.2.1) (hc_t_trial := hR1.2.2.2.1) (hc_t_isKept := hR1.2.2.2.2.2.2.1) (n_t_t_isKept := inj_ne hin (by omega) (by omega) (by omega)) (n_t_t_now := inj_ne hin (by omega) (by omega) (by omega)) (n_t_t_text := inj_ne hin (by omega) (by omega) (by omega)) (n_t_t_trial := inj_ne hin (by omega) (by omega) (by omega)) (n_t_isKept_t_now := inj_ne hin (by omega) (by omega) (by omega)) (n_t_isKept_t_trial := inj_ne hin (by omega) (by omega) (by omega)) (n_t_now_t_trial := inj_ne hin (by omega) (by omega) (by omega)) (n_t_text_t_trial := inj_ne hin (by omega) (by omega) (by omega)) (h := hs)) gL_law_X8_load rfl rfl rfl rfl q_X8_load ⟨Nat.le_of_ble_eq_true rfl, Nat.le_of_ble_eq_true rfl⟩ rfl rfl (Nat.le_of_ble_eq_true rfl) hl.1 dL_law_242 ⟨hcc, hss⟩) hS (fun r8 H locs σ2 hp hM2 hS => ?_)
  obtain ⟨hr8, hm0, hm1, hm2, hm3, ho2⟩ := hp
  replace hr8 : s9.1 = r8 := hr8.symm
  subst hr8
  have hk2 : KE ad [8, 10, 11, 14] σ1 σ2 := fun q f hq hn => ho2 q f hq (hn _ (List.Mem.head _)) (hn _ (List.Mem.tail _ (List.Mem.head _))) (hn _ (List.Mem.tail _ (List.Mem.tail _ (List.Mem.head _)))) (hn _ (List.Mem.tail _ (List.Mem.tail _ (List.Mem.tail _ (List.Mem.head _)))))
  have hR2 : RW K ad s9.2.1 tx s9.2.2.1 s9.2.2.2.1 fd fk s9.2.2.2.2 fo fc fl σ2 := ⟨hm0, hk2.at hin (by omega) (by intro t ht; first | exact absurd ht List.not_mem_nil | (simp only [List.mem_cons, List.not_mem_nil, or_false] at ht; omega)) hR1.2.1, hm1, hm2, hk2.at hin (by omega) (by intro t ht; first | exact absurd ht List.not_mem_nil | (simp only [List.mem_cons, List.not_mem_nil, or_false] at ht; omega)) hR1.2.2.2.2.1, hk2.at hin (by omega) (by intro t ht; first | exact absurd ht List.not_mem_nil | (simp only [List.mem_cons, List.not_mem_nil, or_false] at ht; omega)) hR1.2.2.2.2.2.1, hm3, hk2.at hin (by omega) (by intro t ht; first | exact absurd ht List.not_mem_nil | (simp only [List.mem_cons, List.not_mem_nil, or_false] at ht; omega)) hR1.2.2.2.2.2.2.2.1, hk2.at hin (by omega) (by intro t ht; first | exact absurd ht List.not_mem_nil | (simp only [List.mem_cons, List.not_mem_nil, or_false] at ht; omega)) hR1.2.2.2.2.2.2.2.2.1, hk2.at hin (by omega) (by intro t ht; first | exact absurd ht List.not_mem_nil | (simp only [List.mem_cons, List.not_mem_nil, or_false] at ht; omega)) hR1.2.2.2.2.2.2.2.2.2⟩
  have hB2 := BW_keep hk2 hin (by intro t ht; first | exact absurd ht List.not_mem_nil | (simp only [List.mem_cons, List.not_mem_nil, or_false] at ht; omega)) hB1
  have hG2 := GA_keep hk2 hin hD1 (by intro t ht; first | exact absurd ht List.not_mem_nil | (simp only [List.mem_cons, List.not_mem_nil, or_false] at ht; omega)) hG1
  have hP2 : PR ad (putR G 14 (v.2.2.1, v.2.2.2.2.2.2.1, v.2.2.2.2.2.2.2.1, v.2.2.2.2.2.2.2.2)) (nI len) ch v.2.2.2.1 rg v.2.2.2.2.1 v.2.2.2.2.2.1 s9.2.1 tx s9.2.2.1 fd fk s9.2.2.2.2 := ⟨len, cd, mo, a', rfl, ht9.trans e2, e3, ha2, ha3, memR_congr (memR_less e6 ha1) (fun i hi => putR_ne (by omega)), e7, (by rw [putR_ne (show ¬ 16 = 14 by omega)]; exact hs0), (by rw [putR_ne (show ¬ 17 = 14 by omega)]; exact hs1), (by rw [putR_at]; exact hgN)⟩
  have hREL : REL K ad σ2 := ⟨_, _, _, _, _, _, _, _, _, _, _, _, _, _, _, _, _, _, _, hB2, hG2, hD1, hR2, hP2⟩
  refine lv_istore (lv' := [(6, .int s9.1), (5, .int v.1), (0, .ref b), (1, .ref (ad 0)), (2, .ref (ad 8)), (3, .ref (ad 7)), (4, .int (nI i))]) hx hb dL_law_245 hl (by decide) rfl (fun ls hl => ?_)
  refine lv_aload_n hx hb dL_law_247 rfl (lv_at hl 4 rfl) ?_
  refine mw_ci (v := s9.2.1.1) (mw_runV (As := []) (rest := []) (ci := 6) (C := RX8) (T := TX8) (N := 19) hC hM2 hS hR2.1 rfl (c_X8_thrown (hc_t := hR2.1) (h := rfl)) gL_law_X8_thrown rfl rfl rfl rfl q_X8_thrown ⟨Nat.le_of_ble_eq_true rfl, Nat.le_of_ble_eq_true rfl⟩ rfl rfl (Nat.le_of_ble_eq_true rfl) hl.1 dL_law_248 ⟨hcc, hss⟩) ?_
  refine lv_iload hx hb dL_law_251 (lv_at hl 1 rfl) ?_
  have fin : W p l e room_1 s m #[Value.ref b] below meth c H locs (cells + 1) (slots + 6) Q (F0 m 1447 ls []) := kk H locs σ2 ls hM2 hS hREL (lv_sub hl [2, 3, 4, 5, 6] rfl)
  refine lv_icmp_eq (tgt := 258) hx hb dL_law_253 (by decide) (fun c9 => ?_) (fun c9 => absurd hy9 c9)
  refine lv_iload hx hb dL_law_258 (lv_at hl 1 rfl) ?_
  refine lv_if_ne (tgt := 275) hx hb dL_law_260 (by decide) (fun c8 => ?_) (fun c8 => ?_)
  · exact lv_goto (tgt := 1447) hx hb dL_law_275 (by decide) fin
  · refine lv_aload_n hx hb dL_law_263 rfl (lv_at hl 5 rfl) ?_
    refine lv_iconst (v := 0) hx hb dL_law_264 (by decide) ?_
    refine mw_ldJ hC hM2 hB2.2.2.2.2.2.2.2 (i := 0) vp_in_01 dL_law_265 ?_
    refine lv_iload hx hb dL_law_266 (lv_at hl 0 rfl) ?_
    refine lv_i2l (v := (s9.1).toInt64) hx hb dL_law_268 rfl ?_
    refine W.lcmp hx hb dL_law_269 ?_
    exact lv_if_eq (tgt := 275) hx hb dL_law_270 (by decide) (fun _ => lv_goto (tgt := 1447) hx hb dL_law_275 (by decide) fin) (fun c9 => absurd ((lg_cmp_eq _ _).mpr (hv9 c8)) c9)
set_option maxHeartbeats 4000000 in
set_option maxRecDepth 100000 in
theorem lwc_21 {p : Program} {l : Launch} {e : Env} {s : State} {m : MethodId} {below : List Frame} {meth : Method} {c : Code} {D : va_G} {K : Nat → ClassId} {H : Heap} {locs : List Loc} {cells slots b L i : Nat} {xs : Nat → Int32} {Q : State → Prop} {σ : mwm} {ad : Nat → Nat} {ls : Array Slot} (hC : CF p m c cL_law 8 s #[Value.ref b] wsL_law RL s.heap.size D K) (hX : SX s.heap.size s) (hlt : l.stackTraces = false) (hk162 : (Cond.constantLong RL 162 4294967295).before #[Value.ref b] s = true) (hxs : va_X b L xs s s.heap) (hbl : b < s.heap.size) (hin : inj72 ad) (hR0 : REL K ad σ) (hM : MW s.heap.size D σ H) (hS : va_S (zA s.heap.size) s.heap H locs) (hl : lv_has ls 8 [(0, .ref b), (1, .ref (ad 0)), (2, .ref (ad 8)), (3, .ref (ad 7)), (4, .int (nI i))]) (hi : i + 4 ≤ L) (hL : L ≤ 2048) (hcc : cells + 1 ≤ 601024) (hss : slots + 6 ≤ 7293034) (kk : ∀ (H1 : Heap) (locs1 : List Loc) (σ1 : mwm) (ls1 : Array Slot), MW s.heap.size D σ1 H1 → va_S (zA s.heap.size) s.heap H1 locs1 → REL K ad σ1 → lv_has ls1 8 [(0, .ref b), (1, .ref (ad 0)), (2, .ref (ad 8)), (3, .ref (ad 7)), (4, .int (nI i))] → W p l e room_1 s m #[Value.ref b] below meth c H1 locs1 (cells + 1) (slots + 6) Q (F0 m 1447 ls1 [])) : W p l e room_1 s m #[Value.ref b] below meth c H locs cells slots Q (F0 m 1135 ls []) := by
  have hx := hC.1.1
  have hb := hC.1.2.1
  have hown := hC.1.2.2.2.1
  have hbA : ¬ zA s.heap.size b := Nat.not_le.mpr hbl
  have hi1 : vp_in (nI i + 1) L := by rw [show nI i + 1 = nI (i + 1) from nI_add i 1]; exact vp_in_nI (by omega) (by omega)
  have hi2 : vp_in (nI i + 2) L := by rw [show nI i + 2 = nI (i + 2) from nI_add i 2]; exact vp_in_nI (by omega) (by omega)
  have hi3 : vp_in (nI i + 3) L := by rw [show nI i + 3 = nI (i + 3) from nI_add i 3]; exact vp_in_nI (by omega) (by omega)
  obtain ⟨gr, G, wt, ch, mem, rg, S0, S1, o, y, tx, fn, ft, fd, fk, fik, fo, fc, fl, hB, hG, hD, hR, hP⟩ := hR0
  obtain ⟨len, cd, mo, ma, e1, e2, e3, e4, e5, e6, e7, e8, e9, e10⟩ := id hP
  subst e1
  subst e4
  obtain ⟨n, rule, mv, ps, pr, c0, c1, hGR⟩ := id e10
  obtain ⟨g14a, g14b, g14c, g14d⟩ := id (hG 14 (by omega))
  have g14a : σ (ad 60) = some (cl0 (ad 61) (ad 62) (gr 14) (G 14).1) := g14a
  have g14b : σ (ad 61) = some (eJ K 121 (G 14).2.1) := g14b
  have g14c : σ (ad 62) = some (eJ K 121 (G 14).2.2.1) := g14c
  obtain ⟨g15a, g15b, g15c, g15d⟩ := id (hG 15 (by omega))
  have g15a : σ (ad 63) = some (cl0 (ad 64) (ad 65) (gr 15) (G 15).1) := g15a
  have g15b : σ (ad 64) = some (eJ K 121 (G 15).2.1) := g15b
  have g15c : σ (ad 65) = some (eJ K 121 (G 15).2.2.1) := g15c
  obtain ⟨g16a, g16b, g16c, g16d⟩ := id (hG 16 (by omega))
  have g16a : σ (ad 66) = some (cl0 (ad 67) (ad 68) (gr 16) (G 16).1) := g16a
  have g16b : σ (ad 67) = some (eJ K 121 (G 16).2.1) := g16b
  have g16c : σ (ad 68) = some (eJ K 121 (G 16).2.2.1) := g16c
  obtain ⟨g17a, g17b, g17c, g17d⟩ := id (hG 17 (by omega))
  have g17a : σ (ad 69) = some (cl0 (ad 70) (ad 71) (gr 17) (G 17).1) := g17a
  have g17b : σ (ad 70) = some (eJ K 121 (G 17).2.1) := g17b
  have g17c : σ (ad 71) = some (eJ K 121 (G 17).2.2.1) := g17c
  obtain ⟨v, s9, hr, hs, hy9, hval, hsame⟩ := runScript_act hGR (xs (nI i + 1).toNatClampNeg) (shlL (xs (nI i + 2).toNatClampNeg).toInt64 32 ||| ((xs (nI i + 3).toNatClampNeg).toInt64 &&& 4294967295)) y o (G 15).1 (G 15).2.1 (G 15).2.2.1 ft fo fc fl
  have hv9 : v.1 = 0 → v.2.1 (0 : Int32).toNatClampNeg = s9.1.toInt64 := fun z => hval z
  refine lv_aload_n hx hb dL_law_1135 rfl (lv_at hl 1 rfl) ?_
  refine lv_aload_n hx hb dL_law_1136 rfl (lv_at hl 0 rfl) ?_
  refine lv_iload hx hb dL_law_1137 (lv_at hl 4 rfl) ?_
  refine lv_iconst (v := 1) hx hb dL_law_1139 (by decide) ?_
  refine lv_iadd hx hb dL_law_1140 ?_
  refine va_sld hx hb hxs hbl hbA hS hi1 dL_law_1141 ?_
  refine lv_aload_n hx hb dL_law_1142 rfl (lv_at hl 0 rfl) ?_
  refine lv_iload hx hb dL_law_1143 (lv_at hl 4 rfl) ?_
  refine lv_iconst (v := 2) hx hb dL_law_1145 (by decide) ?_
  refine lv_iadd hx hb dL_law_1146 ?_
  refine va_sld hx hb hxs hbl hbA hS hi2 dL_law_1147 ?_
  refine lv_i2l (v := (xs (nI i + 2).toNatClampNeg).toInt64) hx hb dL_law_1148 rfl ?_
  refine lv_bipush (v := 32) hx hb dL_law_1149 (by decide) ?_
  refine lv_lshl (v := shlL (xs (nI i + 2).toNatClampNeg).toInt64 32) hx hb dL_law_1151 rfl ?_
  refine lv_aload_n hx hb dL_law_1152 rfl (lv_at hl 0 rfl) ?_
  refine lv_iload hx hb dL_law_1153 (lv_at hl 4 rfl) ?_
  refine lv_iconst (v := 3) hx hb dL_law_1155 (by decide) ?_
  refine lv_iadd hx hb dL_law_1156 ?_
  refine va_sld hx hb hxs hbl hbA hS hi3 dL_law_1157 ?_
  refine lv_i2l (v := (xs (nI i + 3).toNatClampNeg).toInt64) hx hb dL_law_1158 rfl ?_
  refine lv_ldc2 (v := 4294967295) hx hb hown hk162 dL_law_1159 ?_
  refine lv_land hx hb dL_law_1162 ?_
  refine lv_lor hx hb dL_law_1163 ?_
  refine lv_aload_n hx hb dL_law_1164 rfl (lv_at hl 3 rfl) ?_
  refine mw_wi (mw_runSW (As := [.ref (ad 0), .int (xs (nI i + 1).toNatClampNeg), .long ((shlL (xs (nI i + 2).toNatClampNeg).toInt64 32) ||| ((xs (nI i + 3).toNatClampNeg).toInt64 &&& 4294967295)), .ref (ad 7)]) (rest := []) hC hX hM hS (c_L_runScript (hc_p0 := hB.1) (hc_p3 := hB.2.2.2.2.2.2.2) (hc_p0_now := g14a) (hc_p0_copy := g15a) (hc_p0_copy_before0 := g15b) (hc_p0_copy_before1 := g15c) (hc_p0_now_before0 := g14b) (hc_p0_now_before1 := g14c) (hc_p0_now_grid := g14d) (n_p0_p0_copy := inj_ne hin (by omega) (by omega) (by omega)) (n_p0_p0_copy_before0 := inj_ne hin (by omega) (by omega) (by omega)) (n_p0_p0_copy_before1 := inj_ne hin (by omega) (by omega) (by omega)) (n_p0_copy_p0_copy_before0 := inj_ne hin (by omega) (by omega) (by omega)) (n_p0_copy_p0_copy_before1 := inj_ne hin (by omega) (by omega) (by omega)) (n_p0_copy_p0_now := inj_ne hin (by omega) (by omega) (by omega)) (n_p0_copy_p0_now_before0 := inj_ne hin (by omega) (by omega) (by omega)) (n_p0_copy_p0_now_before1 := inj_ne hin (by omega) (by omega) (by omega)) (n_p0_copy_p0_now_grid := (hD 14 (63) (by omega) (by omega)).symm) (n_p0_copy_p3 := inj_ne hin (by omega) (by omega) (by omega)) (n_p0_copy_before0_p0_copy_before1 := inj_ne hin (by omega) (by omega) (by omega)) (n_p0_copy_before0_p0_now := inj_ne hin (by omega) (by omega) (by omega)) (n_p0_copy_before0_p0_now_before0 := inj_ne hin (by omega) (by omega) (by omega)) (n_p0_copy_before0_p0_now_before1 := inj_ne hin (by omega) (by omega) (by omega)) (n_p0_copy_before0_p0_now_grid := (hD 14 (64) (by omega) (by omega)).symm) (n_p0_copy_before0_p3 := inj_ne hin (by omega) (by omega) (by omega)) (n_p0_copy_before1_p0_now := inj_ne hin (by omega) (by omega) (by omega)) (n_p0_copy_before1_p0_now_before0 := inj_ne hin (by omega) (by omega) (by omega)) (n_p0_copy_before1_p0_now_before1 := inj_ne hin (by omega) (by omega) (by omega)) (n_p0_copy_before1_p0_now_grid := (hD 14 (65) (by omega) (by omega)).symm) (n_p0_copy_before1_p3 := inj_ne hin (by omega) (by omega) (by omega)) (hlt := hlt) (h := hr)) gL_law_L_runScript rfl rfl rfl q_L_runScript ⟨Nat.le_of_ble_eq_true rfl, Nat.le_of_ble_eq_true rfl⟩ rfl rfl (Nat.le_of_ble_eq_true rfl) hl.1 dL_law_1165 ⟨hcc, hss⟩) hS (fun r9 H locs σ1 hp hM1 hS => ?_)
  obtain ⟨hr9, hq0, hq1, hq2, hq3, ho⟩ := hp
  replace hr9 : v.1 = r9 := hr9.symm
  subst hr9
  have hk1 : KE ad [7, 63, 64, 65] σ σ1 := fun q f hq hn => ho q f hq (hn _ (List.Mem.head _)) (hn _ (List.Mem.tail _ (List.Mem.head _))) (hn _ (List.Mem.tail _ (List.Mem.tail _ (List.Mem.head _)))) (hn _ (List.Mem.tail _ (List.Mem.tail _ (List.Mem.tail _ (List.Mem.head _)))))
  have hB1 : BW K ad (nI len) ch (nI mo, nI ma) rg S0 S1 v.2.1 σ1 := ⟨hk1.at hin (by omega) (by intro t ht; first | exact absurd ht List.not_mem_nil | (simp only [List.mem_cons, List.not_mem_nil, or_false] at ht; omega)) hB.1, hk1.at hin (by omega) (by intro t ht; first | exact absurd ht List.not_mem_nil | (simp only [List.mem_cons, List.not_mem_nil, or_false] at ht; omega)) hB.2.1, hk1.at hin (by omega) (by intro t ht; first | exact absurd ht List.not_mem_nil | (simp only [List.mem_cons, List.not_mem_nil, or_false] at ht; omega)) hB.2.2.1, hk1.at hin (by omega) (by intro t ht; first | exact absurd ht List.not_mem_nil | (simp only [List.mem_cons, List.not_mem_nil, or_false] at ht; omega)) hB.2.2.2.1, hk1.at hin (by omega) (by intro t ht; first | exact absurd ht List.not_mem_nil | (simp only [List.mem_cons, List.not_mem_nil, or_false] at ht; omega)) hB.2.2.2.2.1, hk1.at hin (by omega) (by intro t ht; first | exact absurd ht List.not_mem_nil | (simp only [List.mem_cons, List.not_mem_nil, or_false] at ht; omega)) hB.2.2.2.2.2.1, hk1.at hin (by omega) (by intro t ht; first | exact absurd ht List.not_mem_nil | (simp only [List.mem_cons, List.not_mem_nil, or_false] at ht; omega)) hB.2.2.2.2.2.2.1, hq0⟩
  have hgd0 : σ1 (if v.1 = 0 then gr 14 else gr 15) = some (cl2 (if v.1 = 0 then (G 14).2.2.2 else (G 15).2.2.2)) := by by_cases q0 : v.1 = 0; (rw [if_pos q0, if_pos q0]; exact hk1.gr hD (by omega) (by intro t ht; first | exact absurd ht List.not_mem_nil | (simp only [List.mem_cons, List.not_mem_nil, or_false] at ht; omega)) g14d); (rw [if_neg q0, if_neg q0]; exact hk1.gr hD (by omega) (by intro t ht; first | exact absurd ht List.not_mem_nil | (simp only [List.mem_cons, List.not_mem_nil, or_false] at ht; omega)) g15d)
  have hG1 : ∀ u7, u7 < 18 → GW K ad (putN gr 15 (if v.1 = 0 then gr 14 else gr 15)) (putR G 15 (v.2.2.1, v.2.2.2.1, v.2.2.2.2, (if v.1 = 0 then (G 14).2.2.2 else (G 15).2.2.2))) σ1 u7 := by
    intro u7 hi18
    by_cases hu0 : u7 = 15
    · rw [hu0]
      exact GW_mk (hq1) (hq2) (hq3) (hgd0) (by rw [putN_at]) (by rw [putR_at])
    · exact GW_same (by rw [putN_ne hu0]) (by rw [putR_ne hu0]) (GW_keep hk1 hin hD hi18 (by intro t ht; first | exact absurd ht List.not_mem_nil | (simp only [List.mem_cons, List.not_mem_nil, or_false] at ht; omega)) (hG u7 hi18))
  have hD1 := (GD_put (x := 15) (a := (if v.1 = 0 then gr 14 else gr 15)) hD (fun j hj => by by_cases q0 : v.1 = 0; (rw [if_pos q0]; exact hD 14 j (by omega) hj); (rw [if_neg q0]; exact hD 15 j (by omega) hj)))
  have hR1 := RW_keep hk1 hin (by intro t ht; first | exact absurd ht List.not_mem_nil | (simp only [List.mem_cons, List.not_mem_nil, or_false] at ht; omega)) hR
  refine lv_istore (lv' := [(5, .int v.1), (0, .ref b), (1, .ref (ad 0)), (2, .ref (ad 8)), (3, .ref (ad 7)), (4, .int (nI i))]) hx hb dL_law_1168 hl (by decide) rfl (fun ls hl => ?_)
  refine lv_aload_n hx hb dL_law_1170 rfl (lv_at hl 3 rfl) ?_
  refine lv_aload_n hx hb dL_law_1171 rfl (lv_at hl 1 rfl) ?_
  refine lv_iload hx hb dL_law_1172 (lv_at hl 5 rfl) ?_
  refine lv_iconst (v := 1) hx hb dL_law_1174 (by decide) ?_
  refine lv_iadd hx hb dL_law_1175 ?_
  refine va_sld hx hb hxs hbl hbA hS hi1 dL_law_1176 ?_
  refine lv_aload_n hx hb dL_law_1177 rfl (lv_at hl 1 rfl) ?_
  refine lv_iload hx hb dL_law_1178 (lv_at hl 5 rfl) ?_
  refine lv_iconst (v := 2) hx hb dL_law_1180 (by decide) ?_
  refine lv_iadd hx hb dL_law_1181 ?_
  refine va_sld hx hb hxs hbl hbA hS hi2 dL_law_1182 ?_
  refine lv_i2l (v := (xs (nI i + 2).toNatClampNeg).toInt64) hx hb dL_law_1183 rfl ?_
  refine lv_bipush (v := 32) hx hb dL_law_1184 (by decide) ?_
  refine lv_lshl (v := shlL (xs (nI i + 2).toNatClampNeg).toInt64 32) hx hb dL_law_1186 rfl ?_
  refine lv_aload_n hx hb dL_law_1187 rfl (lv_at hl 1 rfl) ?_
  refine lv_iload hx hb dL_law_1188 (lv_at hl 5 rfl) ?_
  refine lv_iconst (v := 3) hx hb dL_law_1190 (by decide) ?_
  refine lv_iadd hx hb dL_law_1191 ?_
  refine va_sld hx hb hxs hbl hbA hS hi3 dL_law_1192 ?_
  refine lv_i2l (v := (xs (nI i + 3).toNatClampNeg).toInt64) hx hb dL_law_1193 rfl ?_
  refine lv_ldc2 (v := 4294967295) hx hb hown hk162 dL_law_1194 ?_
  refine lv_land hx hb dL_law_1197 ?_
  refine lv_lor hx hb dL_law_1198 ?_
  refine mw_wi (mw_runV (As := [.int (xs (nI i + 1).toNatClampNeg), .long ((shlL (xs (nI i + 2).toNatClampNeg).toInt64 32) ||| ((xs (nI i + 3).toNatClampNeg).toInt64 &&& 4294967295))]) (rest := []) (ci := 6) (C := RX8) (T := TX8) (N := 19) hC hM1 hS hR1.1 rfl (c_X8_runScript (hc_t := hR1.1) (hc_t_now := hR1.2.2.1) (hc_t_trial := hR1.2.2.2.1) (hc_t_owners := hR1.2.2.2.2.2.2.2.1) (hc_t_chasers := hR1.2.2.2.2.2.2.2.2.1) (hc_t_lefts := hR1.2.2.2.2.2.2.2.2.2) (n_t_t_chasers := inj_ne hin (by omega) (by omega) (by omega)) (n_t_t_lefts := inj_ne hin (by omega) (by omega) (by omega)) (n_t_t_now := inj_ne hin (by omega) (by omega) (by omega)) (n_t_t_owners := inj_ne hin (by omega) (by omega) (by omega)) (n_t_t_trial := inj_ne hin (by omega) (by omega) (by omega)) (n_t_chasers_t_lefts := inj_ne hin (by omega) (by omega) (by omega)) (n_t_chasers_t_now := inj_ne hin (by omega) (by omega) (by omega)) (n_t_chasers_t_owners := inj_ne hin (by omega) (by omega) (by omega)) (n_t_chasers_t_trial := inj_ne hin (by omega) (by omega) (by omega)) (n_t_lefts_t_now := inj_ne hin (by omega) (by omega) (by omega)) (n_t_lefts_t_owners := inj_ne hin (by omega) (by omega) (by omega)) (n_t_lefts_t_trial := inj_ne hin (by omega) (by omega) (by omega)) (n_t_now_t_owners := inj_ne hin (by omega) (by omega) (by omega)) (n_t_now_t_trial := inj_ne hin (by omega) (by omega) (by omega)) (n_t_owners_t_trial := inj_ne hin (by omega) (by omega) (by omega)) (h := hs)) gL_law_X8_runScript rfl rfl rfl rfl q_X8_runScript ⟨Nat.le_of_ble_eq_true rfl, Nat.le_of_ble_eq_true rfl⟩ rfl rfl (Nat.le_of_ble_eq_true rfl) hl.1 dL_law_1199 ⟨hcc, hss⟩) hS (fun r8 H locs σ2 hp hM2 hS => ?_)
  obtain ⟨hr8, hm0, hm1, hm2, hm3, hm4, ho2⟩ := hp
  replace hr8 : s9.1 = r8 := hr8.symm
  subst hr8
  have hk2 : KE ad [8, 11, 15, 16, 17] σ1 σ2 := fun q f hq hn => ho2 q f hq (hn _ (List.Mem.head _)) (hn _ (List.Mem.tail _ (List.Mem.head _))) (hn _ (List.Mem.tail _ (List.Mem.tail _ (List.Mem.head _)))) (hn _ (List.Mem.tail _ (List.Mem.tail _ (List.Mem.tail _ (List.Mem.head _))))) (hn _ (List.Mem.tail _ (List.Mem.tail _ (List.Mem.tail _ (List.Mem.tail _ (List.Mem.head _))))))
  have hR2 : RW K ad s9.2.1 tx fn s9.2.2.1 fd fk fik s9.2.2.2.1 s9.2.2.2.2.1 s9.2.2.2.2.2 σ2 := ⟨hm0, hk2.at hin (by omega) (by intro t ht; first | exact absurd ht List.not_mem_nil | (simp only [List.mem_cons, List.not_mem_nil, or_false] at ht; omega)) hR1.2.1, hk2.at hin (by omega) (by intro t ht; first | exact absurd ht List.not_mem_nil | (simp only [List.mem_cons, List.not_mem_nil, or_false] at ht; omega)) hR1.2.2.1, hm1, hk2.at hin (by omega) (by intro t ht; first | exact absurd ht List.not_mem_nil | (simp only [List.mem_cons, List.not_mem_nil, or_false] at ht; omega)) hR1.2.2.2.2.1, hk2.at hin (by omega) (by intro t ht; first | exact absurd ht List.not_mem_nil | (simp only [List.mem_cons, List.not_mem_nil, or_false] at ht; omega)) hR1.2.2.2.2.2.1, hk2.at hin (by omega) (by intro t ht; first | exact absurd ht List.not_mem_nil | (simp only [List.mem_cons, List.not_mem_nil, or_false] at ht; omega)) hR1.2.2.2.2.2.2.1, hm2, hm3, hm4⟩
  have hB2 := BW_keep hk2 hin (by intro t ht; first | exact absurd ht List.not_mem_nil | (simp only [List.mem_cons, List.not_mem_nil, or_false] at ht; omega)) hB1
  have hG2 := GA_keep hk2 hin hD1 (by intro t ht; first | exact absurd ht List.not_mem_nil | (simp only [List.mem_cons, List.not_mem_nil, or_false] at ht; omega)) hG1
  have hP2 : PR ad (putR G 15 (v.2.2.1, v.2.2.2.1, v.2.2.2.2, (if v.1 = 0 then (G 14).2.2.2 else (G 15).2.2.2))) (nI len) ch (nI mo, nI ma) rg S0 S1 s9.2.1 tx fn fd fk fik := ⟨len, cd, mo, ma, rfl, hsame.1.trans e2, e3, rfl, hsame.2.trans e5, memR_congr e6 (fun i hi => putR_ne (by omega)), e7, (by rw [putR_ne (show ¬ 16 = 15 by omega)]; exact e8), (by rw [putR_ne (show ¬ 17 = 15 by omega)]; exact e9), (by rw [putR_ne (show ¬ 14 = 15 by omega)]; exact e10)⟩
  have hREL : REL K ad σ2 := ⟨_, _, _, _, _, _, _, _, _, _, _, _, _, _, _, _, _, _, _, hB2, hG2, hD1, hR2, hP2⟩
  refine lv_istore (lv' := [(6, .int s9.1), (5, .int v.1), (0, .ref b), (1, .ref (ad 0)), (2, .ref (ad 8)), (3, .ref (ad 7)), (4, .int (nI i))]) hx hb dL_law_1202 hl (by decide) rfl (fun ls hl => ?_)
  refine lv_aload_n hx hb dL_law_1204 rfl (lv_at hl 4 rfl) ?_
  refine mw_ci (v := s9.2.1.1) (mw_runV (As := []) (rest := []) (ci := 6) (C := RX8) (T := TX8) (N := 19) hC hM2 hS hR2.1 rfl (c_X8_thrown (hc_t := hR2.1) (h := rfl)) gL_law_X8_thrown rfl rfl rfl rfl q_X8_thrown ⟨Nat.le_of_ble_eq_true rfl, Nat.le_of_ble_eq_true rfl⟩ rfl rfl (Nat.le_of_ble_eq_true rfl) hl.1 dL_law_1205 ⟨hcc, hss⟩) ?_
  refine lv_iload hx hb dL_law_1208 (lv_at hl 1 rfl) ?_
  have fin : W p l e room_1 s m #[Value.ref b] below meth c H locs (cells + 1) (slots + 6) Q (F0 m 1447 ls []) := kk H locs σ2 ls hM2 hS hREL (lv_sub hl [2, 3, 4, 5, 6] rfl)
  refine lv_icmp_eq (tgt := 1215) hx hb dL_law_1210 (by decide) (fun c9 => ?_) (fun c9 => absurd hy9 c9)
  refine lv_iload hx hb dL_law_1215 (lv_at hl 1 rfl) ?_
  refine lv_if_ne (tgt := 1232) hx hb dL_law_1217 (by decide) (fun c8 => ?_) (fun c8 => ?_)
  · exact lv_goto (tgt := 1447) hx hb dL_law_1232 (by decide) fin
  · refine lv_aload_n hx hb dL_law_1220 rfl (lv_at hl 5 rfl) ?_
    refine lv_iconst (v := 0) hx hb dL_law_1221 (by decide) ?_
    refine mw_ldJ hC hM2 hB2.2.2.2.2.2.2.2 (i := 0) vp_in_01 dL_law_1222 ?_
    refine lv_iload hx hb dL_law_1223 (lv_at hl 0 rfl) ?_
    refine lv_i2l (v := (s9.1).toInt64) hx hb dL_law_1225 rfl ?_
    refine W.lcmp hx hb dL_law_1226 ?_
    exact lv_if_eq (tgt := 1232) hx hb dL_law_1227 (by decide) (fun _ => lv_goto (tgt := 1447) hx hb dL_law_1232 (by decide) fin) (fun c9 => absurd ((lg_cmp_eq _ _).mpr (hv9 c8)) c9)
set_option maxHeartbeats 4000000 in
set_option maxRecDepth 100000 in
theorem lwc_22 {p : Program} {l : Launch} {e : Env} {s : State} {m : MethodId} {below : List Frame} {meth : Method} {c : Code} {D : va_G} {K : Nat → ClassId} {H : Heap} {locs : List Loc} {cells slots b L i : Nat} {xs : Nat → Int32} {Q : State → Prop} {σ : mwm} {ad : Nat → Nat} {ls : Array Slot} (hC : CF p m c cL_law 8 s #[Value.ref b] wsL_law RL s.heap.size D K) (hX : SX s.heap.size s) (hlt : l.stackTraces = false) (hk162 : (Cond.constantLong RL 162 4294967295).before #[Value.ref b] s = true) (hxs : va_X b L xs s s.heap) (hbl : b < s.heap.size) (hin : inj72 ad) (hR0 : REL K ad σ) (hM : MW s.heap.size D σ H) (hS : va_S (zA s.heap.size) s.heap H locs) (hl : lv_has ls 8 [(0, .ref b), (1, .ref (ad 0)), (2, .ref (ad 8)), (3, .ref (ad 7)), (4, .int (nI i))]) (hi : i + 4 ≤ L) (hL : L ≤ 2048) (hcc : cells + 1 ≤ 601024) (hss : slots + 6 ≤ 7293034) (kk : ∀ (H1 : Heap) (locs1 : List Loc) (σ1 : mwm) (ls1 : Array Slot), MW s.heap.size D σ1 H1 → va_S (zA s.heap.size) s.heap H1 locs1 → REL K ad σ1 → lv_has ls1 8 [(0, .ref b), (1, .ref (ad 0)), (2, .ref (ad 8)), (3, .ref (ad 7)), (4, .int (nI i))] → W p l e room_1 s m #[Value.ref b] below meth c H1 locs1 (cells + 1) (slots + 6) Q (F0 m 1447 ls1 [])) : W p l e room_1 s m #[Value.ref b] below meth c H locs cells slots Q (F0 m 1235 ls []) := by
  have hx := hC.1.1
  have hb := hC.1.2.1
  have hown := hC.1.2.2.2.1
  have hbA : ¬ zA s.heap.size b := Nat.not_le.mpr hbl
  have hi1 : vp_in (nI i + 1) L := by rw [show nI i + 1 = nI (i + 1) from nI_add i 1]; exact vp_in_nI (by omega) (by omega)
  have hi2 : vp_in (nI i + 2) L := by rw [show nI i + 2 = nI (i + 2) from nI_add i 2]; exact vp_in_nI (by omega) (by omega)
  have hi3 : vp_in (nI i + 3) L := by rw [show nI i + 3 = nI (i + 3) from nI_add i 3]; exact vp_in_nI (by omega) (by omega)
  obtain ⟨gr, G, wt, ch, mem, rg, S0, S1, o, y, tx, fn, ft, fd, fk, fik, fo, fc, fl, hB, hG, hD, hR, hP⟩ := hR0
  obtain ⟨len, cd, mo, ma, e1, e2, e3, e4, e5, e6, e7, e8, e9, e10⟩ := id hP
  subst e1
  subst e4
  obtain ⟨n, rule, mv, ps, pr, c0, c1, hGR⟩ := id e10
  obtain ⟨g14a, g14b, g14c, g14d⟩ := id (hG 14 (by omega))
  have g14a : σ (ad 60) = some (cl0 (ad 61) (ad 62) (gr 14) (G 14).1) := g14a
  have g14b : σ (ad 61) = some (eJ K 121 (G 14).2.1) := g14b
  have g14c : σ (ad 62) = some (eJ K 121 (G 14).2.2.1) := g14c
  obtain ⟨g15a, g15b, g15c, g15d⟩ := id (hG 15 (by omega))
  have g15a : σ (ad 63) = some (cl0 (ad 64) (ad 65) (gr 15) (G 15).1) := g15a
  have g15b : σ (ad 64) = some (eJ K 121 (G 15).2.1) := g15b
  have g15c : σ (ad 65) = some (eJ K 121 (G 15).2.2.1) := g15c
  obtain ⟨g16a, g16b, g16c, g16d⟩ := id (hG 16 (by omega))
  have g16a : σ (ad 66) = some (cl0 (ad 67) (ad 68) (gr 16) (G 16).1) := g16a
  have g16b : σ (ad 67) = some (eJ K 121 (G 16).2.1) := g16b
  have g16c : σ (ad 68) = some (eJ K 121 (G 16).2.2.1) := g16c
  obtain ⟨g17a, g17b, g17c, g17d⟩ := id (hG 17 (by omega))
  have g17a : σ (ad 69) = some (cl0 (ad 70) (ad 71) (gr 17) (G 17).1) := g17a
  have g17b : σ (ad 70) = some (eJ K 121 (G 17).2.1) := g17b
  have g17c : σ (ad 71) = some (eJ K 121 (G 17).2.2.1) := g17c
  obtain ⟨v, s9, hr, hs, hy9, hval, hsame⟩ := simulate_act hGR (shlL (xs (nI i + 1).toNatClampNeg).toInt64 32 ||| ((xs (nI i + 2).toNatClampNeg).toInt64 &&& 4294967295)) (xs (nI i + 3).toNatClampNeg) y o (G 15).1 (G 15).2.1 (G 15).2.2.1 ft
  have hv9 : v.1 = 0 → v.2.1 (0 : Int32).toNatClampNeg = s9.1.toInt64 := fun z => hval z
  refine lv_aload_n hx hb dL_law_1235 rfl (lv_at hl 1 rfl) ?_
  refine lv_aload_n hx hb dL_law_1236 rfl (lv_at hl 0 rfl) ?_
  refine lv_iload hx hb dL_law_1237 (lv_at hl 4 rfl) ?_
  refine lv_iconst (v := 1) hx hb dL_law_1239 (by decide) ?_
  refine lv_iadd hx hb dL_law_1240 ?_
  refine va_sld hx hb hxs hbl hbA hS hi1 dL_law_1241 ?_
  refine lv_i2l (v := (xs (nI i + 1).toNatClampNeg).toInt64) hx hb dL_law_1242 rfl ?_
  refine lv_bipush (v := 32) hx hb dL_law_1243 (by decide) ?_
  refine lv_lshl (v := shlL (xs (nI i + 1).toNatClampNeg).toInt64 32) hx hb dL_law_1245 rfl ?_
  refine lv_aload_n hx hb dL_law_1246 rfl (lv_at hl 0 rfl) ?_
  refine lv_iload hx hb dL_law_1247 (lv_at hl 4 rfl) ?_
  refine lv_iconst (v := 2) hx hb dL_law_1249 (by decide) ?_
  refine lv_iadd hx hb dL_law_1250 ?_
  refine va_sld hx hb hxs hbl hbA hS hi2 dL_law_1251 ?_
  refine lv_i2l (v := (xs (nI i + 2).toNatClampNeg).toInt64) hx hb dL_law_1252 rfl ?_
  refine lv_ldc2 (v := 4294967295) hx hb hown hk162 dL_law_1253 ?_
  refine lv_land hx hb dL_law_1256 ?_
  refine lv_lor hx hb dL_law_1257 ?_
  refine lv_aload_n hx hb dL_law_1258 rfl (lv_at hl 0 rfl) ?_
  refine lv_iload hx hb dL_law_1259 (lv_at hl 4 rfl) ?_
  refine lv_iconst (v := 3) hx hb dL_law_1261 (by decide) ?_
  refine lv_iadd hx hb dL_law_1262 ?_
  refine va_sld hx hb hxs hbl hbA hS hi3 dL_law_1263 ?_
  refine lv_aload_n hx hb dL_law_1264 rfl (lv_at hl 3 rfl) ?_
  refine mw_wi (mw_runSW (As := [.ref (ad 0), .long ((shlL (xs (nI i + 1).toNatClampNeg).toInt64 32) ||| ((xs (nI i + 2).toNatClampNeg).toInt64 &&& 4294967295)), .int (xs (nI i + 3).toNatClampNeg), .ref (ad 7)]) (rest := []) hC hX hM hS (c_L_simulate (hc_p0 := hB.1) (hc_p3 := hB.2.2.2.2.2.2.2) (hc_p0_now := g14a) (hc_p0_copy := g15a) (hc_p0_copy_before0 := g15b) (hc_p0_copy_before1 := g15c) (hc_p0_now_before0 := g14b) (hc_p0_now_before1 := g14c) (hc_p0_now_grid := g14d) (n_p0_p0_copy := inj_ne hin (by omega) (by omega) (by omega)) (n_p0_p0_copy_before0 := inj_ne hin (by omega) (by omega) (by omega)) (n_p0_p0_copy_before1 := inj_ne hin (by omega) (by omega) (by omega)) (n_p0_copy_p0_copy_before0 := inj_ne hin (by omega) (by omega) (by omega)) (n_p0_copy_p0_copy_before1 := inj_ne hin (by omega) (by omega) (by omega)) (n_p0_copy_p0_now := inj_ne hin (by omega) (by omega) (by omega)) (n_p0_copy_p0_now_before0 := inj_ne hin (by omega) (by omega) (by omega)) (n_p0_copy_p0_now_before1 := inj_ne hin (by omega) (by omega) (by omega)) (n_p0_copy_p0_now_grid := (hD 14 (63) (by omega) (by omega)).symm) (n_p0_copy_p3 := inj_ne hin (by omega) (by omega) (by omega)) (n_p0_copy_before0_p0_copy_before1 := inj_ne hin (by omega) (by omega) (by omega)) (n_p0_copy_before0_p0_now := inj_ne hin (by omega) (by omega) (by omega)) (n_p0_copy_before0_p0_now_before0 := inj_ne hin (by omega) (by omega) (by omega)) (n_p0_copy_before0_p0_now_before1 := inj_ne hin (by omega) (by omega) (by omega)) (n_p0_copy_before0_p0_now_grid := (hD 14 (64) (by omega) (by omega)).symm) (n_p0_copy_before0_p3 := inj_ne hin (by omega) (by omega) (by omega)) (n_p0_copy_before1_p0_now := inj_ne hin (by omega) (by omega) (by omega)) (n_p0_copy_before1_p0_now_before0 := inj_ne hin (by omega) (by omega) (by omega)) (n_p0_copy_before1_p0_now_before1 := inj_ne hin (by omega) (by omega) (by omega)) (n_p0_copy_before1_p0_now_grid := (hD 14 (65) (by omega) (by omega)).symm) (n_p0_copy_before1_p3 := inj_ne hin (by omega) (by omega) (by omega)) (hlt := hlt) (h := hr)) gL_law_L_simulate rfl rfl rfl q_L_simulate ⟨Nat.le_of_ble_eq_true rfl, Nat.le_of_ble_eq_true rfl⟩ rfl rfl (Nat.le_of_ble_eq_true rfl) hl.1 dL_law_1265 ⟨hcc, hss⟩) hS (fun r9 H locs σ1 hp hM1 hS => ?_)
  obtain ⟨hr9, hq0, hq1, hq2, hq3, ho⟩ := hp
  replace hr9 : v.1 = r9 := hr9.symm
  subst hr9
  have hk1 : KE ad [7, 63, 64, 65] σ σ1 := fun q f hq hn => ho q f hq (hn _ (List.Mem.head _)) (hn _ (List.Mem.tail _ (List.Mem.head _))) (hn _ (List.Mem.tail _ (List.Mem.tail _ (List.Mem.head _)))) (hn _ (List.Mem.tail _ (List.Mem.tail _ (List.Mem.tail _ (List.Mem.head _)))))
  have hB1 : BW K ad (nI len) ch (nI mo, nI ma) rg S0 S1 v.2.1 σ1 := ⟨hk1.at hin (by omega) (by intro t ht; first | exact absurd ht List.not_mem_nil | (simp only [List.mem_cons, List.not_mem_nil, or_false] at ht; omega)) hB.1, hk1.at hin (by omega) (by intro t ht; first | exact absurd ht List.not_mem_nil | (simp only [List.mem_cons, List.not_mem_nil, or_false] at ht; omega)) hB.2.1, hk1.at hin (by omega) (by intro t ht; first | exact absurd ht List.not_mem_nil | (simp only [List.mem_cons, List.not_mem_nil, or_false] at ht; omega)) hB.2.2.1, hk1.at hin (by omega) (by intro t ht; first | exact absurd ht List.not_mem_nil | (simp only [List.mem_cons, List.not_mem_nil, or_false] at ht; omega)) hB.2.2.2.1, hk1.at hin (by omega) (by intro t ht; first | exact absurd ht List.not_mem_nil | (simp only [List.mem_cons, List.not_mem_nil, or_false] at ht; omega)) hB.2.2.2.2.1, hk1.at hin (by omega) (by intro t ht; first | exact absurd ht List.not_mem_nil | (simp only [List.mem_cons, List.not_mem_nil, or_false] at ht; omega)) hB.2.2.2.2.2.1, hk1.at hin (by omega) (by intro t ht; first | exact absurd ht List.not_mem_nil | (simp only [List.mem_cons, List.not_mem_nil, or_false] at ht; omega)) hB.2.2.2.2.2.2.1, hq0⟩
  have hgd0 : σ1 (if v.1 = 0 then gr 14 else gr 15) = some (cl2 (if v.1 = 0 then (G 14).2.2.2 else (G 15).2.2.2)) := by by_cases q0 : v.1 = 0; (rw [if_pos q0, if_pos q0]; exact hk1.gr hD (by omega) (by intro t ht; first | exact absurd ht List.not_mem_nil | (simp only [List.mem_cons, List.not_mem_nil, or_false] at ht; omega)) g14d); (rw [if_neg q0, if_neg q0]; exact hk1.gr hD (by omega) (by intro t ht; first | exact absurd ht List.not_mem_nil | (simp only [List.mem_cons, List.not_mem_nil, or_false] at ht; omega)) g15d)
  have hG1 : ∀ u7, u7 < 18 → GW K ad (putN gr 15 (if v.1 = 0 then gr 14 else gr 15)) (putR G 15 (v.2.2.1, v.2.2.2.1, v.2.2.2.2, (if v.1 = 0 then (G 14).2.2.2 else (G 15).2.2.2))) σ1 u7 := by
    intro u7 hi18
    by_cases hu0 : u7 = 15
    · rw [hu0]
      exact GW_mk (hq1) (hq2) (hq3) (hgd0) (by rw [putN_at]) (by rw [putR_at])
    · exact GW_same (by rw [putN_ne hu0]) (by rw [putR_ne hu0]) (GW_keep hk1 hin hD hi18 (by intro t ht; first | exact absurd ht List.not_mem_nil | (simp only [List.mem_cons, List.not_mem_nil, or_false] at ht; omega)) (hG u7 hi18))
  have hD1 := (GD_put (x := 15) (a := (if v.1 = 0 then gr 14 else gr 15)) hD (fun j hj => by by_cases q0 : v.1 = 0; (rw [if_pos q0]; exact hD 14 j (by omega) hj); (rw [if_neg q0]; exact hD 15 j (by omega) hj)))
  have hR1 := RW_keep hk1 hin (by intro t ht; first | exact absurd ht List.not_mem_nil | (simp only [List.mem_cons, List.not_mem_nil, or_false] at ht; omega)) hR
  refine lv_istore (lv' := [(5, .int v.1), (0, .ref b), (1, .ref (ad 0)), (2, .ref (ad 8)), (3, .ref (ad 7)), (4, .int (nI i))]) hx hb dL_law_1268 hl (by decide) rfl (fun ls hl => ?_)
  refine lv_aload_n hx hb dL_law_1270 rfl (lv_at hl 3 rfl) ?_
  refine lv_aload_n hx hb dL_law_1271 rfl (lv_at hl 1 rfl) ?_
  refine lv_iload hx hb dL_law_1272 (lv_at hl 5 rfl) ?_
  refine lv_iconst (v := 1) hx hb dL_law_1274 (by decide) ?_
  refine lv_iadd hx hb dL_law_1275 ?_
  refine va_sld hx hb hxs hbl hbA hS hi1 dL_law_1276 ?_
  refine lv_i2l (v := (xs (nI i + 1).toNatClampNeg).toInt64) hx hb dL_law_1277 rfl ?_
  refine lv_bipush (v := 32) hx hb dL_law_1278 (by decide) ?_
  refine lv_lshl (v := shlL (xs (nI i + 1).toNatClampNeg).toInt64 32) hx hb dL_law_1280 rfl ?_
  refine lv_aload_n hx hb dL_law_1281 rfl (lv_at hl 1 rfl) ?_
  refine lv_iload hx hb dL_law_1282 (lv_at hl 5 rfl) ?_
  refine lv_iconst (v := 2) hx hb dL_law_1284 (by decide) ?_
  refine lv_iadd hx hb dL_law_1285 ?_
  refine va_sld hx hb hxs hbl hbA hS hi2 dL_law_1286 ?_
  refine lv_i2l (v := (xs (nI i + 2).toNatClampNeg).toInt64) hx hb dL_law_1287 rfl ?_
  refine lv_ldc2 (v := 4294967295) hx hb hown hk162 dL_law_1288 ?_
  refine lv_land hx hb dL_law_1291 ?_
  refine lv_lor hx hb dL_law_1292 ?_
  refine lv_aload_n hx hb dL_law_1293 rfl (lv_at hl 1 rfl) ?_
  refine lv_iload hx hb dL_law_1294 (lv_at hl 5 rfl) ?_
  refine lv_iconst (v := 3) hx hb dL_law_1296 (by decide) ?_
  refine lv_iadd hx hb dL_law_1297 ?_
  refine va_sld hx hb hxs hbl hbA hS hi3 dL_law_1298 ?_
  refine mw_wi (mw_runV (As := [.long ((shlL (xs (nI i + 1).toNatClampNeg).toInt64 32) ||| ((xs (nI i + 2).toNatClampNeg).toInt64 &&& 4294967295)), .int (xs (nI i + 3).toNatClampNeg)]) (rest := []) (ci := 6) (C := RX8) (T := TX8) (N := 19) hC hM1 hS hR1.1 rfl (c_X8_simulate (hc_t := hR1.1) (hc_t_now := hR1.2.2.1) (hc_t_trial := hR1.2.2.2.1) (n_t_t_now := inj_ne hin (by omega) (by omega) (by omega)) (n_t_t_trial := inj_ne hin (by omega) (by omega) (by omega)) (n_t_now_t_trial := inj_ne hin (by omega) (by omega) (by omega)) (h := hs)) gL_law_X8_simulate rfl rfl rfl rfl q_X8_simulate ⟨Nat.le_of_ble_eq_true rfl, Nat.le_of_ble_eq_true rfl⟩ rfl rfl (Nat.le_of_ble_eq_true rfl) hl.1 dL_law_1299 ⟨hcc, hss⟩) hS (fun r8 H locs σ2 hp hM2 hS => ?_)
  obtain ⟨hr8, hm0, hm1, ho2⟩ := hp
  replace hr8 : s9.1 = r8 := hr8.symm
  subst hr8
  have hk2 : KE ad [8, 11] σ1 σ2 := fun q f hq hn => ho2 q f hq (hn _ (List.Mem.head _)) (hn _ (List.Mem.tail _ (List.Mem.head _)))
  have hR2 : RW K ad s9.2.1 tx fn s9.2.2 fd fk fik fo fc fl σ2 := ⟨hm0, hk2.at hin (by omega) (by intro t ht; first | exact absurd ht List.not_mem_nil | (simp only [List.mem_cons, List.not_mem_nil, or_false] at ht; omega)) hR1.2.1, hk2.at hin (by omega) (by intro t ht; first | exact absurd ht List.not_mem_nil | (simp only [List.mem_cons, List.not_mem_nil, or_false] at ht; omega)) hR1.2.2.1, hm1, hk2.at hin (by omega) (by intro t ht; first | exact absurd ht List.not_mem_nil | (simp only [List.mem_cons, List.not_mem_nil, or_false] at ht; omega)) hR1.2.2.2.2.1, hk2.at hin (by omega) (by intro t ht; first | exact absurd ht List.not_mem_nil | (simp only [List.mem_cons, List.not_mem_nil, or_false] at ht; omega)) hR1.2.2.2.2.2.1, hk2.at hin (by omega) (by intro t ht; first | exact absurd ht List.not_mem_nil | (simp only [List.mem_cons, List.not_mem_nil, or_false] at ht; omega)) hR1.2.2.2.2.2.2.1, hk2.at hin (by omega) (by intro t ht; first | exact absurd ht List.not_mem_nil | (simp only [List.mem_cons, List.not_mem_nil, or_false] at ht; omega)) hR1.2.2.2.2.2.2.2.1, hk2.at hin (by omega) (by intro t ht; first | exact absurd ht List.not_mem_nil | (simp only [List.mem_cons, List.not_mem_nil, or_false] at ht; omega)) hR1.2.2.2.2.2.2.2.2.1, hk2.at hin (by omega) (by intro t ht; first | exact absurd ht List.not_mem_nil | (simp only [List.mem_cons, List.not_mem_nil, or_false] at ht; omega)) hR1.2.2.2.2.2.2.2.2.2⟩
  have hB2 := BW_keep hk2 hin (by intro t ht; first | exact absurd ht List.not_mem_nil | (simp only [List.mem_cons, List.not_mem_nil, or_false] at ht; omega)) hB1
  have hG2 := GA_keep hk2 hin hD1 (by intro t ht; first | exact absurd ht List.not_mem_nil | (simp only [List.mem_cons, List.not_mem_nil, or_false] at ht; omega)) hG1
  have hP2 : PR ad (putR G 15 (v.2.2.1, v.2.2.2.1, v.2.2.2.2, (if v.1 = 0 then (G 14).2.2.2 else (G 15).2.2.2))) (nI len) ch (nI mo, nI ma) rg S0 S1 s9.2.1 tx fn fd fk fik := ⟨len, cd, mo, ma, rfl, hsame.1.trans e2, e3, rfl, hsame.2.trans e5, memR_congr e6 (fun i hi => putR_ne (by omega)), e7, (by rw [putR_ne (show ¬ 16 = 15 by omega)]; exact e8), (by rw [putR_ne (show ¬ 17 = 15 by omega)]; exact e9), (by rw [putR_ne (show ¬ 14 = 15 by omega)]; exact e10)⟩
  have hREL : REL K ad σ2 := ⟨_, _, _, _, _, _, _, _, _, _, _, _, _, _, _, _, _, _, _, hB2, hG2, hD1, hR2, hP2⟩
  refine lv_istore (lv' := [(6, .int s9.1), (5, .int v.1), (0, .ref b), (1, .ref (ad 0)), (2, .ref (ad 8)), (3, .ref (ad 7)), (4, .int (nI i))]) hx hb dL_law_1302 hl (by decide) rfl (fun ls hl => ?_)
  refine lv_aload_n hx hb dL_law_1304 rfl (lv_at hl 4 rfl) ?_
  refine mw_ci (v := s9.2.1.1) (mw_runV (As := []) (rest := []) (ci := 6) (C := RX8) (T := TX8) (N := 19) hC hM2 hS hR2.1 rfl (c_X8_thrown (hc_t := hR2.1) (h := rfl)) gL_law_X8_thrown rfl rfl rfl rfl q_X8_thrown ⟨Nat.le_of_ble_eq_true rfl, Nat.le_of_ble_eq_true rfl⟩ rfl rfl (Nat.le_of_ble_eq_true rfl) hl.1 dL_law_1305 ⟨hcc, hss⟩) ?_
  refine lv_iload hx hb dL_law_1308 (lv_at hl 1 rfl) ?_
  have fin : W p l e room_1 s m #[Value.ref b] below meth c H locs (cells + 1) (slots + 6) Q (F0 m 1447 ls []) := kk H locs σ2 ls hM2 hS hREL (lv_sub hl [2, 3, 4, 5, 6] rfl)
  refine lv_icmp_eq (tgt := 1315) hx hb dL_law_1310 (by decide) (fun c9 => ?_) (fun c9 => absurd hy9 c9)
  refine lv_iload hx hb dL_law_1315 (lv_at hl 1 rfl) ?_
  refine lv_if_ne (tgt := 1332) hx hb dL_law_1317 (by decide) (fun c8 => ?_) (fun c8 => ?_)
  · exact lv_goto (tgt := 1447) hx hb dL_law_1332 (by decide) fin
  · refine lv_aload_n hx hb dL_law_1320 rfl (lv_at hl 5 rfl) ?_
    refine lv_iconst (v := 0) hx hb dL_law_1321 (by decide) ?_
    refine mw_ldJ hC hM2 hB2.2.2.2.2.2.2.2 (i := 0) vp_in_01 dL_law_1322 ?_
    refine lv_iload hx hb dL_law_1323 (lv_at hl 0 rfl) ?_
    refine lv_i2l (v := (s9.1).toInt64) hx hb dL_law_1325 rfl ?_
    refine W.lcmp hx hb dL_law_1326 ?_
    exact lv_if_eq (tgt := 1332) hx hb dL_law_1327 (by decide) (fun _ => lv_goto (tgt := 1447) hx hb dL_law_1332 (by decide) fin) (fun c9 => absurd ((lg_cmp_eq _ _).mpr (hv9 c8)) c9)
set_option maxHeartbeats 4000000 in
set_option maxRecDepth 100000 in
theorem lwc_23 {p : Program} {l : Launch} {e : Env} {s : State} {m : MethodId} {below : List Frame} {meth : Method} {c : Code} {D : va_G} {K : Nat → ClassId} {H : Heap} {locs : List Loc} {cells slots b L i : Nat} {xs : Nat → Int32} {Q : State → Prop} {σ : mwm} {ad : Nat → Nat} {ls : Array Slot} (hC : CF p m c cL_law 8 s #[Value.ref b] wsL_law RL s.heap.size D K) (hX : SX s.heap.size s) (hlt : l.stackTraces = false) (hk162 : (Cond.constantLong RL 162 4294967295).before #[Value.ref b] s = true) (hxs : va_X b L xs s s.heap) (hbl : b < s.heap.size) (hin : inj72 ad) (hR0 : REL K ad σ) (hM : MW s.heap.size D σ H) (hS : va_S (zA s.heap.size) s.heap H locs) (hl : lv_has ls 8 [(0, .ref b), (1, .ref (ad 0)), (2, .ref (ad 8)), (3, .ref (ad 7)), (4, .int (nI i))]) (hi : i + 4 ≤ L) (hL : L ≤ 2048) (hcc : cells + 1 ≤ 601024) (hss : slots + 6 ≤ 7293034) (kk : ∀ (H1 : Heap) (locs1 : List Loc) (σ1 : mwm) (ls1 : Array Slot), MW s.heap.size D σ1 H1 → va_S (zA s.heap.size) s.heap H1 locs1 → REL K ad σ1 → lv_has ls1 8 [(0, .ref b), (1, .ref (ad 0)), (2, .ref (ad 8)), (3, .ref (ad 7)), (4, .int (nI i))] → W p l e room_1 s m #[Value.ref b] below meth c H1 locs1 (cells + 1) (slots + 6) Q (F0 m 1447 ls1 [])) : W p l e room_1 s m #[Value.ref b] below meth c H locs cells slots Q (F0 m 1335 ls []) := by
  have hx := hC.1.1
  have hb := hC.1.2.1
  have hown := hC.1.2.2.2.1
  have hbA : ¬ zA s.heap.size b := Nat.not_le.mpr hbl
  have hi1 : vp_in (nI i + 1) L := by rw [show nI i + 1 = nI (i + 1) from nI_add i 1]; exact vp_in_nI (by omega) (by omega)
  have hi2 : vp_in (nI i + 2) L := by rw [show nI i + 2 = nI (i + 2) from nI_add i 2]; exact vp_in_nI (by omega) (by omega)
  have hi3 : vp_in (nI i + 3) L := by rw [show nI i + 3 = nI (i + 3) from nI_add i 3]; exact vp_in_nI (by omega) (by omega)
  obtain ⟨gr, G, wt, ch, mem, rg, S0, S1, o, y, tx, fn, ft, fd, fk, fik, fo, fc, fl, hB, hG, hD, hR, hP⟩ := hR0
  obtain ⟨len, cd, mo, ma, e1, e2, e3, e4, e5, e6, e7, e8, e9, e10⟩ := id hP
  subst e1
  subst e4
  obtain ⟨n, rule, mv, ps, pr, c0, c1, hGR⟩ := id e10
  obtain ⟨g14a, g14b, g14c, g14d⟩ := id (hG 14 (by omega))
  have g14a : σ (ad 60) = some (cl0 (ad 61) (ad 62) (gr 14) (G 14).1) := g14a
  have g14b : σ (ad 61) = some (eJ K 121 (G 14).2.1) := g14b
  have g14c : σ (ad 62) = some (eJ K 121 (G 14).2.2.1) := g14c
  obtain ⟨g15a, g15b, g15c, g15d⟩ := id (hG 15 (by omega))
  have g15a : σ (ad 63) = some (cl0 (ad 64) (ad 65) (gr 15) (G 15).1) := g15a
  have g15b : σ (ad 64) = some (eJ K 121 (G 15).2.1) := g15b
  have g15c : σ (ad 65) = some (eJ K 121 (G 15).2.2.1) := g15c
  obtain ⟨g16a, g16b, g16c, g16d⟩ := id (hG 16 (by omega))
  have g16a : σ (ad 66) = some (cl0 (ad 67) (ad 68) (gr 16) (G 16).1) := g16a
  have g16b : σ (ad 67) = some (eJ K 121 (G 16).2.1) := g16b
  have g16c : σ (ad 68) = some (eJ K 121 (G 16).2.2.1) := g16c
  obtain ⟨g17a, g17b, g17c, g17d⟩ := id (hG 17 (by omega))
  have g17a : σ (ad 69) = some (cl0 (ad 70) (ad 71) (gr 17) (G 17).1) := g17a
  have g17b : σ (ad 70) = some (eJ K 121 (G 17).2.1) := g17b
  have g17c : σ (ad 71) = some (eJ K 121 (G 17).2.2.1) := g17c
  obtain ⟨v, s9, hr, hs, hy9, hval, hsame, hs0, hs1⟩ := save_act hGR (xs (nI i + 1).toNatClampNeg) y o S0 S1 e8 e9
  have hv9 : v.1 = 0 → v.2.1 (0 : Int32).toNatClampNeg = s9.1.toInt64 := fun z => hval z
  refine lv_aload_n hx hb dL_law_1335 rfl (lv_at hl 1 rfl) ?_
  refine lv_aload_n hx hb dL_law_1336 rfl (lv_at hl 0 rfl) ?_
  refine lv_iload hx hb dL_law_1337 (lv_at hl 4 rfl) ?_
  refine lv_iconst (v := 1) hx hb dL_law_1339 (by decide) ?_
  refine lv_iadd hx hb dL_law_1340 ?_
  refine va_sld hx hb hxs hbl hbA hS hi1 dL_law_1341 ?_
  refine lv_aload_n hx hb dL_law_1342 rfl (lv_at hl 3 rfl) ?_
  refine mw_wi (mw_runSW (As := [.ref (ad 0), .int (xs (nI i + 1).toNatClampNeg), .ref (ad 7)]) (rest := []) hC hX hM hS (c_L_save (hc_p0 := hB.1) (hc_p2 := hB.2.2.2.2.2.2.2) (hc_p0_now := g14a) (hc_p0_slot0 := hB.2.2.2.2.2.1) (hc_p0_slot1 := hB.2.2.2.2.2.2.1) (hc_p0_slot1_kept := g17a) (hc_p0_slot1_kept_before0 := g17b) (hc_p0_slot1_kept_before1 := g17c) (hc_p0_now_before0 := g14b) (hc_p0_now_before1 := g14c) (hc_p0_slot0_kept := g16a) (hc_p0_slot0_kept_before0 := g16b) (hc_p0_slot0_kept_before1 := g16c) (n_p0_p0_slot0 := inj_ne hin (by omega) (by omega) (by omega)) (n_p0_p0_slot0_kept := inj_ne hin (by omega) (by omega) (by omega)) (n_p0_p0_slot0_kept_before0 := inj_ne hin (by omega) (by omega) (by omega)) (n_p0_p0_slot0_kept_before1 := inj_ne hin (by omega) (by omega) (by omega)) (n_p0_p0_slot1 := inj_ne hin (by omega) (by omega) (by omega)) (n_p0_p0_slot1_kept := inj_ne hin (by omega) (by omega) (by omega)) (n_p0_p0_slot1_kept_before0 := inj_ne hin (by omega) (by omega) (by omega)) (n_p0_p0_slot1_kept_before1 := inj_ne hin (by omega) (by omega) (by omega)) (n_p0_now_p0_slot0 := inj_ne hin (by omega) (by omega) (by omega)) (n_p0_now_p0_slot0_kept := inj_ne hin (by omega) (by omega) (by omega)) (n_p0_now_p0_slot0_kept_before0 := inj_ne hin (by omega) (by omega) (by omega)) (n_p0_now_p0_slot0_kept_before1 := inj_ne hin (by omega) (by omega) (by omega)) (n_p0_now_p0_slot1 := inj_ne hin (by omega) (by omega) (by omega)) (n_p0_now_p0_slot1_kept := inj_ne hin (by omega) (by omega) (by omega)) (n_p0_now_p0_slot1_kept_before0 := inj_ne hin (by omega) (by omega) (by omega)) (n_p0_now_p0_slot1_kept_before1 := inj_ne hin (by omega) (by omega) (by omega)) (n_p0_now_before0_p0_slot0_kept := inj_ne hin (by omega) (by omega) (by omega)) (n_p0_now_before0_p0_slot0_kept_before0 := inj_ne hin (by omega) (by omega) (by omega)) (n_p0_now_before0_p0_slot0_kept_before1 := inj_ne hin (by omega) (by omega) (by omega)) (n_p0_now_before0_p0_slot1_kept := inj_ne hin (by omega) (by omega) (by omega)) (n_p0_now_before0_p0_slot1_kept_before0 := inj_ne hin (by omega) (by omega) (by omega)) (n_p0_now_before0_p0_slot1_kept_before1 := inj_ne hin (by omega) (by omega) (by omega)) (n_p0_now_before1_p0_slot0_kept := inj_ne hin (by omega) (by omega) (by omega)) (n_p0_now_before1_p0_slot0_kept_before0 := inj_ne hin (by omega) (by omega) (by omega)) (n_p0_now_before1_p0_slot0_kept_before1 := inj_ne hin (by omega) (by omega) (by omega)) (n_p0_now_before1_p0_slot1_kept := inj_ne hin (by omega) (by omega) (by omega)) (n_p0_now_before1_p0_slot1_kept_before0 := inj_ne hin (by omega) (by omega) (by omega)) (n_p0_now_before1_p0_slot1_kept_before1 := inj_ne hin (by omega) (by omega) (by omega)) (n_p0_slot0_p0_slot0_kept := inj_ne hin (by omega) (by omega) (by omega)) (n_p0_slot0_p0_slot0_kept_before0 := inj_ne hin (by omega) (by omega) (by omega)) (n_p0_slot0_p0_slot0_kept_before1 := inj_ne hin (by omega) (by omega) (by omega)) (n_p0_slot0_p0_slot1 := inj_ne hin (by omega) (by omega) (by omega)) (n_p0_slot0_p0_slot1_kept := inj_ne hin (by omega) (by omega) (by omega)) (n_p0_slot0_p0_slot1_kept_before0 := inj_ne hin (by omega) (by omega) (by omega)) (n_p0_slot0_p0_slot1_kept_before1 := inj_ne hin (by omega) (by omega) (by omega)) (n_p0_slot0_p2 := inj_ne hin (by omega) (by omega) (by omega)) (n_p0_slot0_kept_p0_slot0_kept_before0 := inj_ne hin (by omega) (by omega) (by omega)) (n_p0_slot0_kept_p0_slot0_kept_before1 := inj_ne hin (by omega) (by omega) (by omega)) (n_p0_slot0_kept_p0_slot1 := inj_ne hin (by omega) (by omega) (by omega)) (n_p0_slot0_kept_p0_slot1_kept := inj_ne hin (by omega) (by omega) (by omega)) (n_p0_slot0_kept_p0_slot1_kept_before0 := inj_ne hin (by omega) (by omega) (by omega)) (n_p0_slot0_kept_p0_slot1_kept_before1 := inj_ne hin (by omega) (by omega) (by omega)) (n_p0_slot0_kept_p2 := inj_ne hin (by omega) (by omega) (by omega)) (n_p0_slot0_kept_before0_p0_slot0_kept_before1 := inj_ne hin (by omega) (by omega) (by omega)) (n_p0_slot0_kept_before0_p0_slot1 := inj_ne hin (by omega) (by omega) (by omega)) (n_p0_slot0_kept_before0_p0_slot1_kept := inj_ne hin (by omega) (by omega) (by omega)) (n_p0_slot0_kept_before0_p0_slot1_kept_before0 := inj_ne hin (by omega) (by omega) (by omega)) (n_p0_slot0_kept_before0_p0_slot1_kept_before1 := inj_ne hin (by omega) (by omega) (by omega)) (n_p0_slot0_kept_before0_p2 := inj_ne hin (by omega) (by omega) (by omega)) (n_p0_slot0_kept_before1_p0_slot1 := inj_ne hin (by omega) (by omega) (by omega)) (n_p0_slot0_kept_before1_p0_slot1_kept := inj_ne hin (by omega) (by omega) (by omega)) (n_p0_slot0_kept_before1_p0_slot1_kept_before0 := inj_ne hin (by omega) (by omega) (by omega)) (n_p0_slot0_kept_before1_p0_slot1_kept_before1 := inj_ne hin (by omega) (by omega) (by omega)) (n_p0_slot0_kept_before1_p2 := inj_ne hin (by omega) (by omega) (by omega)) (n_p0_slot1_p0_slot1_kept := inj_ne hin (by omega) (by omega) (by omega)) (n_p0_slot1_p0_slot1_kept_before0 := inj_ne hin (by omega) (by omega) (by omega)) (n_p0_slot1_p0_slot1_kept_before1 := inj_ne hin (by omega) (by omega) (by omega)) (n_p0_slot1_p2 := inj_ne hin (by omega) (by omega) (by omega)) (n_p0_slot1_kept_p0_slot1_kept_before0 := inj_ne hin (by omega) (by omega) (by omega)) (n_p0_slot1_kept_p0_slot1_kept_before1 := inj_ne hin (by omega) (by omega) (by omega)) (n_p0_slot1_kept_p2 := inj_ne hin (by omega) (by omega) (by omega)) (n_p0_slot1_kept_before0_p0_slot1_kept_before1 := inj_ne hin (by omega) (by omega) (by omega)) (n_p0_slot1_kept_before0_p2 := inj_ne hin (by omega) (by omega) (by omega)) (n_p0_slot1_kept_before1_p2 := inj_ne hin (by omega) (by omega) (by omega)) (hlt := hlt) (h := hr)) gL_law_L_save rfl rfl rfl q_L_save ⟨Nat.le_of_ble_eq_true rfl, Nat.le_of_ble_eq_true rfl⟩ rfl rfl (Nat.le_of_ble_eq_true rfl) hl.1 dL_law_1343 ⟨hcc, hss⟩) hS (fun r9 H locs σ1 hp hM1 hS => ?_)
  obtain ⟨hr9, hq0, hq1, hq2, hq3, hq4, hq5, hq6, hq7, hq8, ho⟩ := hp
  replace hr9 : v.1 = r9 := hr9.symm
  subst hr9
  have hk1 : KE ad [7, 5, 6, 69, 70, 71, 66, 67, 68] σ σ1 := fun q f hq hn => ho q f hq (hn _ (List.Mem.head _)) (hn _ (List.Mem.tail _ (List.Mem.head _))) (hn _ (List.Mem.tail _ (List.Mem.tail _ (List.Mem.head _)))) (hn _ (List.Mem.tail _ (List.Mem.tail _ (List.Mem.tail _ (List.Mem.head _))))) (hn _ (List.Mem.tail _ (List.Mem.tail _ (List.Mem.tail _ (List.Mem.tail _ (List.Mem.head _)))))) (hn _ (List.Mem.tail _ (List.Mem.tail _ (List.Mem.tail _ (List.Mem.tail _ (List.Mem.tail _ (List.Mem.head _))))))) (hn _ (List.Mem.tail _ (List.Mem.tail _ (List.Mem.tail _ (List.Mem.tail _ (List.Mem.tail _ (List.Mem.tail _ (List.Mem.head _)))))))) (hn _ (List.Mem.tail _ (List.Mem.tail _ (List.Mem.tail _ (List.Mem.tail _ (List.Mem.tail _ (List.Mem.tail _ (List.Mem.tail _ (List.Mem.head _))))))))) (hn _ (List.Mem.tail _ (List.Mem.tail _ (List.Mem.tail _ (List.Mem.tail _ (List.Mem.tail _ (List.Mem.tail _ (List.Mem.tail _ (List.Mem.tail _ (List.Mem.head _))))))))))
  have hB1 : BW K ad (nI len) ch (nI mo, nI ma) rg v.2.2.1 v.2.2.2.1 v.2.1 σ1 := ⟨hk1.at hin (by omega) (by intro t ht; first | exact absurd ht List.not_mem_nil | (simp only [List.mem_cons, List.not_mem_nil, or_false] at ht; omega)) hB.1, hk1.at hin (by omega) (by intro t ht; first | exact absurd ht List.not_mem_nil | (simp only [List.mem_cons, List.not_mem_nil, or_false] at ht; omega)) hB.2.1, hk1.at hin (by omega) (by intro t ht; first | exact absurd ht List.not_mem_nil | (simp only [List.mem_cons, List.not_mem_nil, or_false] at ht; omega)) hB.2.2.1, hk1.at hin (by omega) (by intro t ht; first | exact absurd ht List.not_mem_nil | (simp only [List.mem_cons, List.not_mem_nil, or_false] at ht; omega)) hB.2.2.2.1, hk1.at hin (by omega) (by intro t ht; first | exact absurd ht List.not_mem_nil | (simp only [List.mem_cons, List.not_mem_nil, or_false] at ht; omega)) hB.2.2.2.2.1, hq1, hq2, hq0⟩
  have hgd0 : σ1 (if v.1 = 0 then (if (xs (nI i + 1).toNatClampNeg) = 0 then gr 14 else gr 16) else gr 16) = some (cl2 (if v.1 = 0 then (if (xs (nI i + 1).toNatClampNeg) = 0 then (G 14).2.2.2 else (G 16).2.2.2) else (G 16).2.2.2)) := by by_cases q0 : v.1 = 0; (rw [if_pos q0, if_pos q0]; by_cases q1 : (xs (nI i + 1).toNatClampNeg) = 0; (rw [if_pos q1, if_pos q1]; exact hk1.gr hD (by omega) (by intro t ht; first | exact absurd ht List.not_mem_nil | (simp only [List.mem_cons, List.not_mem_nil, or_false] at ht; omega)) g14d); (rw [if_neg q1, if_neg q1]; exact hk1.gr hD (by omega) (by intro t ht; first | exact absurd ht List.not_mem_nil | (simp only [List.mem_cons, List.not_mem_nil, or_false] at ht; omega)) g16d)); (rw [if_neg q0, if_neg q0]; exact hk1.gr hD (by omega) (by intro t ht; first | exact absurd ht List.not_mem_nil | (simp only [List.mem_cons, List.not_mem_nil, or_false] at ht; omega)) g16d)
  have hgd1 : σ1 (if v.1 = 0 then (if (xs (nI i + 1).toNatClampNeg) = 0 then gr 17 else gr 14) else gr 17) = some (cl2 (if v.1 = 0 then (if (xs (nI i + 1).toNatClampNeg) = 0 then (G 17).2.2.2 else (G 14).2.2.2) else (G 17).2.2.2)) := by by_cases q0 : v.1 = 0; (rw [if_pos q0, if_pos q0]; by_cases q1 : (xs (nI i + 1).toNatClampNeg) = 0; (rw [if_pos q1, if_pos q1]; exact hk1.gr hD (by omega) (by intro t ht; first | exact absurd ht List.not_mem_nil | (simp only [List.mem_cons, List.not_mem_nil, or_false] at ht; omega)) g17d); (rw [if_neg q1, if_neg q1]; exact hk1.gr hD (by omega) (by intro t ht; first | exact absurd ht List.not_mem_nil | (simp only [List.mem_cons, List.not_mem_nil, or_false] at ht; omega)) g14d)); (rw [if_neg q0, if_neg q0]; exact hk1.gr hD (by omega) (by intro t ht; first | exact absurd ht List.not_mem_nil | (simp only [List.mem_cons, List.not_mem_nil, or_false] at ht; omega)) g17d)
  have hG1 : ∀ u7, u7 < 18 → GW K ad (putN (putN gr 16 (if v.1 = 0 then (if (xs (nI i + 1).toNatClampNeg) = 0 then gr 14 else gr 16) else gr 16)) 17 (if v.1 = 0 then (if (xs (nI i + 1).toNatClampNeg) = 0 then gr 17 else gr 14) else gr 17)) (putR (putR G 16 (v.2.2.2.2.2.2.2.1, v.2.2.2.2.2.2.2.2.1, v.2.2.2.2.2.2.2.2.2, (if v.1 = 0 then (if (xs (nI i + 1).toNatClampNeg) = 0 then (G 14).2.2.2 else (G 16).2.2.2) else (G 16).2.2.2))) 17 (v.2.2.2.2.1, v.2.2.2.2.2.1, v.2.2.2.2.2.2.1, (if v.1 = 0 then (if (xs (nI i + 1).toNatClampNeg) = 0 then (G 17).2.2.2 else (G 14).2.2.2) else (G 17).2.2.2))) σ1 u7 := by
    intro u7 hi18
    by_cases hu0 : u7 = 17
    · rw [hu0]
      exact GW_mk (hq3) (hq4) (hq5) (hgd1) (by rw [putN_at]) (by rw [putR_at])
    · by_cases hu1 : u7 = 16
      · rw [hu1]
        exact GW_mk (hq6) (hq7) (hq8) (hgd0) (by rw [putN_ne (show ¬ 16 = 17 by omega), putN_at]) (by rw [putR_ne (show ¬ 16 = 17 by omega), putR_at])
      · exact GW_same (by rw [putN_ne hu0, putN_ne hu1]) (by rw [putR_ne hu0, putR_ne hu1]) (GW_keep hk1 hin hD hi18 (by intro t ht; first | exact absurd ht List.not_mem_nil | (simp only [List.mem_cons, List.not_mem_nil, or_false] at ht; omega)) (hG u7 hi18))
  have hD1 := (GD_put (x := 17) (a := (if v.1 = 0 then (if (xs (nI i + 1).toNatClampNeg) = 0 then gr 17 else gr 14) else gr 17)) (GD_put (x := 16) (a := (if v.1 = 0 then (if (xs (nI i + 1).toNatClampNeg) = 0 then gr 14 else gr 16) else gr 16)) hD (fun j hj => by by_cases q0 : v.1 = 0; (rw [if_pos q0]; by_cases q1 : (xs (nI i + 1).toNatClampNeg) = 0; (rw [if_pos q1]; exact hD 14 j (by omega) hj); (rw [if_neg q1]; exact hD 16 j (by omega) hj)); (rw [if_neg q0]; exact hD 16 j (by omega) hj))) (fun j hj => by by_cases q0 : v.1 = 0; (rw [if_pos q0]; by_cases q1 : (xs (nI i + 1).toNatClampNeg) = 0; (rw [if_pos q1]; exact hD 17 j (by omega) hj); (rw [if_neg q1]; exact hD 14 j (by omega) hj)); (rw [if_neg q0]; exact hD 17 j (by omega) hj)))
  have hR1 := RW_keep hk1 hin (by intro t ht; first | exact absurd ht List.not_mem_nil | (simp only [List.mem_cons, List.not_mem_nil, or_false] at ht; omega)) hR
  refine lv_istore (lv' := [(5, .int v.1), (0, .ref b), (1, .ref (ad 0)), (2, .ref (ad 8)), (3, .ref (ad 7)), (4, .int (nI i))]) hx hb dL_law_1346 hl (by decide) rfl (fun ls hl => ?_)
  refine lv_aload_n hx hb dL_law_1348 rfl (lv_at hl 3 rfl) ?_
  refine lv_aload_n hx hb dL_law_1349 rfl (lv_at hl 1 rfl) ?_
  refine lv_iload hx hb dL_law_1350 (lv_at hl 5 rfl) ?_
  refine lv_iconst (v := 1) hx hb dL_law_1352 (by decide) ?_
  refine lv_iadd hx hb dL_law_1353 ?_
  refine va_sld hx hb hxs hbl hbA hS hi1 dL_law_1354 ?_
  refine mw_wi (mw_runV (As := [.int (xs (nI i + 1).toNatClampNeg)]) (rest := []) (ci := 6) (C := RX8) (T := TX8) (N := 19) hC hM1 hS hR1.1 rfl (c_X8_save (hc_t := hR1.1) (hc_t_now := hR1.2.2.1) (hc_t_kept := hR1.2.2.2.2.2.1) (hc_t_isKept := hR1.2.2.2.2.2.2.1) (n_t_t_isKept := inj_ne hin (by omega) (by omega) (by omega)) (n_t_t_kept := inj_ne hin (by omega) (by omega) (by omega)) (n_t_t_now := inj_ne hin (by omega) (by omega) (by omega)) (n_t_isKept_t_kept := inj_ne hin (by omega) (by omega) (by omega)) (n_t_isKept_t_now := inj_ne hin (by omega) (by omega) (by omega)) (n_t_kept_t_now := inj_ne hin (by omega) (by omega) (by omega)) (h := hs)) gL_law_X8_save rfl rfl rfl rfl q_X8_save ⟨Nat.le_of_ble_eq_true rfl, Nat.le_of_ble_eq_true rfl⟩ rfl rfl (Nat.le_of_ble_eq_true rfl) hl.1 dL_law_1355 ⟨hcc, hss⟩) hS (fun r8 H locs σ2 hp hM2 hS => ?_)
  obtain ⟨hr8, hm0, hm1, hm2, ho2⟩ := hp
  replace hr8 : s9.1 = r8 := hr8.symm
  subst hr8
  have hk2 : KE ad [8, 13, 14] σ1 σ2 := fun q f hq hn => ho2 q f hq (hn _ (List.Mem.head _)) (hn _ (List.Mem.tail _ (List.Mem.head _))) (hn _ (List.Mem.tail _ (List.Mem.tail _ (List.Mem.head _))))
  have hR2 : RW K ad s9.2.1 tx fn ft fd s9.2.2.1 s9.2.2.2 fo fc fl σ2 := ⟨hm0, hk2.at hin (by omega) (by intro t ht; first | exact absurd ht List.not_mem_nil | (simp only [List.mem_cons, List.not_mem_nil, or_false] at ht; omega)) hR1.2.1, hk2.at hin (by omega) (by intro t ht; first | exact absurd ht List.not_mem_nil | (simp only [List.mem_cons, List.not_mem_nil, or_false] at ht; omega)) hR1.2.2.1, hk2.at hin (by omega) (by intro t ht; first | exact absurd ht List.not_mem_nil | (simp only [List.mem_cons, List.not_mem_nil, or_false] at ht; omega)) hR1.2.2.2.1, hk2.at hin (by omega) (by intro t ht; first | exact absurd ht List.not_mem_nil | (simp only [List.mem_cons, List.not_mem_nil, or_false] at ht; omega)) hR1.2.2.2.2.1, hm1, hm2, hk2.at hin (by omega) (by intro t ht; first | exact absurd ht List.not_mem_nil | (simp only [List.mem_cons, List.not_mem_nil, or_false] at ht; omega)) hR1.2.2.2.2.2.2.2.1, hk2.at hin (by omega) (by intro t ht; first | exact absurd ht List.not_mem_nil | (simp only [List.mem_cons, List.not_mem_nil, or_false] at ht; omega)) hR1.2.2.2.2.2.2.2.2.1, hk2.at hin (by omega) (by intro t ht; first | exact absurd ht List.not_mem_nil | (simp only [List.mem_cons, List.not_mem_nil, or_false] at ht; omega)) hR1.2.2.2.2.2.2.2.2.2⟩
  have hB2 := BW_keep hk2 hin (by intro t ht; first | exact absurd ht List.not_mem_nil | (simp only [List.mem_cons, List.not_mem_nil, or_false] at ht; omega)) hB1
  have hG2 := GA_keep hk2 hin hD1 (by intro t ht; first | exact absurd ht List.not_mem_nil | (simp only [List.mem_cons, List.not_mem_nil, or_false] at ht; omega)) hG1
  have hP2 : PR ad (putR (putR G 16 (v.2.2.2.2.2.2.2.1, v.2.2.2.2.2.2.2.2.1, v.2.2.2.2.2.2.2.2.2, (if v.1 = 0 then (if (xs (nI i + 1).toNatClampNeg) = 0 then (G 14).2.2.2 else (G 16).2.2.2) else (G 16).2.2.2))) 17 (v.2.2.2.2.1, v.2.2.2.2.2.1, v.2.2.2.2.2.2.1, (if v.1 = 0 then (if (xs (nI i + 1).toNatClampNeg) = 0 then (G 17).2.2.2 else (G 14).2.2.2) else (G 17).2.2.2))) (nI len) ch (nI mo, nI ma) rg v.2.2.1 v.2.2.2.1 s9.2.1 tx fn fd s9.2.2.1 s9.2.2.2 := ⟨len, cd, mo, ma, rfl, hsame.1.trans e2, e3, rfl, hsame.2.trans e5, memR_congr e6 (fun i hi => by rw [putR_ne (show ¬ i = 17 by omega), putR_ne (show ¬ i = 16 by omega)]), e7, (by rw [putR_ne (show ¬ 16 = 17 by omega), putR_at]; exact hs0), (by rw [putR_at]; exact hs1), (by rw [putR_ne (show ¬ 14 = 17 by omega), putR_ne (show ¬ 14 = 16 by omega)]; exact e10)⟩
  have hREL : REL K ad σ2 := ⟨_, _, _, _, _, _, _, _, _, _, _, _, _, _, _, _, _, _, _, hB2, hG2, hD1, hR2, hP2⟩
  refine lv_istore (lv' := [(6, .int s9.1), (5, .int v.1), (0, .ref b), (1, .ref (ad 0)), (2, .ref (ad 8)), (3, .ref (ad 7)), (4, .int (nI i))]) hx hb dL_law_1358 hl (by decide) rfl (fun ls hl => ?_)
  refine lv_aload_n hx hb dL_law_1360 rfl (lv_at hl 4 rfl) ?_
  refine mw_ci (v := s9.2.1.1) (mw_runV (As := []) (rest := []) (ci := 6) (C := RX8) (T := TX8) (N := 19) hC hM2 hS hR2.1 rfl (c_X8_thrown (hc_t := hR2.1) (h := rfl)) gL_law_X8_thrown rfl rfl rfl rfl q_X8_thrown ⟨Nat.le_of_ble_eq_true rfl, Nat.le_of_ble_eq_true rfl⟩ rfl rfl (Nat.le_of_ble_eq_true rfl) hl.1 dL_law_1361 ⟨hcc, hss⟩) ?_
  refine lv_iload hx hb dL_law_1364 (lv_at hl 1 rfl) ?_
  have fin : W p l e room_1 s m #[Value.ref b] below meth c H locs (cells + 1) (slots + 6) Q (F0 m 1447 ls []) := kk H locs σ2 ls hM2 hS hREL (lv_sub hl [2, 3, 4, 5, 6] rfl)
  refine lv_icmp_eq (tgt := 1371) hx hb dL_law_1366 (by decide) (fun c9 => ?_) (fun c9 => absurd hy9 c9)
  refine lv_iload hx hb dL_law_1371 (lv_at hl 1 rfl) ?_
  refine lv_if_ne (tgt := 1388) hx hb dL_law_1373 (by decide) (fun c8 => ?_) (fun c8 => ?_)
  · exact lv_goto (tgt := 1447) hx hb dL_law_1388 (by decide) fin
  · refine lv_aload_n hx hb dL_law_1376 rfl (lv_at hl 5 rfl) ?_
    refine lv_iconst (v := 0) hx hb dL_law_1377 (by decide) ?_
    refine mw_ldJ hC hM2 hB2.2.2.2.2.2.2.2 (i := 0) vp_in_01 dL_law_1378 ?_
    refine lv_iload hx hb dL_law_1379 (lv_at hl 0 rfl) ?_
    refine lv_i2l (v := (s9.1).toInt64) hx hb dL_law_1381 rfl ?_
    refine W.lcmp hx hb dL_law_1382 ?_
    exact lv_if_eq (tgt := 1388) hx hb dL_law_1383 (by decide) (fun _ => lv_goto (tgt := 1447) hx hb dL_law_1388 (by decide) fin) (fun c9 => absurd ((lg_cmp_eq _ _).mpr (hv9 c8)) c9)
set_option maxHeartbeats 4000000 in
set_option maxRecDepth 100000 in
theorem lwc_24 {p : Program} {l : Launch} {e : Env} {s : State} {m : MethodId} {below : List Frame} {meth : Method} {c : Code} {D : va_G} {K : Nat → ClassId} {H : Heap} {locs : List Loc} {cells slots b L i : Nat} {xs : Nat → Int32} {Q : State → Prop} {σ : mwm} {ad : Nat → Nat} {ls : Array Slot} (hC : CF p m c cL_law 8 s #[Value.ref b] wsL_law RL s.heap.size D K) (hX : SX s.heap.size s) (hlt : l.stackTraces = false) (hk162 : (Cond.constantLong RL 162 4294967295).before #[Value.ref b] s = true) (hxs : va_X b L xs s s.heap) (hbl : b < s.heap.size) (hin : inj72 ad) (hR0 : REL K ad σ) (hM : MW s.heap.size D σ H) (hS : va_S (zA s.heap.size) s.heap H locs) (hl : lv_has ls 8 [(0, .ref b), (1, .ref (ad 0)), (2, .ref (ad 8)), (3, .ref (ad 7)), (4, .int (nI i))]) (hi : i + 4 ≤ L) (hL : L ≤ 2048) (hcc : cells + 1 ≤ 601024) (hss : slots + 6 ≤ 7293034) (kk : ∀ (H1 : Heap) (locs1 : List Loc) (σ1 : mwm) (ls1 : Array Slot), MW s.heap.size D σ1 H1 → va_S (zA s.heap.size) s.heap H1 locs1 → REL K ad σ1 → lv_has ls1 8 [(0, .ref b), (1, .ref (ad 0)), (2, .ref (ad 8)), (3, .ref (ad 7)), (4, .int (nI i))] → W p l e room_1 s m #[Value.ref b] below meth c H1 locs1 (cells + 1) (slots + 6) Q (F0 m 1447 ls1 [])) : W p l e room_1 s m #[Value.ref b] below meth c H locs cells slots Q (F0 m 1391 ls []) := by
  have hx := hC.1.1
  have hb := hC.1.2.1
  have hown := hC.1.2.2.2.1
  have hbA : ¬ zA s.heap.size b := Nat.not_le.mpr hbl
  have hi1 : vp_in (nI i + 1) L := by rw [show nI i + 1 = nI (i + 1) from nI_add i 1]; exact vp_in_nI (by omega) (by omega)
  have hi2 : vp_in (nI i + 2) L := by rw [show nI i + 2 = nI (i + 2) from nI_add i 2]; exact vp_in_nI (by omega) (by omega)
  have hi3 : vp_in (nI i + 3) L := by rw [show nI i + 3 = nI (i + 3) from nI_add i 3]; exact vp_in_nI (by omega) (by omega)
  obtain ⟨gr, G, wt, ch, mem, rg, S0, S1, o, y, tx, fn, ft, fd, fk, fik, fo, fc, fl, hB, hG, hD, hR, hP⟩ := hR0
  obtain ⟨len, cd, mo, ma, e1, e2, e3, e4, e5, e6, e7, e8, e9, e10⟩ := id hP
  subst e1
  subst e4
  obtain ⟨n, rule, mv, ps, pr, c0, c1, hGR⟩ := id e10
  obtain ⟨g14a, g14b, g14c, g14d⟩ := id (hG 14 (by omega))
  have g14a : σ (ad 60) = some (cl0 (ad 61) (ad 62) (gr 14) (G 14).1) := g14a
  have g14b : σ (ad 61) = some (eJ K 121 (G 14).2.1) := g14b
  have g14c : σ (ad 62) = some (eJ K 121 (G 14).2.2.1) := g14c
  obtain ⟨g15a, g15b, g15c, g15d⟩ := id (hG 15 (by omega))
  have g15a : σ (ad 63) = some (cl0 (ad 64) (ad 65) (gr 15) (G 15).1) := g15a
  have g15b : σ (ad 64) = some (eJ K 121 (G 15).2.1) := g15b
  have g15c : σ (ad 65) = some (eJ K 121 (G 15).2.2.1) := g15c
  obtain ⟨g16a, g16b, g16c, g16d⟩ := id (hG 16 (by omega))
  have g16a : σ (ad 66) = some (cl0 (ad 67) (ad 68) (gr 16) (G 16).1) := g16a
  have g16b : σ (ad 67) = some (eJ K 121 (G 16).2.1) := g16b
  have g16c : σ (ad 68) = some (eJ K 121 (G 16).2.2.1) := g16c
  obtain ⟨g17a, g17b, g17c, g17d⟩ := id (hG 17 (by omega))
  have g17a : σ (ad 69) = some (cl0 (ad 70) (ad 71) (gr 17) (G 17).1) := g17a
  have g17b : σ (ad 70) = some (eJ K 121 (G 17).2.1) := g17b
  have g17c : σ (ad 71) = some (eJ K 121 (G 17).2.2.1) := g17c
  have e10' : gameR ((G 14).1, (G 14).2.1, (G 14).2.2.1, (G 14).2.2.2) fn := e10
  obtain ⟨v, s9, hr, hs, hy9, hval, ht9, ⟨a', ha1, ha2, ha3⟩, hgN⟩ := restore_act (o := mo) e10' (xs (nI i + 1).toNatClampNeg) e5 o S0 S1 e8 e9
  have hv9 : v.1 = 0 → v.2.1 (0 : Int32).toNatClampNeg = s9.1.toInt64 := fun z => hval z
  refine lv_aload_n hx hb dL_law_1391 rfl (lv_at hl 1 rfl) ?_
  refine lv_aload_n hx hb dL_law_1392 rfl (lv_at hl 0 rfl) ?_
  refine lv_iload hx hb dL_law_1393 (lv_at hl 4 rfl) ?_
  refine lv_iconst (v := 1) hx hb dL_law_1395 (by decide) ?_
  refine lv_iadd hx hb dL_law_1396 ?_
  refine va_sld hx hb hxs hbl hbA hS hi1 dL_law_1397 ?_
  refine lv_aload_n hx hb dL_law_1398 rfl (lv_at hl 3 rfl) ?_
  refine mw_wi (mw_runSW (As := [.ref (ad 0), .int (xs (nI i + 1).toNatClampNeg), .ref (ad 7)]) (rest := []) hC hX hM hS (c_L_restore (hc_p0 := hB.1) (hc_p2 := hB.2.2.2.2.2.2.2) (hc_p0_now := g14a) (hc_p0_memory := hB.2.2.2.1) (hc_p0_slot0 := hB.2.2.2.2.2.1) (hc_p0_slot1 := hB.2.2.2.2.2.2.1) (hc_p0_slot1_kept := g17a) (hc_p0_now_before0 := g14b) (hc_p0_now_before1 := g14c) (hc_p0_slot1_kept_before0 := g17b) (hc_p0_slot1_kept_before1 := g17c) (hc_p0_slot0_kept := g16a) (hc_p0_slot0_kept_before0 := g16b) (hc_p0_slot0_kept_before1 := g16c) (n_p0_p0_memory := inj_ne hin (by omega) (by omega) (by omega)) (n_p0_p0_now := inj_ne hin (by omega) (by omega) (by omega)) (n_p0_p0_now_before0 := inj_ne hin (by omega) (by omega) (by omega)) (n_p0_p0_now_before1 := inj_ne hin (by omega) (by omega) (by omega)) (n_p0_memory_p0_now := inj_ne hin (by omega) (by omega) (by omega)) (n_p0_memory_p0_now_before0 := inj_ne hin (by omega) (by omega) (by omega)) (n_p0_memory_p0_now_before1 := inj_ne hin (by omega) (by omega) (by omega)) (n_p0_memory_p2 := inj_ne hin (by omega) (by omega) (by omega)) (n_p0_now_p0_now_before0 := inj_ne hin (by omega) (by omega) (by omega)) (n_p0_now_p0_now_before1 := inj_ne hin (by omega) (by omega) (by omega)) (n_p0_now_p0_slot0_kept := inj_ne hin (by omega) (by omega) (by omega)) (n_p0_now_p0_slot0_kept_before0 := inj_ne hin (by omega) (by omega) (by omega)) (n_p0_now_p0_slot0_kept_before1 := inj_ne hin (by omega) (by omega) (by omega)) (n_p0_now_p0_slot1_kept := inj_ne hin (by omega) (by omega) (by omega)) (n_p0_now_p0_slot1_kept_before0 := inj_ne hin (by omega) (by omega) (by omega)) (n_p0_now_p0_slot1_kept_before1 := inj_ne hin (by omega) (by omega) (by omega)) (n_p0_now_p2 := inj_ne hin (by omega) (by omega) (by omega)) (n_p0_now_before0_p0_now_before1 := inj_ne hin (by omega) (by omega) (by omega)) (n_p0_now_before0_p0_slot0_kept := inj_ne hin (by omega) (by omega) (by omega)) (n_p0_now_before0_p0_slot0_kept_before0 := inj_ne hin (by omega) (by omega) (by omega)) (n_p0_now_before0_p0_slot0_kept_before1 := inj_ne hin (by omega) (by omega) (by omega)) (n_p0_now_before0_p0_slot1_kept := inj_ne hin (by omega) (by omega) (by omega)) (n_p0_now_before0_p0_slot1_kept_before0 := inj_ne hin (by omega) (by omega) (by omega)) (n_p0_now_before0_p0_slot1_kept_before1 := inj_ne hin (by omega) (by omega) (by omega)) (n_p0_now_before0_p2 := inj_ne hin (by omega) (by omega) (by omega)) (n_p0_now_before1_p0_slot0_kept := inj_ne hin (by omega) (by omega) (by omega)) (n_p0_now_before1_p0_slot0_kept_before0 := inj_ne hin (by omega) (by omega) (by omega)) (n_p0_now_before1_p0_slot0_kept_before1 := inj_ne hin (by omega) (by omega) (by omega)) (n_p0_now_before1_p0_slot1_kept := inj_ne hin (by omega) (by omega) (by omega)) (n_p0_now_before1_p0_slot1_kept_before0 := inj_ne hin (by omega) (by omega) (by omega)) (n_p0_now_before1_p0_slot1_kept_before1 := inj_ne hin (by omega) (by omega) (by omega)) (n_p0_now_before1_p2 := inj_ne hin (by omega) (by omega) (by omega)) (hlt := hlt) (h := hr)) gL_law_L_restore rfl rfl rfl q_L_restore ⟨Nat.le_of_ble_eq_true rfl, Nat.le_of_ble_eq_true rfl⟩ rfl rfl (Nat.le_of_ble_eq_true rfl) hl.1 dL_law_1399 ⟨hcc, hss⟩) hS (fun r9 H locs σ1 hp hM1 hS => ?_)
  obtain ⟨hr9, hq0, hq1, hq2, hq3, hq4, ho⟩ := hp
  replace hr9 : v.1 = r9 := hr9.symm
  subst hr9
  have hk1 : KE ad [7, 60, 3, 61, 62] σ σ1 := fun q f hq hn => ho q f hq (hn _ (List.Mem.head _)) (hn _ (List.Mem.tail _ (List.Mem.head _))) (hn _ (List.Mem.tail _ (List.Mem.tail _ (List.Mem.head _)))) (hn _ (List.Mem.tail _ (List.Mem.tail _ (List.Mem.tail _ (List.Mem.head _))))) (hn _ (List.Mem.tail _ (List.Mem.tail _ (List.Mem.tail _ (List.Mem.tail _ (List.Mem.head _))))))
  have hB1 : BW K ad (nI len) ch v.2.2.2.1 rg S0 S1 v.2.1 σ1 := ⟨hk1.at hin (by omega) (by intro t ht; first | exact absurd ht List.not_mem_nil | (simp only [List.mem_cons, List.not_mem_nil, or_false] at ht; omega)) hB.1, hk1.at hin (by omega) (by intro t ht; first | exact absurd ht List.not_mem_nil | (simp only [List.mem_cons, List.not_mem_nil, or_false] at ht; omega)) hB.2.1, hk1.at hin (by omega) (by intro t ht; first | exact absurd ht List.not_mem_nil | (simp only [List.mem_cons, List.not_mem_nil, or_false] at ht; omega)) hB.2.2.1, hq2, hk1.at hin (by omega) (by intro t ht; first | exact absurd ht List.not_mem_nil | (simp only [List.mem_cons, List.not_mem_nil, or_false] at ht; omega)) hB.2.2.2.2.1, hk1.at hin (by omega) (by intro t ht; first | exact absurd ht List.not_mem_nil | (simp only [List.mem_cons, List.not_mem_nil, or_false] at ht; omega)) hB.2.2.2.2.2.1, hk1.at hin (by omega) (by intro t ht; first | exact absurd ht List.not_mem_nil | (simp only [List.mem_cons, List.not_mem_nil, or_false] at ht; omega)) hB.2.2.2.2.2.2.1, hq0⟩
  have hgd0 : σ1 (if v.1 = 0 then (if (xs (nI i + 1).toNatClampNeg) = 0 then gr 16 else gr 17) else gr 14) = some (cl2 (if v.1 = 0 then (if (xs (nI i + 1).toNatClampNeg) = 0 then (G 16).2.2.2 else (G 17).2.2.2) else (G 14).2.2.2)) := by by_cases q0 : v.1 = 0; (rw [if_pos q0, if_pos q0]; by_cases q1 : (xs (nI i + 1).toNatClampNeg) = 0; (rw [if_pos q1, if_pos q1]; exact hk1.gr hD (by omega) (by intro t ht; first | exact absurd ht List.not_mem_nil | (simp only [List.mem_cons, List.not_mem_nil, or_false] at ht; omega)) g16d); (rw [if_neg q1, if_neg q1]; exact hk1.gr hD (by omega) (by intro t ht; first | exact absurd ht List.not_mem_nil | (simp only [List.mem_cons, List.not_mem_nil, or_false] at ht; omega)) g17d)); (rw [if_neg q0, if_neg q0]; exact hk1.gr hD (by omega) (by intro t ht; first | exact absurd ht List.not_mem_nil | (simp only [List.mem_cons, List.not_mem_nil, or_false] at ht; omega)) g14d)
  have hG1 : ∀ u7, u7 < 18 → GW K ad (putN gr 14 (if v.1 = 0 then (if (xs (nI i + 1).toNatClampNeg) = 0 then gr 16 else gr 17) else gr 14)) (putR G 14 (v.2.2.1, v.2.2.2.2.1, v.2.2.2.2.2, (if v.1 = 0 then (if (xs (nI i + 1).toNatClampNeg) = 0 then (G 16).2.2.2 else (G 17).2.2.2) else (G 14).2.2.2))) σ1 u7 := by
    intro u7 hi18
    by_cases hu0 : u7 = 14
    · rw [hu0]
      exact GW_mk (hq1) (hq3) (hq4) (hgd0) (by rw [putN_at]) (by rw [putR_at])
    · exact GW_same (by rw [putN_ne hu0]) (by rw [putR_ne hu0]) (GW_keep hk1 hin hD hi18 (by intro t ht; first | exact absurd ht List.not_mem_nil | (simp only [List.mem_cons, List.not_mem_nil, or_false] at ht; omega)) (hG u7 hi18))
  have hD1 := (GD_put (x := 14) (a := (if v.1 = 0 then (if (xs (nI i + 1).toNatClampNeg) = 0 then gr 16 else gr 17) else gr 14)) hD (fun j hj => by by_cases q0 : v.1 = 0; (rw [if_pos q0]; by_cases q1 : (xs (nI i + 1).toNatClampNeg) = 0; (rw [if_pos q1]; exact hD 16 j (by omega) hj); (rw [if_neg q1]; exact hD 17 j (by omega) hj)); (rw [if_neg q0]; exact hD 14 j (by omega) hj)))
  have hR1 := RW_keep hk1 hin (by intro t ht; first | exact absurd ht List.not_mem_nil | (simp only [List.mem_cons, List.not_mem_nil, or_false] at ht; omega)) hR
  refine lv_istore (lv' := [(5, .int v.1), (0, .ref b), (1, .ref (ad 0)), (2, .ref (ad 8)), (3, .ref (ad 7)), (4, .int (nI i))]) hx hb dL_law_1402 hl (by decide) rfl (fun ls hl => ?_)
  refine lv_aload_n hx hb dL_law_1404 rfl (lv_at hl 3 rfl) ?_
  refine lv_aload_n hx hb dL_law_1405 rfl (lv_at hl 1 rfl) ?_
  refine lv_iload hx hb dL_law_1406 (lv_at hl 5 rfl) ?_
  refine lv_iconst (v := 1) hx hb dL_law_1408 (by decide) ?_
  refine lv_iadd hx hb dL_law_1409 ?_
  refine va_sld hx hb hxs hbl hbA hS hi1 dL_law_1410 ?_
  refine mw_wi (mw_runV (As := [.int (xs (nI i + 1).toNatClampNeg)]) (rest := []) (ci := 6) (C := RX8) (T := TX8) (N := 19) hC hM1 hS hR1.1 rfl (c_X8_restore (hc_t := hR1.1) (hc_t_now := hR1.2.2.1) (hc_t_kept := hR1.2.2.2.2.2.1) (hc_t_isKept := hR1.2.2.2.2.2.2.1) (n_t_t_kept := inj_ne hin (by omega) (by omega) (by omega)) (n_t_t_now := inj_ne hin (by omega) (by omega) (by omega)) (n_t_kept_t_now := inj_ne hin (by omega) (by omega) (by omega)) (h := hs)) gL_law_X8_restore rfl rfl rfl rfl q_X8_restore ⟨Nat.le_of_ble_eq_true rfl, Nat.le_of_ble_eq_true rfl⟩ rfl rfl (Nat.le_of_ble_eq_true rfl) hl.1 dL_law_1411 ⟨hcc, hss⟩) hS (fun r8 H locs σ2 hp hM2 hS => ?_)
  obtain ⟨hr8, hm0, hm1, ho2⟩ := hp
  replace hr8 : s9.1 = r8 := hr8.symm
  subst hr8
  have hk2 : KE ad [8, 10] σ1 σ2 := fun q f hq hn => ho2 q f hq (hn _ (List.Mem.head _)) (hn _ (List.Mem.tail _ (List.Mem.head _)))
  have hR2 : RW K ad s9.2.1 tx s9.2.2 ft fd fk fik fo fc fl σ2 := ⟨hm0, hk2.at hin (by omega) (by intro t ht; first | exact absurd ht List.not_mem_nil | (simp only [List.mem_cons, List.not_mem_nil, or_false] at ht; omega)) hR1.2.1, hm1, hk2.at hin (by omega) (by intro t ht; first | exact absurd ht List.not_mem_nil | (simp only [List.mem_cons, List.not_mem_nil, or_false] at ht; omega)) hR1.2.2.2.1, hk2.at hin (by omega) (by intro t ht; first | exact absurd ht List.not_mem_nil | (simp only [List.mem_cons, List.not_mem_nil, or_false] at ht; omega)) hR1.2.2.2.2.1, hk2.at hin (by omega) (by intro t ht; first | exact absurd ht List.not_mem_nil | (simp only [List.mem_cons, List.not_mem_nil, or_false] at ht; omega)) hR1.2.2.2.2.2.1, hk2.at hin (by omega) (by intro t ht; first | exact absurd ht List.not_mem_nil | (simp only [List.mem_cons, List.not_mem_nil, or_false] at ht; omega)) hR1.2.2.2.2.2.2.1, hk2.at hin (by omega) (by intro t ht; first | exact absurd ht List.not_mem_nil | (simp only [List.mem_cons, List.not_mem_nil, or_false] at ht; omega)) hR1.2.2.2.2.2.2.2.1, hk2.at hin (by omega) (by intro t ht; first | exact absurd ht List.not_mem_nil | (simp only [List.mem_cons, List.not_mem_nil, or_false] at ht; omega)) hR1.2.2.2.2.2.2.2.2.1, hk2.at hin (by omega) (by intro t ht; first | exact absurd ht List.not_mem_nil | (simp only [List.mem_cons, List.not_mem_nil, or_false] at ht; omega)) hR1.2.2.2.2.2.2.2.2.2⟩
  have hB2 := BW_keep hk2 hin (by intro t ht; first | exact absurd ht List.not_mem_nil | (simp only [List.mem_cons, List.not_mem_nil, or_false] at ht; omega)) hB1
  have hG2 := GA_keep hk2 hin hD1 (by intro t ht; first | exact absurd ht List.not_mem_nil | (simp only [List.mem_cons, List.not_mem_nil, or_false] at ht; omega)) hG1
  have hP2 : PR ad (putR G 14 (v.2.2.1, v.2.2.2.2.1, v.2.2.2.2.2, (if v.1 = 0 then (if (xs (nI i + 1).toNatClampNeg) = 0 then (G 16).2.2.2 else (G 17).2.2.2) else (G 14).2.2.2))) (nI len) ch v.2.2.2.1 rg S0 S1 s9.2.1 tx s9.2.2 fd fk fik := ⟨len, cd, mo, a', rfl, ht9.trans e2, e3, ha2, ha3, memR_congr (memR_less e6 ha1) (fun i hi => putR_ne (by omega)), e7, (by rw [putR_ne (show ¬ 16 = 14 by omega)]; exact e8), (by rw [putR_ne (show ¬ 17 = 14 by omega)]; exact e9), (by rw [putR_at]; exact hgN)⟩
  have hREL : REL K ad σ2 := ⟨_, _, _, _, _, _, _, _, _, _, _, _, _, _, _, _, _, _, _, hB2, hG2, hD1, hR2, hP2⟩
  refine lv_istore (lv' := [(6, .int s9.1), (5, .int v.1), (0, .ref b), (1, .ref (ad 0)), (2, .ref (ad 8)), (3, .ref (ad 7)), (4, .int (nI i))]) hx hb dL_law_1414 hl (by decide) rfl (fun ls hl => ?_)
  refine lv_aload_n hx hb dL_law_1416 rfl (lv_at hl 4 rfl) ?_
  refine mw_ci (v := s9.2.1.1) (mw_runV (As := []) (rest := []) (ci := 6) (C := RX8) (T := TX8) (N := 19) hC hM2 hS hR2.1 rfl (c_X8_thrown (hc_t := hR2.1) (h := rfl)) gL_law_X8_thrown rfl rfl rfl rfl q_X8_thrown ⟨Nat.le_of_ble_eq_true rfl, Nat.le_of_ble_eq_true rfl⟩ rfl rfl (Nat.le_of_ble_eq_true rfl) hl.1 dL_law_1417 ⟨hcc, hss⟩) ?_
  refine lv_iload hx hb dL_law_1420 (lv_at hl 1 rfl) ?_
  have fin : W p l e room_1 s m #[Value.ref b] below meth c H locs (cells + 1) (slots + 6) Q (F0 m 1447 ls []) := kk H locs σ2 ls hM2 hS hREL (lv_sub hl [2, 3, 4, 5, 6] rfl)
  refine lv_icmp_eq (tgt := 1427) hx hb dL_law_1422 (by decide) (fun c9 => ?_) (fun c9 => absurd hy9 c9)
  refine lv_iload hx hb dL_law_1427 (lv_at hl 1 rfl) ?_
  refine lv_if_ne (tgt := 1444) hx hb dL_law_1429 (by decide) (fun c8 => ?_) (fun c8 => ?_)
  · exact lv_goto (tgt := 1447) hx hb dL_law_1444 (by decide) fin
  · refine lv_aload_n hx hb dL_law_1432 rfl (lv_at hl 5 rfl) ?_
    refine lv_iconst (v := 0) hx hb dL_law_1433 (by decide) ?_
    refine mw_ldJ hC hM2 hB2.2.2.2.2.2.2.2 (i := 0) vp_in_01 dL_law_1434 ?_
    refine lv_iload hx hb dL_law_1435 (lv_at hl 0 rfl) ?_
    refine lv_i2l (v := (s9.1).toInt64) hx hb dL_law_1437 rfl ?_
    refine W.lcmp hx hb dL_law_1438 ?_
    exact lv_if_eq (tgt := 1444) hx hb dL_law_1439 (by decide) (fun _ => lv_goto (tgt := 1447) hx hb dL_law_1444 (by decide) fin) (fun c9 => absurd ((lg_cmp_eq _ _).mpr (hv9 c8)) c9)
