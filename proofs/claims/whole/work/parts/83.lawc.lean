set_option maxHeartbeats 4000000 in
set_option maxRecDepth 100000 in
theorem lwc_10 {p : Program} {l : Launch} {e : Env} {s : State} {m : MethodId} {below : List Frame} {meth : Method} {c : Code} {D : va_G} {K : Nat → ClassId} {H : Heap} {locs : List Loc} {cells slots b L i : Nat} {xs : Nat → Int32} {Q : State → Prop} {σ : mwm} {ad : Nat → Nat} {ls : Array Slot} (hC : CF p m c cL_law 8 s #[Value.ref b] wsL_law RL s.heap.size D K) (hX : SX s.heap.size s) (hlt : l.stackTraces = false) (hk162 : (Cond.constantLong RL 162 4294967295).before #[Value.ref b] s = true) (hxs : va_X b L xs s s.heap) (hbl : b < s.heap.size) (hin : inj72 ad) (hR0 : REL K ad σ) (hM : MW s.heap.size D σ H) (hS : va_S (zA s.heap.size) s.heap H locs) (hl : lv_has ls 8 [(0, .ref b), (1, .ref (ad 0)), (2, .ref (ad 8)), (3, .ref (ad 7)), (4, .int (nI i))]) (hi : i + 4 ≤ L) (hL : L ≤ 2048) (hcc : cells + 1 ≤ 601024) (hss : slots + 6 ≤ 7293034) (kk : ∀ (H1 : Heap) (locs1 : List Loc) (σ1 : mwm) (ls1 : Array Slot), MW s.heap.size D σ1 H1 → va_S (zA s.heap.size) s.heap H1 locs1 → REL K ad σ1 → lv_has ls1 8 [(0, .ref b), (1, .ref (ad 0)), (2, .ref (ad 8)), (3, .ref (ad 7)), (4, .int (nI i))] → W p l e room_1 s m #[Value.ref b] below meth c H1 locs1 (cells + 1) (slots + 6) Q (F0 m 1447 ls1 [])) : W p l e room_1 s m #[Value.ref b] below meth c H locs cells slots Q (F0 m 648 ls []) := by
  have hx := hC.1.1
  have hb := hC.1.2.1
  have hown := hC.1.2.2.2.1
  have hbA : ¬ zA s.heap.size b := Nat.not_le.mpr hbl
  have hi1 : vp_in (nI i + 1) L := by rw [show nI i + 1 = nI (i + 1) from nI_add i 1]; exact vp_in_nI (by omega) (by omega)
  have hi2 : vp_in (nI i + 2) L := by rw [show nI i + 2 = nI (i + 2) from nI_add i 2]; exact vp_in_nI (by omega) (by omega)
  have hi3 : vp_in (nI i + 3) L := by rw [show nI i + 3 = nI (i + 3) from nI_add i 3]; exact vp_in_nI (by omega) (by omega)
  obtain ⟨gr, G, wt, ch, mem, rg, S0, S1, o, y, tx, fn, ft, fd, fk, fik, fo, fc, fl, hB, hG, hD, hR, hP⟩ := hR0
  obtain ⟨len, cd, mo, ma, e1, e2, e3, e4, e5, e6, e7, e8, e9, e10⟩ := id hP
  subst e1
  subst e4
  obtain ⟨n, rule, mv, ps, pr, c0, c1, hGR⟩ := id e10
  obtain ⟨g14a, g14b, g14c, g14d⟩ := id (hG 14 (by omega))
  have g14a : σ (ad 60) = some (cl0 (ad 61) (ad 62) (gr 14) (G 14).1) := g14a
  have g14b : σ (ad 61) = some (eJ K 121 (G 14).2.1) := g14b
  have g14c : σ (ad 62) = some (eJ K 121 (G 14).2.2.1) := g14c
  obtain ⟨g15a, g15b, g15c, g15d⟩ := id (hG 15 (by omega))
  have g15a : σ (ad 63) = some (cl0 (ad 64) (ad 65) (gr 15) (G 15).1) := g15a
  have g15b : σ (ad 64) = some (eJ K 121 (G 15).2.1) := g15b
  have g15c : σ (ad 65) = some (eJ K 121 (G 15).2.2.1) := g15c
  obtain ⟨g16a, g16b, g16c, g16d⟩ := id (hG 16 (by omega))
  have g16a : σ (ad 66) = some (cl0 (ad 67) (ad 68) (gr 16) (G 16).1) := g16a
  have g16b : σ (ad 67) = some (eJ K 121 (G 16).2.1) := g16b
  have g16c : σ (ad 68) = some (eJ K 121 (G 16).2.2.1) := g16c
  obtain ⟨g17a, g17b, g17c, g17d⟩ := id (hG 17 (by omega))
  have g17a : σ (ad 69) = some (cl0 (ad 70) (ad 71) (gr 17) (G 17).1) := g17a
  have g17b : σ (ad 70) = some (eJ K 121 (G 17).2.1) := g17b
  have g17c : σ (ad 71) = some (eJ K 121 (G 17).2.2.1) := g17c
  obtain ⟨x, hx14, v, s9, hr, hs, hp9⟩ := board_act (ag := fun i => ad (18 + 3 * i)) e6 hGR e7 e5 o (xs (nI i + 1).toNatClampNeg)
  obtain ⟨hy9, hval, ht9, ⟨o2, a2, hm91, hm92, hm93⟩, hgN⟩ := id hp9
  obtain ⟨gxa, gxb, gxc, gxd⟩ := id (hG x (by omega))
  have hv9 : v.1 = 0 → v.2.1 (0 : Int32).toNatClampNeg = s9.1.toInt64 := fun z => hval z
  refine lv_aload_n hx hb dL_law_648 rfl (lv_at hl 1 rfl) ?_
  refine lv_aload_n hx hb dL_law_649 rfl (lv_at hl 0 rfl) ?_
  refine lv_iload hx hb dL_law_650 (lv_at hl 4 rfl) ?_
  refine lv_iconst (v := 1) hx hb dL_law_652 (by decide) ?_
  refine lv_iadd hx hb dL_law_653 ?_
  refine va_sld hx hb hxs hbl hbA hS hi1 dL_law_654 ?_
  refine lv_aload_n hx hb dL_law_655 rfl (lv_at hl 3 rfl) ?_
  refine mw_wi (mw_runSW (As := [.ref (ad 0), .int (xs (nI i + 1).toNatClampNeg), .ref (ad 7)]) (rest := []) hC hX hM hS (c_L_board (hc_p0 := hB.1) (hc_p2 := hB.2.2.2.2.2.2.2) (hc_x := gxa) (hc_p0_now := g14a) (hc_p0_memory := hB.2.2.2.1) (hc_x_before0 := gxb) (hc_x_before1 := gxc) (hc_p0_memory_ring := hB.2.2.2.2.1) (hc_p0_now_before0 := g14b) (hc_p0_now_before1 := g14c) (hc_p0_now_grid := g14d) (n_p0_p0_memory := inj_ne hin (by omega) (by omega) (by omega)) (n_p0_p0_now := inj_ne hin (by omega) (by omega) (by omega)) (n_p0_p0_now_before0 := inj_ne hin (by omega) (by omega) (by omega)) (n_p0_p0_now_before1 := inj_ne hin (by omega) (by omega) (by omega)) (n_p0_x := inj_ne hin (by omega) (by omega) (by omega)) (n_p0_x_before0 := inj_ne hin (by omega) (by omega) (by omega)) (n_p0_x_before1 := inj_ne hin (by omega) (by omega) (by omega)) (n_p0_memory_p0_memory_ring := inj_ne hin (by omega) (by omega) (by omega)) (n_p0_memory_p0_now := inj_ne hin (by omega) (by omega) (by omega)) (n_p0_memory_p0_now_before0 := inj_ne hin (by omega) (by omega) (by omega)) (n_p0_memory_p0_now_before1 := inj_ne hin (by omega) (by omega) (by omega)) (n_p0_memory_p2 := inj_ne hin (by omega) (by omega) (by omega)) (n_p0_memory_x := inj_ne hin (by omega) (by omega) (by omega)) (n_p0_memory_x_before0 := inj_ne hin (by omega) (by omega) (by omega)) (n_p0_memory_x_before1 := inj_ne hin (by omega) (by omega) (by omega)) (n_p0_memory_ring_p0_now := inj_ne hin (by omega) (by omega) (by omega)) (n_p0_memory_ring_p0_now_before0 := inj_ne hin (by omega) (by omega) (by omega)) (n_p0_memory_ring_p0_now_before1 := inj_ne hin (by omega) (by omega) (by omega)) (n_p0_memory_ring_x := inj_ne hin (by omega) (by omega) (by omega)) (n_p0_memory_ring_x_before0 := inj_ne hin (by omega) (by omega) (by omega)) (n_p0_memory_ring_x_before1 := inj_ne hin (by omega) (by omega) (by omega)) (n_p0_now_p0_now_before0 := inj_ne hin (by omega) (by omega) (by omega)) (n_p0_now_p0_now_before1 := inj_ne hin (by omega) (by omega) (by omega)) (n_p0_now_p2 := inj_ne hin (by omega) (by omega) (by omega)) (n_p0_now_x := inj_ne hin (by omega) (by omega) (by omega)) (n_p0_now_x_before0 := inj_ne hin (by omega) (by omega) (by omega)) (n_p0_now_x_before1 := inj_ne hin (by omega) (by omega) (by omega)) (n_p0_now_before0_p0_now_before1 := inj_ne hin (by omega) (by omega) (by omega)) (n_p0_now_before0_p2 := inj_ne hin (by omega) (by omega) (by omega)) (n_p0_now_before0_x := inj_ne hin (by omega) (by omega) (by omega)) (n_p0_now_before0_x_before0 := inj_ne hin (by omega) (by omega) (by omega)) (n_p0_now_before0_x_before1 := inj_ne hin (by omega) (by omega) (by omega)) (n_p0_now_before1_p2 := inj_ne hin (by omega) (by omega) (by omega)) (n_p0_now_before1_x := inj_ne hin (by omega) (by omega) (by omega)) (n_p0_now_before1_x_before0 := inj_ne hin (by omega) (by omega) (by omega)) (n_p0_now_before1_x_before1 := inj_ne hin (by omega) (by omega) (by omega)) (n_p2_x := inj_ne hin (by omega) (by omega) (by omega)) (n_p2_x_before0 := inj_ne hin (by omega) (by omega) (by omega)) (n_p2_x_before1 := inj_ne hin (by omega) (by omega) (by omega)) (n_x_x_before0 := inj_ne hin (by omega) (by omega) (by omega)) (n_x_x_before1 := inj_ne hin (by omega) (by omega) (by omega)) (n_x_before0_x_before1 := inj_ne hin (by omega) (by omega) (by omega)) (hlt := hlt) (h := hr)) gL_law_L_board rfl rfl rfl q_L_board ⟨Nat.le_of_ble_eq_true rfl, Nat.le_of_ble_eq_true rfl⟩ rfl rfl (Nat.le_of_ble_eq_true rfl) hl.1 dL_law_656 ⟨hcc, hss⟩) hS (fun r9 H locs σ1 hp hM1 hS => ?_)
  obtain ⟨hr9, aq1, hq0, hq1, hq2, hq3, hq4, hq5, hq6, hq7, hq8, ho⟩ := hp
  replace hr9 : v.1 = r9 := hr9.symm
  subst hr9
  have hk1 : KE ad [7, 18 + 3 * x, 60, 3, 19 + 3 * x, 20 + 3 * x, 61, 62] σ σ1 := fun q f hq hn => ho q f hq (hn _ (List.Mem.head _)) (hn _ (List.Mem.tail _ (List.Mem.head _))) (hn _ (List.Mem.tail _ (List.Mem.tail _ (List.Mem.head _)))) (hn _ (List.Mem.tail _ (List.Mem.tail _ (List.Mem.tail _ (List.Mem.head _))))) (hn _ (List.Mem.tail _ (List.Mem.tail _ (List.Mem.tail _ (List.Mem.tail _ (List.Mem.head _)))))) (hn _ (List.Mem.tail _ (List.Mem.tail _ (List.Mem.tail _ (List.Mem.tail _ (List.Mem.tail _ (List.Mem.head _))))))) (hn _ (List.Mem.tail _ (List.Mem.tail _ (List.Mem.tail _ (List.Mem.tail _ (List.Mem.tail _ (List.Mem.tail _ (List.Mem.head _)))))))) (hn _ (List.Mem.tail _ (List.Mem.tail _ (List.Mem.tail _ (List.Mem.tail _ (List.Mem.tail _ (List.Mem.tail _ (List.Mem.tail _ (List.Mem.head _)))))))))
  have hB1 : BW K ad (nI len) ch v.2.2.2.2.1 rg S0 S1 v.2.1 σ1 := ⟨hk1.at hin (by omega) (by intro t ht; first | exact absurd ht List.not_mem_nil | (simp only [List.mem_cons, List.not_mem_nil, or_false] at ht; omega)) hB.1, hk1.at hin (by omega) (by intro t ht; first | exact absurd ht List.not_mem_nil | (simp only [List.mem_cons, List.not_mem_nil, or_false] at ht; omega)) hB.2.1, hk1.at hin (by omega) (by intro t ht; first | exact absurd ht List.not_mem_nil | (simp only [List.mem_cons, List.not_mem_nil, or_false] at ht; omega)) hB.2.2.1, hq3, hk1.at hin (by omega) (by intro t ht; first | exact absurd ht List.not_mem_nil | (simp only [List.mem_cons, List.not_mem_nil, or_false] at ht; omega)) hB.2.2.2.2.1, hk1.at hin (by omega) (by intro t ht; first | exact absurd ht List.not_mem_nil | (simp only [List.mem_cons, List.not_mem_nil, or_false] at ht; omega)) hB.2.2.2.2.2.1, hk1.at hin (by omega) (by intro t ht; first | exact absurd ht List.not_mem_nil | (simp only [List.mem_cons, List.not_mem_nil, or_false] at ht; omega)) hB.2.2.2.2.2.2.1, hq0⟩
  have hgd0 : σ1 (if v.1 = 0 then gr 14 else gr x) = some (cl2 (if v.1 = 0 then (G 14).2.2.2 else (G x).2.2.2)) := by by_cases q0 : v.1 = 0; (rw [if_pos q0, if_pos q0]; exact hk1.gr hD (by omega) (by intro t ht; first | exact absurd ht List.not_mem_nil | (simp only [List.mem_cons, List.not_mem_nil, or_false] at ht; omega)) g14d); (rw [if_neg q0, if_neg q0]; exact hk1.gr hD (by omega) (by intro t ht; first | exact absurd ht List.not_mem_nil | (simp only [List.mem_cons, List.not_mem_nil, or_false] at ht; omega)) gxd)
  have hgd1 : σ1 aq1 = some (cl2 v.2.2.2.2.2.2.2.2.2) := hq8
  have hG1 : ∀ u7, u7 < 18 → GW K ad (putN (putN gr x (if v.1 = 0 then gr 14 else gr x)) 14 aq1) (putR (putR G x (v.2.2.1, v.2.2.2.2.2.1, v.2.2.2.2.2.2.1, (if v.1 = 0 then (G 14).2.2.2 else (G x).2.2.2))) 14 (v.2.2.2.1, v.2.2.2.2.2.2.2.1, v.2.2.2.2.2.2.2.2.1, v.2.2.2.2.2.2.2.2.2)) σ1 u7 := by
    intro u7 hi18
    by_cases hu0 : u7 = 14
    · rw [hu0]
      exact GW_mk (hq2) (hq6) (hq7) (hgd1) (by rw [putN_at]) (by rw [putR_at])
    · by_cases hu1 : u7 = x
      · rw [hu1]
        exact GW_mk (hq1) (hq4) (hq5) (hgd0) (by rw [putN_ne (show ¬ x = 14 by omega), putN_at]) (by rw [putR_ne (show ¬ x = 14 by omega), putR_at])
      · exact GW_same (by rw [putN_ne hu0, putN_ne hu1]) (by rw [putR_ne hu0, putR_ne hu1]) (GW_keep hk1 hin hD hi18 (by intro t ht; first | exact absurd ht List.not_mem_nil | (simp only [List.mem_cons, List.not_mem_nil, or_false] at ht; omega)) (hG u7 hi18))
  have haq := grid_apart hB1 (RW_keep hk1 hin (by intro t ht; first | exact absurd ht List.not_mem_nil | (simp only [List.mem_cons, List.not_mem_nil, or_false] at ht; omega)) hR) (fun i hi18 => ⟨_, _, _, _, (hG1 i hi18).1, (hG1 i hi18).2.1, (hG1 i hi18).2.2.1⟩) hq8
  have hD1 := (GD_put (x := 14) (a := aq1) (GD_put (x := x) (a := (if v.1 = 0 then gr 14 else gr x)) hD (fun j hj => by by_cases q0 : v.1 = 0; (rw [if_pos q0]; exact hD 14 j (by omega) hj); (rw [if_neg q0]; exact hD x j (by omega) hj))) (haq))
  have hR1 := RW_keep hk1 hin (by intro t ht; first | exact absurd ht List.not_mem_nil | (simp only [List.mem_cons, List.not_mem_nil, or_false] at ht; omega)) hR
  refine lv_istore (lv' := [(5, .int v.1), (0, .ref b), (1, .ref (ad 0)), (2, .ref (ad 8)), (3, .ref (ad 7)), (4, .int (nI i))]) hx hb dL_law_659 hl (by decide) rfl (fun ls hl => ?_)
  refine lv_aload_n hx hb dL_law_661 rfl (lv_at hl 3 rfl) ?_
  refine lv_aload_n hx hb dL_law_662 rfl (lv_at hl 1 rfl) ?_
  refine lv_iload hx hb dL_law_663 (lv_at hl 5 rfl) ?_
  refine lv_iconst (v := 1) hx hb dL_law_665 (by decide) ?_
  refine lv_iadd hx hb dL_law_666 ?_
  refine va_sld hx hb hxs hbl hbA hS hi1 dL_law_667 ?_
  refine mw_wi (mw_runV (As := [.int (xs (nI i + 1).toNatClampNeg)]) (rest := []) (ci := 6) (C := RX8) (T := TX8) (N := 19) hC hM1 hS hR1.1 rfl (c_X8_board (hc_t := hR1.1) (hc_t_now := hR1.2.2.1) (hc_t_diary := hR1.2.2.2.2.1) (n_t_t_diary := inj_ne hin (by omega) (by omega) (by omega)) (n_t_t_now := inj_ne hin (by omega) (by omega) (by omega)) (n_t_diary_t_now := inj_ne hin (by omega) (by omega) (by omega)) (h := hs)) gL_law_X8_board rfl rfl rfl rfl q_X8_board ⟨Nat.le_of_ble_eq_true rfl, Nat.le_of_ble_eq_true rfl⟩ rfl rfl (Nat.le_of_ble_eq_true rfl) hl.1 dL_law_668 ⟨hcc, hss⟩) hS (fun r8 H locs σ2 hp hM2 hS => ?_)
  obtain ⟨hr8, hm0, hm1, hm2, ho2⟩ := hp
  replace hr8 : s9.1 = r8 := hr8.symm
  subst hr8
  have hk2 : KE ad [8, 10, 12] σ1 σ2 := fun q f hq hn => ho2 q f hq (hn _ (List.Mem.head _)) (hn _ (List.Mem.tail _ (List.Mem.head _))) (hn _ (List.Mem.tail _ (List.Mem.tail _ (List.Mem.head _))))
  have hR2 : RW K ad s9.2.1 tx s9.2.2.1 ft s9.2.2.2 fk fik fo fc fl σ2 := ⟨hm0, hk2.at hin (by omega) (by intro t ht; first | exact absurd ht List.not_mem_nil | (simp only [List.mem_cons, List.not_mem_nil, or_false] at ht; omega)) hR1.2.1, hm1, hk2.at hin (by omega) (by intro t ht; first | exact absurd ht List.not_mem_nil | (simp only [List.mem_cons, List.not_mem_nil, or_false] at ht; omega)) hR1.2.2.2.1, hm2, hk2.at hin (by omega) (by intro t ht; first | exact absurd ht List.not_mem_nil | (simp only [List.mem_cons, List.not_mem_nil, or_false] at ht; omega)) hR1.2.2.2.2.2.1, hk2.at hin (by omega) (by intro t ht; first | exact absurd ht List.not_mem_nil | (simp only [List.mem_cons, List.not_mem_nil, or_false] at ht; omega)) hR1.2.2.2.2.2.2.1, hk2.at hin (by omega) (by intro t ht; first | exact absurd ht List.not_mem_nil | (simp only [List.mem_cons, List.not_mem_nil, or_false] at ht; omega)) hR1.2.2.2.2.2.2.2.1, hk2.at hin (by omega) (by intro t ht; first | exact absurd ht List.not_mem_nil | (simp only [List.mem_cons, List.not_mem_nil, or_false] at ht; omega)) hR1.2.2.2.2.2.2.2.2.1, hk2.at hin (by omega) (by intro t ht; first | exact absurd ht List.not_mem_nil | (simp only [List.mem_cons, List.not_mem_nil, or_false] at ht; omega)) hR1.2.2.2.2.2.2.2.2.2⟩
  have hB2 := BW_keep hk2 hin (by intro t ht; first | exact absurd ht List.not_mem_nil | (simp only [List.mem_cons, List.not_mem_nil, or_false] at ht; omega)) hB1
  have hG2 := GA_keep hk2 hin hD1 (by intro t ht; first | exact absurd ht List.not_mem_nil | (simp only [List.mem_cons, List.not_mem_nil, or_false] at ht; omega)) hG1
  have hP2 : PR ad (putR (putR G x (v.2.2.1, v.2.2.2.2.2.1, v.2.2.2.2.2.2.1, (if v.1 = 0 then (G 14).2.2.2 else (G x).2.2.2))) 14 (v.2.2.2.1, v.2.2.2.2.2.2.2.1, v.2.2.2.2.2.2.2.2.1, v.2.2.2.2.2.2.2.2.2)) (nI len) ch v.2.2.2.2.1 rg S0 S1 s9.2.1 tx s9.2.2.1 s9.2.2.2 fk fik := ⟨len, cd, o2, a2, rfl, ht9.trans e2, e3, hm91, hm92, memR_congr hm93 (fun i hi => putR_ne (by omega)), e7, (by rw [putR_ne (show ¬ 16 = 14 by omega), putR_ne (show ¬ 16 = x by omega)]; exact e8), (by rw [putR_ne (show ¬ 17 = 14 by omega), putR_ne (show ¬ 17 = x by omega)]; exact e9), (by rw [putR_at]; exact hgN)⟩
  have hREL : REL K ad σ2 := ⟨_, _, _, _, _, _, _, _, _, _, _, _, _, _, _, _, _, _, _, hB2, hG2, hD1, hR2, hP2⟩
  refine lv_istore (lv' := [(6, .int s9.1), (5, .int v.1), (0, .ref b), (1, .ref (ad 0)), (2, .ref (ad 8)), (3, .ref (ad 7)), (4, .int (nI i))]) hx hb dL_law_671 hl (by decide) rfl (fun ls hl => ?_)
  refine lv_aload_n hx hb dL_law_673 rfl (lv_at hl 4 rfl) ?_
  refine mw_ci (v := s9.2.1.1) (mw_runV (As := []) (rest := []) (ci := 6) (C := RX8) (T := TX8) (N := 19) hC hM2 hS hR2.1 rfl (c_X8_thrown (hc_t := hR2.1) (h := rfl)) gL_law_X8_thrown rfl rfl rfl rfl q_X8_thrown ⟨Nat.le_of_ble_eq_true rfl, Nat.le_of_ble_eq_true rfl⟩ rfl rfl (Nat.le_of_ble_eq_true rfl) hl.1 dL_law_674 ⟨hcc, hss⟩) ?_
  refine lv_iload hx hb dL_law_677 (lv_at hl 1 rfl) ?_
  have fin : W p l e room_1 s m #[Value.ref b] below meth c H locs (cells + 1) (slots + 6) Q (F0 m 1447 ls []) := kk H locs σ2 ls hM2 hS hREL (lv_sub hl [2, 3, 4, 5, 6] rfl)
  refine lv_icmp_eq (tgt := 684) hx hb dL_law_679 (by decide) (fun c9 => ?_) (fun c9 => absurd hy9 c9)
  refine lv_iload hx hb dL_law_684 (lv_at hl 1 rfl) ?_
  refine lv_if_ne (tgt := 701) hx hb dL_law_686 (by decide) (fun c8 => ?_) (fun c8 => ?_)
  · exact lv_goto (tgt := 1447) hx hb dL_law_701 (by decide) fin
  · refine lv_aload_n hx hb dL_law_689 rfl (lv_at hl 5 rfl) ?_
    refine lv_iconst (v := 0) hx hb dL_law_690 (by decide) ?_
    refine mw_ldJ hC hM2 hB2.2.2.2.2.2.2.2 (i := 0) vp_in_01 dL_law_691 ?_
    refine lv_iload hx hb dL_law_692 (lv_at hl 0 rfl) ?_
    refine lv_i2l (v := (s9.1).toInt64) hx hb dL_law_694 rfl ?_
    refine W.lcmp hx hb dL_law_695 ?_
    exact lv_if_eq (tgt := 701) hx hb dL_law_696 (by decide) (fun _ => lv_goto (tgt := 1447) hx hb dL_law_701 (by decide) fin) (fun c9 => absurd ((lg_cmp_eq _ _).mpr (hv9 c8)) c9)
set_option maxHeartbeats 4000000 in
set_option maxRecDepth 100000 in
theorem lwc_11 {p : Program} {l : Launch} {e : Env} {s : State} {m : MethodId} {below : List Frame} {meth : Method} {c : Code} {D : va_G} {K : Nat → ClassId} {H : Heap} {locs : List Loc} {cells slots b L i : Nat} {xs : Nat → Int32} {Q : State → Prop} {σ : mwm} {ad : Nat → Nat} {ls : Array Slot} (hC : CF p m c cL_law 8 s #[Value.ref b] wsL_law RL s.heap.size D K) (hX : SX s.heap.size s) (hlt : l.stackTraces = false) (hk162 : (Cond.constantLong RL 162 4294967295).before #[Value.ref b] s = true) (hxs : va_X b L xs s s.heap) (hbl : b < s.heap.size) (hin : inj72 ad) (hR0 : REL K ad σ) (hM : MW s.heap.size D σ H) (hS : va_S (zA s.heap.size) s.heap H locs) (hl : lv_has ls 8 [(0, .ref b), (1, .ref (ad 0)), (2, .ref (ad 8)), (3, .ref (ad 7)), (4, .int (nI i))]) (hi : i + 4 ≤ L) (hL : L ≤ 2048) (hcc : cells + 1 ≤ 601024) (hss : slots + 6 ≤ 7293034) (kk : ∀ (H1 : Heap) (locs1 : List Loc) (σ1 : mwm) (ls1 : Array Slot), MW s.heap.size D σ1 H1 → va_S (zA s.heap.size) s.heap H1 locs1 → REL K ad σ1 → lv_has ls1 8 [(0, .ref b), (1, .ref (ad 0)), (2, .ref (ad 8)), (3, .ref (ad 7)), (4, .int (nI i))] → W p l e room_1 s m #[Value.ref b] below meth c H1 locs1 (cells + 1) (slots + 6) Q (F0 m 1447 ls1 [])) : W p l e room_1 s m #[Value.ref b] below meth c H locs cells slots Q (F0 m 704 ls []) := by
  have hx := hC.1.1
  have hb := hC.1.2.1
  have hown := hC.1.2.2.2.1
  have hbA : ¬ zA s.heap.size b := Nat.not_le.mpr hbl
  have hi1 : vp_in (nI i + 1) L := by rw [show nI i + 1 = nI (i + 1) from nI_add i 1]; exact vp_in_nI (by omega) (by omega)
  have hi2 : vp_in (nI i + 2) L := by rw [show nI i + 2 = nI (i + 2) from nI_add i 2]; exact vp_in_nI (by omega) (by omega)
  have hi3 : vp_in (nI i + 3) L := by rw [show nI i + 3 = nI (i + 3) from nI_add i 3]; exact vp_in_nI (by omega) (by omega)
  obtain ⟨gr, G, wt, ch, mem, rg, S0, S1, o, y, tx, fn, ft, fd, fk, fik, fo, fc, fl, hB, hG, hD, hR, hP⟩ := hR0
  obtain ⟨len, cd, mo, ma, e1, e2, e3, e4, e5, e6, e7, e8, e9, e10⟩ := id hP
  subst e1
  subst e4
  obtain ⟨n, rule, mv, ps, pr, c0, c1, hGR⟩ := id e10
  obtain ⟨g14a, g14b, g14c, g14d⟩ := id (hG 14 (by omega))
  have g14a : σ (ad 60) = some (cl0 (ad 61) (ad 62) (gr 14) (G 14).1) := g14a
  have g14b : σ (ad 61) = some (eJ K 121 (G 14).2.1) := g14b
  have g14c : σ (ad 62) = some (eJ K 121 (G 14).2.2.1) := g14c
  obtain ⟨g15a, g15b, g15c, g15d⟩ := id (hG 15 (by omega))
  have g15a : σ (ad 63) = some (cl0 (ad 64) (ad 65) (gr 15) (G 15).1) := g15a
  have g15b : σ (ad 64) = some (eJ K 121 (G 15).2.1) := g15b
  have g15c : σ (ad 65) = some (eJ K 121 (G 15).2.2.1) := g15c
  obtain ⟨g16a, g16b, g16c, g16d⟩ := id (hG 16 (by omega))
  have g16a : σ (ad 66) = some (cl0 (ad 67) (ad 68) (gr 16) (G 16).1) := g16a
  have g16b : σ (ad 67) = some (eJ K 121 (G 16).2.1) := g16b
  have g16c : σ (ad 68) = some (eJ K 121 (G 16).2.2.1) := g16c
  obtain ⟨g17a, g17b, g17c, g17d⟩ := id (hG 17 (by omega))
  have g17a : σ (ad 69) = some (cl0 (ad 70) (ad 71) (gr 17) (G 17).1) := g17a
  have g17b : σ (ad 70) = some (eJ K 121 (G 17).2.1) := g17b
  have g17c : σ (ad 71) = some (eJ K 121 (G 17).2.2.1) := g17c
  obtain ⟨x, hx14, v, s9, hr, hs, hp9⟩ := play_act (ag := fun i => ad (18 + 3 * i)) e6 hGR e7 e5 o (xs (nI i + 1).toNatClampNeg)
  obtain ⟨hy9, hval, ht9, ⟨o2, a2, hm91, hm92, hm93⟩, hgN⟩ := id hp9
  obtain ⟨gxa, gxb, gxc, gxd⟩ := id (hG x (by omega))
  have hv9 : v.1 = 0 → v.2.1 (0 : Int32).toNatClampNeg = s9.1.toInt64 := fun z => hval z
  refine lv_aload_n hx hb dL_law_704 rfl (lv_at hl 1 rfl) ?_
  refine lv_aload_n hx hb dL_law_705 rfl (lv_at hl 0 rfl) ?_
  refine lv_iload hx hb dL_law_706 (lv_at hl 4 rfl) ?_
  refine lv_iconst (v := 1) hx hb dL_law_708 (by decide) ?_
  refine lv_iadd hx hb dL_law_709 ?_
  refine va_sld hx hb hxs hbl hbA hS hi1 dL_law_710 ?_
  refine lv_aload_n hx hb dL_law_711 rfl (lv_at hl 3 rfl) ?_
  refine mw_wi (mw_runSW (As := [.ref (ad 0), .int (xs (nI i + 1).toNatClampNeg), .ref (ad 7)]) (rest := []) hC hX hM hS (c_L_play (hc_p0 := hB.1) (hc_p2 := hB.2.2.2.2.2.2.2) (hc_x := gxa) (hc_p0_now := g14a) (hc_p0_memory := hB.2.2.2.1) (hc_x_before0 := gxb) (hc_x_before1 := gxc) (hc_p0_now_before0 := g14b) (hc_p0_now_before1 := g14c) (hc_p0_now_grid := g14d) (hc_p0_memory_ring := hB.2.2.2.2.1) (n_p0_p0_memory := inj_ne hin (by omega) (by omega) (by omega)) (n_p0_p0_now := inj_ne hin (by omega) (by omega) (by omega)) (n_p0_p0_now_before0 := inj_ne hin (by omega) (by omega) (by omega)) (n_p0_p0_now_before1 := inj_ne hin (by omega) (by omega) (by omega)) (n_p0_x := inj_ne hin (by omega) (by omega) (by omega)) (n_p0_x_before0 := inj_ne hin (by omega) (by omega) (by omega)) (n_p0_x_before1 := inj_ne hin (by omega) (by omega) (by omega)) (n_p0_memory_p0_memory_ring := inj_ne hin (by omega) (by omega) (by omega)) (n_p0_memory_p0_now := inj_ne hin (by omega) (by omega) (by omega)) (n_p0_memory_p0_now_before0 := inj_ne hin (by omega) (by omega) (by omega)) (n_p0_memory_p0_now_before1 := inj_ne hin (by omega) (by omega) (by omega)) (n_p0_memory_p0_now_grid := (hD 14 (3) (by omega) (by omega)).symm) (n_p0_memory_p2 := inj_ne hin (by omega) (by omega) (by omega)) (n_p0_memory_x := inj_ne hin (by omega) (by omega) (by omega)) (n_p0_memory_x_before0 := inj_ne hin (by omega) (by omega) (by omega)) (n_p0_memory_x_before1 := inj_ne hin (by omega) (by omega) (by omega)) (n_p0_memory_ring_x := inj_ne hin (by omega) (by omega) (by omega)) (n_p0_memory_ring_x_before0 := inj_ne hin (by omega) (by omega) (by omega)) (n_p0_memory_ring_x_before1 := inj_ne hin (by omega) (by omega) (by omega)) (n_p0_now_p0_now_before0 := inj_ne hin (by omega) (by omega) (by omega)) (n_p0_now_p0_now_before1 := inj_ne hin (by omega) (by omega) (by omega)) (n_p0_now_p0_now_grid := (hD 14 (60) (by omega) (by omega)).symm) (n_p0_now_p2 := inj_ne hin (by omega) (by omega) (by omega)) (n_p0_now_x := inj_ne hin (by omega) (by omega) (by omega)) (n_p0_now_x_before0 := inj_ne hin (by omega) (by omega) (by omega)) (n_p0_now_x_before1 := inj_ne hin (by omega) (by omega) (by omega)) (n_p0_now_before0_p0_now_before1 := inj_ne hin (by omega) (by omega) (by omega)) (n_p0_now_before0_p0_now_grid := (hD 14 (61) (by omega) (by omega)).symm) (n_p0_now_before0_p2 := inj_ne hin (by omega) (by omega) (by omega)) (n_p0_now_before0_x := inj_ne hin (by omega) (by omega) (by omega)) (n_p0_now_before0_x_before0 := inj_ne hin (by omega) (by omega) (by omega)) (n_p0_now_before0_x_before1 := inj_ne hin (by omega) (by omega) (by omega)) (n_p0_now_before1_p0_now_grid := (hD 14 (62) (by omega) (by omega)).symm) (n_p0_now_before1_p2 := inj_ne hin (by omega) (by omega) (by omega)) (n_p0_now_before1_x := inj_ne hin (by omega) (by omega) (by omega)) (n_p0_now_before1_x_before0 := inj_ne hin (by omega) (by omega) (by omega)) (n_p0_now_before1_x_before1 := inj_ne hin (by omega) (by omega) (by omega)) (n_p0_now_grid_x := hD 14 (18 + 3 * x) (by omega) (by omega)) (n_p0_now_grid_x_before0 := hD 14 (19 + 3 * x) (by omega) (by omega)) (n_p0_now_grid_x_before1 := hD 14 (20 + 3 * x) (by omega) (by omega)) (n_p2_x := inj_ne hin (by omega) (by omega) (by omega)) (n_p2_x_before0 := inj_ne hin (by omega) (by omega) (by omega)) (n_p2_x_before1 := inj_ne hin (by omega) (by omega) (by omega)) (n_x_x_before0 := inj_ne hin (by omega) (by omega) (by omega)) (n_x_x_before1 := inj_ne hin (by omega) (by omega) (by omega)) (n_x_before0_x_before1 := inj_ne hin (by omega) (by omega) (by omega)) (hlt := hlt) (h := hr)) gL_law_L_play rfl rfl rfl q_L_play ⟨Nat.le_of_ble_eq_true rfl, Nat.le_of_ble_eq_true rfl⟩ rfl rfl (Nat.le_of_ble_eq_true rfl) hl.1 dL_law_712 ⟨hcc, hss⟩) hS (fun r9 H locs σ1 hp hM1 hS => ?_)
  obtain ⟨hr9, hq0, hq1, hq2, hq3, hq4, hq5, hq6, hq7, ho⟩ := hp
  replace hr9 : v.1 = r9 := hr9.symm
  subst hr9
  have hk1 : KE ad [7, 18 + 3 * x, 60, 3, 19 + 3 * x, 20 + 3 * x, 61, 62] σ σ1 := fun q f hq hn => ho q f hq (hn _ (List.Mem.head _)) (hn _ (List.Mem.tail _ (List.Mem.head _))) (hn _ (List.Mem.tail _ (List.Mem.tail _ (List.Mem.head _)))) (hn _ (List.Mem.tail _ (List.Mem.tail _ (List.Mem.tail _ (List.Mem.head _))))) (hn _ (List.Mem.tail _ (List.Mem.tail _ (List.Mem.tail _ (List.Mem.tail _ (List.Mem.head _)))))) (hn _ (List.Mem.tail _ (List.Mem.tail _ (List.Mem.tail _ (List.Mem.tail _ (List.Mem.tail _ (List.Mem.head _))))))) (hn _ (List.Mem.tail _ (List.Mem.tail _ (List.Mem.tail _ (List.Mem.tail _ (List.Mem.tail _ (List.Mem.tail _ (List.Mem.head _)))))))) (hn _ (List.Mem.tail _ (List.Mem.tail _ (List.Mem.tail _ (List.Mem.tail _ (List.Mem.tail _ (List.Mem.tail _ (List.Mem.tail _ (List.Mem.head _)))))))))
  have hB1 : BW K ad (nI len) ch v.2.2.2.2.1 rg S0 S1 v.2.1 σ1 := ⟨hk1.at hin (by omega) (by intro t ht; first | exact absurd ht List.not_mem_nil | (simp only [List.mem_cons, List.not_mem_nil, or_false] at ht; omega)) hB.1, hk1.at hin (by omega) (by intro t ht; first | exact absurd ht List.not_mem_nil | (simp only [List.mem_cons, List.not_mem_nil, or_false] at ht; omega)) hB.2.1, hk1.at hin (by omega) (by intro t ht; first | exact absurd ht List.not_mem_nil | (simp only [List.mem_cons, List.not_mem_nil, or_false] at ht; omega)) hB.2.2.1, hq3, hk1.at hin (by omega) (by intro t ht; first | exact absurd ht List.not_mem_nil | (simp only [List.mem_cons, List.not_mem_nil, or_false] at ht; omega)) hB.2.2.2.2.1, hk1.at hin (by omega) (by intro t ht; first | exact absurd ht List.not_mem_nil | (simp only [List.mem_cons, List.not_mem_nil, or_false] at ht; omega)) hB.2.2.2.2.2.1, hk1.at hin (by omega) (by intro t ht; first | exact absurd ht List.not_mem_nil | (simp only [List.mem_cons, List.not_mem_nil, or_false] at ht; omega)) hB.2.2.2.2.2.2.1, hq0⟩
  have hgd0 : σ1 (if v.1 = 0 then gr 14 else gr x) = some (cl2 (if v.1 = 0 then (G 14).2.2.2 else (G x).2.2.2)) := by by_cases q0 : v.1 = 0; (rw [if_pos q0, if_pos q0]; exact hk1.gr hD (by omega) (by intro t ht; first | exact absurd ht List.not_mem_nil | (simp only [List.mem_cons, List.not_mem_nil, or_false] at ht; omega)) g14d); (rw [if_neg q0, if_neg q0]; exact hk1.gr hD (by omega) (by intro t ht; first | exact absurd ht List.not_mem_nil | (simp only [List.mem_cons, List.not_mem_nil, or_false] at ht; omega)) gxd)
  have hgd1 : σ1 (gr 14) = some (cl2 (G 14).2.2.2) := hk1.gr hD (by omega) (by intro t ht; first | exact absurd ht List.not_mem_nil | (simp only [List.mem_cons, List.not_mem_nil, or_false] at ht; omega)) g14d
  have hG1 : ∀ u7, u7 < 18 → GW K ad (putN (putN gr x (if v.1 = 0 then gr 14 else gr x)) 14 (gr 14)) (putR (putR G x (v.2.2.1, v.2.2.2.2.2.1, v.2.2.2.2.2.2.1, (if v.1 = 0 then (G 14).2.2.2 else (G x).2.2.2))) 14 (v.2.2.2.1, v.2.2.2.2.2.2.2.1, v.2.2.2.2.2.2.2.2, (G 14).2.2.2)) σ1 u7 := by
    intro u7 hi18
    by_cases hu0 : u7 = 14
    · rw [hu0]
      exact GW_mk (hq2) (hq6) (hq7) (hgd1) (by rw [putN_at]) (by rw [putR_at])
    · by_cases hu1 : u7 = x
      · rw [hu1]
        exact GW_mk (hq1) (hq4) (hq5) (hgd0) (by rw [putN_ne (show ¬ x = 14 by omega), putN_at]) (by rw [putR_ne (show ¬ x = 14 by omega), putR_at])
      · exact GW_same (by rw [putN_ne hu0, putN_ne hu1]) (by rw [putR_ne hu0, putR_ne hu1]) (GW_keep hk1 hin hD hi18 (by intro t ht; first | exact absurd ht List.not_mem_nil | (simp only [List.mem_cons, List.not_mem_nil, or_false] at ht; omega)) (hG u7 hi18))
  have hD1 := (GD_put (x := 14) (a := (gr 14)) (GD_put (x := x) (a := (if v.1 = 0 then gr 14 else gr x)) hD (fun j hj => by by_cases q0 : v.1 = 0; (rw [if_pos q0]; exact hD 14 j (by omega) hj); (rw [if_neg q0]; exact hD x j (by omega) hj))) (fun j hj => hD 14 j (by omega) hj))
  have hR1 := RW_keep hk1 hin (by intro t ht; first | exact absurd ht List.not_mem_nil | (simp only [List.mem_cons, List.not_mem_nil, or_false] at ht; omega)) hR
  refine lv_istore (lv' := [(5, .int v.1), (0, .ref b), (1, .ref (ad 0)), (2, .ref (ad 8)), (3, .ref (ad 7)), (4, .int (nI i))]) hx hb dL_law_715 hl (by decide) rfl (fun ls hl => ?_)
  refine lv_aload_n hx hb dL_law_717 rfl (lv_at hl 3 rfl) ?_
  refine lv_aload_n hx hb dL_law_718 rfl (lv_at hl 1 rfl) ?_
  refine lv_iload hx hb dL_law_719 (lv_at hl 5 rfl) ?_
  refine lv_iconst (v := 1) hx hb dL_law_721 (by decide) ?_
  refine lv_iadd hx hb dL_law_722 ?_
  refine va_sld hx hb hxs hbl hbA hS hi1 dL_law_723 ?_
  refine mw_wi (mw_runV (As := [.int (xs (nI i + 1).toNatClampNeg)]) (rest := []) (ci := 6) (C := RX8) (T := TX8) (N := 19) hC hM1 hS hR1.1 rfl (c_X8_play (hc_t := hR1.1) (hc_t_now := hR1.2.2.1) (hc_t_diary := hR1.2.2.2.2.1) (n_t_t_diary := inj_ne hin (by omega) (by omega) (by omega)) (n_t_t_now := inj_ne hin (by omega) (by omega) (by omega)) (n_t_diary_t_now := inj_ne hin (by omega) (by omega) (by omega)) (h := hs)) gL_law_X8_play rfl rfl rfl rfl q_X8_play ⟨Nat.le_of_ble_eq_true rfl, Nat.le_of_ble_eq_true rfl⟩ rfl rfl (Nat.le_of_ble_eq_true rfl) hl.1 dL_law_724 ⟨hcc, hss⟩) hS (fun r8 H locs σ2 hp hM2 hS => ?_)
  obtain ⟨hr8, hm0, hm1, hm2, ho2⟩ := hp
  replace hr8 : s9.1 = r8 := hr8.symm
  subst hr8
  have hk2 : KE ad [8, 10, 12] σ1 σ2 := fun q f hq hn => ho2 q f hq (hn _ (List.Mem.head _)) (hn _ (List.Mem.tail _ (List.Mem.head _))) (hn _ (List.Mem.tail _ (List.Mem.tail _ (List.Mem.head _))))
  have hR2 : RW K ad s9.2.1 tx s9.2.2.1 ft s9.2.2.2 fk fik fo fc fl σ2 := ⟨hm0, hk2.at hin (by omega) (by intro t ht; first | exact absurd ht List.not_mem_nil | (simp only [List.mem_cons, List.not_mem_nil, or_false] at ht; omega)) hR1.2.1, hm1, hk2.at hin (by omega) (by intro t ht; first | exact absurd ht List.not_mem_nil | (simp only [List.mem_cons, List.not_mem_nil, or_false] at ht; omega)) hR1.2.2.2.1, hm2, hk2.at hin (by omega) (by intro t ht; first | exact absurd ht List.not_mem_nil | (simp only [List.mem_cons, List.not_mem_nil, or_false] at ht; omega)) hR1.2.2.2.2.2.1, hk2.at hin (by omega) (by intro t ht; first | exact absurd ht List.not_mem_nil | (simp only [List.mem_cons, List.not_mem_nil, or_false] at ht; omega)) hR1.2.2.2.2.2.2.1, hk2.at hin (by omega) (by intro t ht; first | exact absurd ht List.not_mem_nil | (simp only [List.mem_cons, List.not_mem_nil, or_false] at ht; omega)) hR1.2.2.2.2.2.2.2.1, hk2.at hin (by omega) (by intro t ht; first | exact absurd ht List.not_mem_nil | (simp only [List.mem_cons, List.not_mem_nil, or_false] at ht; omega)) hR1.2.2.2.2.2.2.2.2.1, hk2.at hin (by omega) (by intro t ht; first | exact absurd ht List.not_mem_nil | (simp only [List.mem_cons, List.not_mem_nil, or_false] at ht; omega)) hR1.2.2.2.2.2.2.2.2.2⟩
  have hB2 := BW_keep hk2 hin (by intro t ht; first | exact absurd ht List.not_mem_nil | (simp only [List.mem_cons, List.not_mem_nil, or_false] at ht; omega)) hB1
  have hG2 := GA_keep hk2 hin hD1 (by intro t ht; first | exact absurd ht List.not_mem_nil | (simp only [List.mem_cons, List.not_mem_nil, or_false] at ht; omega)) hG1
  have hP2 : PR ad (putR (putR G x (v.2.2.1, v.2.2.2.2.2.1, v.2.2.2.2.2.2.1, (if v.1 = 0 then (G 14).2.2.2 else (G x).2.2.2))) 14 (v.2.2.2.1, v.2.2.2.2.2.2.2.1, v.2.2.2.2.2.2.2.2, (G 14).2.2.2)) (nI len) ch v.2.2.2.2.1 rg S0 S1 s9.2.1 tx s9.2.2.1 s9.2.2.2 fk fik := ⟨len, cd, o2, a2, rfl, ht9.trans e2, e3, hm91, hm92, memR_congr hm93 (fun i hi => putR_ne (by omega)), e7, (by rw [putR_ne (show ¬ 16 = 14 by omega), putR_ne (show ¬ 16 = x by omega)]; exact e8), (by rw [putR_ne (show ¬ 17 = 14 by omega), putR_ne (show ¬ 17 = x by omega)]; exact e9), (by rw [putR_at]; exact hgN)⟩
  have hREL : REL K ad σ2 := ⟨_, _, _, _, _, _, _, _, _, _, _, _, _, _, _, _, _, _, _, hB2, hG2, hD1, hR2, hP2⟩
  refine lv_istore (lv' := [(6, .int s9.1), (5, .int v.1), (0, .ref b), (1, .ref (ad 0)), (2, .ref (ad 8)), (3, .ref (ad 7)), (4, .int (nI i))]) hx hb dL_law_727 hl (by decide) rfl (fun ls hl => ?_)
  refine lv_aload_n hx hb dL_law_729 rfl (lv_at hl 4 rfl) ?_
  refine mw_ci (v := s9.2.1.1) (mw_runV (As := []) (rest := []) (ci := 6) (C := RX8) (T := TX8) (N := 19) hC hM2 hS hR2.1 rfl (c_X8_thrown (hc_t := hR2.1) (h := rfl)) gL_law_X8_thrown rfl rfl rfl rfl q_X8_thrown ⟨Nat.le_of_ble_eq_true rfl, Nat.le_of_ble_eq_true rfl⟩ rfl rfl (Nat.le_of_ble_eq_true rfl) hl.1 dL_law_730 ⟨hcc, hss⟩) ?_
  refine lv_iload hx hb dL_law_733 (lv_at hl 1 rfl) ?_
  have fin : W p l e room_1 s m #[Value.ref b] below meth c H locs (cells + 1) (slots + 6) Q (F0 m 1447 ls []) := kk H locs σ2 ls hM2 hS hREL (lv_sub hl [2, 3, 4, 5, 6] rfl)
  refine lv_icmp_eq (tgt := 740) hx hb dL_law_735 (by decide) (fun c9 => ?_) (fun c9 => absurd hy9 c9)
  refine lv_iload hx hb dL_law_740 (lv_at hl 1 rfl) ?_
  refine lv_if_ne (tgt := 757) hx hb dL_law_742 (by decide) (fun c8 => ?_) (fun c8 => ?_)
  · exact lv_goto (tgt := 1447) hx hb dL_law_757 (by decide) fin
  · refine lv_aload_n hx hb dL_law_745 rfl (lv_at hl 5 rfl) ?_
    refine lv_iconst (v := 0) hx hb dL_law_746 (by decide) ?_
    refine mw_ldJ hC hM2 hB2.2.2.2.2.2.2.2 (i := 0) vp_in_01 dL_law_747 ?_
    refine lv_iload hx hb dL_law_748 (lv_at hl 0 rfl) ?_
    refine lv_i2l (v := (s9.1).toInt64) hx hb dL_law_750 rfl ?_
    refine W.lcmp hx hb dL_law_751 ?_
    exact lv_if_eq (tgt := 757) hx hb dL_law_752 (by decide) (fun _ => lv_goto (tgt := 1447) hx hb dL_law_757 (by decide) fin) (fun c9 => absurd ((lg_cmp_eq _ _).mpr (hv9 c8)) c9)
set_option maxHeartbeats 4000000 in
set_option maxRecDepth 100000 in
theorem lwc_12 {p : Program} {l : Launch} {e : Env} {s : State} {m : MethodId} {below : List Frame} {meth : Method} {c : Code} {D : va_G} {K : Nat → ClassId} {H : Heap} {locs : List Loc} {cells slots b L i : Nat} {xs : Nat → Int32} {Q : State → Prop} {σ : mwm} {ad : Nat → Nat} {ls : Array Slot} (hC : CF p m c cL_law 8 s #[Value.ref b] wsL_law RL s.heap.size D K) (hX : SX s.heap.size s) (hlt : l.stackTraces = false) (hk162 : (Cond.constantLong RL 162 4294967295).before #[Value.ref b] s = true) (hxs : va_X b L xs s s.heap) (hbl : b < s.heap.size) (hin : inj72 ad) (hR0 : REL K ad σ) (hM : MW s.heap.size D σ H) (hS : va_S (zA s.heap.size) s.heap H locs) (hl : lv_has ls 8 [(0, .ref b), (1, .ref (ad 0)), (2, .ref (ad 8)), (3, .ref (ad 7)), (4, .int (nI i))]) (hi : i + 4 ≤ L) (hL : L ≤ 2048) (hcc : cells + 1 ≤ 601024) (hss : slots + 6 ≤ 7293034) (kk : ∀ (H1 : Heap) (locs1 : List Loc) (σ1 : mwm) (ls1 : Array Slot), MW s.heap.size D σ1 H1 → va_S (zA s.heap.size) s.heap H1 locs1 → REL K ad σ1 → lv_has ls1 8 [(0, .ref b), (1, .ref (ad 0)), (2, .ref (ad 8)), (3, .ref (ad 7)), (4, .int (nI i))] → W p l e room_1 s m #[Value.ref b] below meth c H1 locs1 (cells + 1) (slots + 6) Q (F0 m 1447 ls1 [])) : W p l e room_1 s m #[Value.ref b] below meth c H locs cells slots Q (F0 m 760 ls []) := by
  have hx := hC.1.1
  have hb := hC.1.2.1
  have hown := hC.1.2.2.2.1
  have hbA : ¬ zA s.heap.size b := Nat.not_le.mpr hbl
  have hi1 : vp_in (nI i + 1) L := by rw [show nI i + 1 = nI (i + 1) from nI_add i 1]; exact vp_in_nI (by omega) (by omega)
  have hi2 : vp_in (nI i + 2) L := by rw [show nI i + 2 = nI (i + 2) from nI_add i 2]; exact vp_in_nI (by omega) (by omega)
  have hi3 : vp_in (nI i + 3) L := by rw [show nI i + 3 = nI (i + 3) from nI_add i 3]; exact vp_in_nI (by omega) (by omega)
  obtain ⟨gr, G, wt, ch, mem, rg, S0, S1, o, y, tx, fn, ft, fd, fk, fik, fo, fc, fl, hB, hG, hD, hR, hP⟩ := hR0
  obtain ⟨len, cd, mo, ma, e1, e2, e3, e4, e5, e6, e7, e8, e9, e10⟩ := id hP
  subst e1
  subst e4
  obtain ⟨n, rule, mv, ps, pr, c0, c1, hGR⟩ := id e10
  obtain ⟨g14a, g14b, g14c, g14d⟩ := id (hG 14 (by omega))
  have g14a : σ (ad 60) = some (cl0 (ad 61) (ad 62) (gr 14) (G 14).1) := g14a
  have g14b : σ (ad 61) = some (eJ K 121 (G 14).2.1) := g14b
  have g14c : σ (ad 62) = some (eJ K 121 (G 14).2.2.1) := g14c
  obtain ⟨g15a, g15b, g15c, g15d⟩ := id (hG 15 (by omega))
  have g15a : σ (ad 63) = some (cl0 (ad 64) (ad 65) (gr 15) (G 15).1) := g15a
  have g15b : σ (ad 64) = some (eJ K 121 (G 15).2.1) := g15b
  have g15c : σ (ad 65) = some (eJ K 121 (G 15).2.2.1) := g15c
  obtain ⟨g16a, g16b, g16c, g16d⟩ := id (hG 16 (by omega))
  have g16a : σ (ad 66) = some (cl0 (ad 67) (ad 68) (gr 16) (G 16).1) := g16a
  have g16b : σ (ad 67) = some (eJ K 121 (G 16).2.1) := g16b
  have g16c : σ (ad 68) = some (eJ K 121 (G 16).2.2.1) := g16c
  obtain ⟨g17a, g17b, g17c, g17d⟩ := id (hG 17 (by omega))
  have g17a : σ (ad 69) = some (cl0 (ad 70) (ad 71) (gr 17) (G 17).1) := g17a
  have g17b : σ (ad 70) = some (eJ K 121 (G 17).2.1) := g17b
  have g17c : σ (ad 71) = some (eJ K 121 (G 17).2.2.1) := g17c
  obtain ⟨x, hx14, v, s9, hr, hs, hp9⟩ := pass_act (ag := fun i => ad (18 + 3 * i)) e6 hGR e7 e5 o
  obtain ⟨hy9, hval, ht9, ⟨o2, a2, hm91, hm92, hm93⟩, hgN⟩ := id hp9
  obtain ⟨gxa, gxb, gxc, gxd⟩ := id (hG x (by omega))
  have hv9 : v.1 = 0 → v.2.1 (0 : Int32).toNatClampNeg = s9.1.toInt64 := fun z => hval z
  refine lv_aload_n hx hb dL_law_760 rfl (lv_at hl 1 rfl) ?_
  refine lv_aload_n hx hb dL_law_761 rfl (lv_at hl 3 rfl) ?_
  refine mw_wi (mw_runSW (As := [.ref (ad 0), .ref (ad 7)]) (rest := []) hC hX hM hS (c_L_pass (hc_p0 := hB.1) (hc_p1 := hB.2.2.2.2.2.2.2) (hc_x := gxa) (hc_p0_now := g14a) (hc_p0_memory := hB.2.2.2.1) (hc_x_before0 := gxb) (hc_x_before1 := gxc) (hc_p0_now_before0 := g14b) (hc_p0_now_before1 := g14c) (hc_p0_memory_ring := hB.2.2.2.2.1) (n_p0_p0_memory := inj_ne hin (by omega) (by omega) (by omega)) (n_p0_p0_now := inj_ne hin (by omega) (by omega) (by omega)) (n_p0_p0_now_before0 := inj_ne hin (by omega) (by omega) (by omega)) (n_p0_p0_now_before1 := inj_ne hin (by omega) (by omega) (by omega)) (n_p0_x := inj_ne hin (by omega) (by omega) (by omega)) (n_p0_x_before0 := inj_ne hin (by omega) (by omega) (by omega)) (n_p0_x_before1 := inj_ne hin (by omega) (by omega) (by omega)) (n_p0_memory_p0_memory_ring := inj_ne hin (by omega) (by omega) (by omega)) (n_p0_memory_p0_now := inj_ne hin (by omega) (by omega) (by omega)) (n_p0_memory_p0_now_before0 := inj_ne hin (by omega) (by omega) (by omega)) (n_p0_memory_p0_now_before1 := inj_ne hin (by omega) (by omega) (by omega)) (n_p0_memory_p1 := inj_ne hin (by omega) (by omega) (by omega)) (n_p0_memory_x := inj_ne hin (by omega) (by omega) (by omega)) (n_p0_memory_x_before0 := inj_ne hin (by omega) (by omega) (by omega)) (n_p0_memory_x_before1 := inj_ne hin (by omega) (by omega) (by omega)) (n_p0_memory_ring_x := inj_ne hin (by omega) (by omega) (by omega)) (n_p0_memory_ring_x_before0 := inj_ne hin (by omega) (by omega) (by omega)) (n_p0_memory_ring_x_before1 := inj_ne hin (by omega) (by omega) (by omega)) (n_p0_now_p0_now_before0 := inj_ne hin (by omega) (by omega) (by omega)) (n_p0_now_p0_now_before1 := inj_ne hin (by omega) (by omega) (by omega)) (n_p0_now_p1 := inj_ne hin (by omega) (by omega) (by omega)) (n_p0_now_x := inj_ne hin (by omega) (by omega) (by omega)) (n_p0_now_x_before0 := inj_ne hin (by omega) (by omega) (by omega)) (n_p0_now_x_before1 := inj_ne hin (by omega) (by omega) (by omega)) (n_p0_now_before0_p0_now_before1 := inj_ne hin (by omega) (by omega) (by omega)) (n_p0_now_before0_p1 := inj_ne hin (by omega) (by omega) (by omega)) (n_p0_now_before0_x := inj_ne hin (by omega) (by omega) (by omega)) (n_p0_now_before0_x_before0 := inj_ne hin (by omega) (by omega) (by omega)) (n_p0_now_before0_x_before1 := inj_ne hin (by omega) (by omega) (by omega)) (n_p0_now_before1_p1 := inj_ne hin (by omega) (by omega) (by omega)) (n_p0_now_before1_x := inj_ne hin (by omega) (by omega) (by omega)) (n_p0_now_before1_x_before0 := inj_ne hin (by omega) (by omega) (by omega)) (n_p0_now_before1_x_before1 := inj_ne hin (by omega) (by omega) (by omega)) (n_p1_x := inj_ne hin (by omega) (by omega) (by omega)) (n_p1_x_before0 := inj_ne hin (by omega) (by omega) (by omega)) (n_p1_x_before1 := inj_ne hin (by omega) (by omega) (by omega)) (n_x_x_before0 := inj_ne hin (by omega) (by omega) (by omega)) (n_x_x_before1 := inj_ne hin (by omega) (by omega) (by omega)) (n_x_before0_x_before1 := inj_ne hin (by omega) (by omega) (by omega)) (hlt := hlt) (h := hr)) gL_law_L_pass rfl rfl rfl q_L_pass ⟨Nat.le_of_ble_eq_true rfl, Nat.le_of_ble_eq_true rfl⟩ rfl rfl (Nat.le_of_ble_eq_true rfl) hl.1 dL_law_762 ⟨hcc, hss⟩) hS (fun r9 H locs σ1 hp hM1 hS => ?_)
  obtain ⟨hr9, hq0, hq1, hq2, hq3, hq4, hq5, hq6, hq7, ho⟩ := hp
  replace hr9 : v.1 = r9 := hr9.symm
  subst hr9
  have hk1 : KE ad [7, 18 + 3 * x, 60, 3, 19 + 3 * x, 20 + 3 * x, 61, 62] σ σ1 := fun q f hq hn => ho q f hq (hn _ (List.Mem.head _)) (hn _ (List.Mem.tail _ (List.Mem.head _))) (hn _ (List.Mem.tail _ (List.Mem.tail _ (List.Mem.head _)))) (hn _ (List.Mem.tail _ (List.Mem.tail _ (List.Mem.tail _ (List.Mem.head _))))) (hn _ (List.Mem.tail _ (List.Mem.tail _ (List.Mem.tail _ (List.Mem.tail _ (List.Mem.head _)))))) (hn _ (List.Mem.tail _ (List.Mem.tail _ (List.Mem.tail _ (List.Mem.tail _ (List.Mem.tail _ (List.Mem.head _))))))) (hn _ (List.Mem.tail _ (List.Mem.tail _ (List.Mem.tail _ (List.Mem.tail _ (List.Mem.tail _ (List.Mem.tail _ (List.Mem.head _)))))))) (hn _ (List.Mem.tail _ (List.Mem.tail _ (List.Mem.tail _ (List.Mem.tail _ (List.Mem.tail _ (List.Mem.tail _ (List.Mem.tail _ (List.Mem.head _)))))))))
  have hB1 : BW K ad (nI len) ch v.2.2.2.2.1 rg S0 S1 v.2.1 σ1 := ⟨hk1.at hin (by omega) (by intro t ht; first | exact absurd ht List.not_mem_nil | (simp only [List.mem_cons, List.not_mem_nil, or_false] at ht; omega)) hB.1, hk1.at hin (by omega) (by intro t ht; first | exact absurd ht List.not_mem_nil | (simp only [List.mem_cons, List.not_mem_nil, or_false] at ht; omega)) hB.2.1, hk1.at hin (by omega) (by intro t ht; first | exact absurd ht List.not_mem_nil | (simp only [List.mem_cons, List.not_mem_nil, or_false] at ht; omega)) hB.2.2.1, hq3, hk1.at hin (by omega) (by intro t ht; first | exact absurd ht List.not_mem_nil | (simp only [List.mem_cons, List.not_mem_nil, or_false] at ht; omega)) hB.2.2.2.2.1, hk1.at hin (by omega) (by intro t ht; first | exact absurd ht List.not_mem_nil | (simp only [List.mem_cons, List.not_mem_nil, or_false] at ht; omega)) hB.2.2.2.2.2.1, hk1.at hin (by omega) (by intro t ht; first | exact absurd ht List.not_mem_nil | (simp only [List.mem_cons, List.not_mem_nil, or_false] at ht; omega)) hB.2.2.2.2.2.2.1, hq0⟩
  have hgd0 : σ1 (if v.1 = 0 then gr 14 else gr x) = some (cl2 (if v.1 = 0 then (G 14).2.2.2 else (G x).2.2.2)) := by by_cases q0 : v.1 = 0; (rw [if_pos q0, if_pos q0]; exact hk1.gr hD (by omega) (by intro t ht; first | exact absurd ht List.not_mem_nil | (simp only [List.mem_cons, List.not_mem_nil, or_false] at ht; omega)) g14d); (rw [if_neg q0, if_neg q0]; exact hk1.gr hD (by omega) (by intro t ht; first | exact absurd ht List.not_mem_nil | (simp only [List.mem_cons, List.not_mem_nil, or_false] at ht; omega)) gxd)
  have hgd1 : σ1 (gr 14) = some (cl2 (G 14).2.2.2) := hk1.gr hD (by omega) (by intro t ht; first | exact absurd ht List.not_mem_nil | (simp only [List.mem_cons, List.not_mem_nil, or_false] at ht; omega)) g14d
  have hG1 : ∀ u7, u7 < 18 → GW K ad (putN (putN gr x (if v.1 = 0 then gr 14 else gr x)) 14 (gr 14)) (putR (putR G x (v.2.2.1, v.2.2.2.2.2.1, v.2.2.2.2.2.2.1, (if v.1 = 0 then (G 14).2.2.2 else (G x).2.2.2))) 14 (v.2.2.2.1, v.2.2.2.2.2.2.2.1, v.2.2.2.2.2.2.2.2, (G 14).2.2.2)) σ1 u7 := by
    intro u7 hi18
    by_cases hu0 : u7 = 14
    · rw [hu0]
      exact GW_mk (hq2) (hq6) (hq7) (hgd1) (by rw [putN_at]) (by rw [putR_at])
    · by_cases hu1 : u7 = x
      · rw [hu1]
        exact GW_mk (hq1) (hq4) (hq5) (hgd0) (by rw [putN_ne (show ¬ x = 14 by omega), putN_at]) (by rw [putR_ne (show ¬ x = 14 by omega), putR_at])
      · exact GW_same (by rw [putN_ne hu0, putN_ne hu1]) (by rw [putR_ne hu0, putR_ne hu1]) (GW_keep hk1 hin hD hi18 (by intro t ht; first | exact absurd ht List.not_mem_nil | (simp only [List.mem_cons, List.not_mem_nil, or_false] at ht; omega)) (hG u7 hi18))
  have hD1 := (GD_put (x := 14) (a := (gr 14)) (GD_put (x := x) (a := (if v.1 = 0 then gr 14 else gr x)) hD (fun j hj => by by_cases q0 : v.1 = 0; (rw [if_pos q0]; exact hD 14 j (by omega) hj); (rw [if_neg q0]; exact hD x j (by omega) hj))) (fun j hj => hD 14 j (by omega) hj))
  have hR1 := RW_keep hk1 hin (by intro t ht; first | exact absurd ht List.not_mem_nil | (simp only [List.mem_cons, List.not_mem_nil, or_false] at ht; omega)) hR
  refine lv_istore (lv' := [(5, .int v.1), (0, .ref b), (1, .ref (ad 0)), (2, .ref (ad 8)), (3, .ref (ad 7)), (4, .int (nI i))]) hx hb dL_law_765 hl (by decide) rfl (fun ls hl => ?_)
  refine lv_aload_n hx hb dL_law_767 rfl (lv_at hl 3 rfl) ?_
  refine mw_wi (mw_runV (As := []) (rest := []) (ci := 6) (C := RX8) (T := TX8) (N := 19) hC hM1 hS hR1.1 rfl (c_X8_pass (hc_t := hR1.1) (hc_t_now := hR1.2.2.1) (hc_t_diary := hR1.2.2.2.2.1) (n_t_t_diary := inj_ne hin (by omega) (by omega) (by omega)) (n_t_t_now := inj_ne hin (by omega) (by omega) (by omega)) (n_t_diary_t_now := inj_ne hin (by omega) (by omega) (by omega)) (h := hs)) gL_law_X8_pass rfl rfl rfl rfl q_X8_pass ⟨Nat.le_of_ble_eq_true rfl, Nat.le_of_ble_eq_true rfl⟩ rfl rfl (Nat.le_of_ble_eq_true rfl) hl.1 dL_law_768 ⟨hcc, hss⟩) hS (fun r8 H locs σ2 hp hM2 hS => ?_)
  obtain ⟨hr8, hm0, hm1, hm2, ho2⟩ := hp
  replace hr8 : s9.1 = r8 := hr8.symm
  subst hr8
  have hk2 : KE ad [8, 10, 12] σ1 σ2 := fun q f hq hn => ho2 q f hq (hn _ (List.Mem.head _)) (hn _ (List.Mem.tail _ (List.Mem.head _))) (hn _ (List.Mem.tail _ (List.Mem.tail _ (List.Mem.head _))))
  have hR2 : RW K ad s9.2.1 tx s9.2.2.1 ft s9.2.2.2 fk fik fo fc fl σ2 := ⟨hm0, hk2.at hin (by omega) (by intro t ht; first | exact absurd ht List.not_mem_nil | (simp only [List.mem_cons, List.not_mem_nil, or_false] at ht; omega)) hR1.2.1, hm1, hk2.at hin (by omega) (by intro t ht; first | exact absurd ht List.not_mem_nil | (simp only [List.mem_cons, List.not_mem_nil, or_false] at ht; omega)) hR1.2.2.2.1, hm2, hk2.at hin (by omega) (by intro t ht; first | exact absurd ht List.not_mem_nil | (simp only [List.mem_cons, List.not_mem_nil, or_false] at ht; omega)) hR1.2.2.2.2.2.1, hk2.at hin (by omega) (by intro t ht; first | exact absurd ht List.not_mem_nil | (simp only [List.mem_cons, List.not_mem_nil, or_false] at ht; omega)) hR1.2.2.2.2.2.2.1, hk2.at hin (by omega) (by intro t ht; first | exact absurd ht List.not_mem_nil | (simp only [List.mem_cons, List.not_mem_nil, or_false] at ht; omega)) hR1.2.2.2.2.2.2.2.1, hk2.at hin (by omega) (by intro t ht; first | exact absurd ht List.not_mem_nil | (simp only [List.mem_cons, List.not_mem_nil, or_false] at ht; omega)) hR1.2.2.2.2.2.2.2.2.1, hk2.at hin (by omega) (by intro t ht; first | exact absurd ht List.not_mem_nil | (simp only [List.mem_cons, List.not_mem_nil, or_false] at ht; omega)) hR1.2.2.2.2.2.2.2.2.2⟩
  have hB2 := BW_keep hk2 hin (by intro t ht; first | exact absurd ht List.not_mem_nil | (simp only [List.mem_cons, List.not_mem_nil, or_false] at ht; omega)) hB1
  have hG2 := GA_keep hk2 hin hD1 (by intro t ht; first | exact absurd ht List.not_mem_nil | (simp only [List.mem_cons, List.not_mem_nil, or_false] at ht; omega)) hG1
  have hP2 : PR ad (putR (putR G x (v.2.2.1, v.2.2.2.2.2.1, v.2.2.2.2.2.2.1, (if v.1 = 0 then (G 14).2.2.2 else (G x).2.2.2))) 14 (v.2.2.2.1, v.2.2.2.2.2.2.2.1, v.2.2.2.2.2.2.2.2, (G 14).2.2.2)) (nI len) ch v.2.2.2.2.1 rg S0 S1 s9.2.1 tx s9.2.2.1 s9.2.2.2 fk fik := ⟨len, cd, o2, a2, rfl, ht9.trans e2, e3, hm91, hm92, memR_congr hm93 (fun i hi => putR_ne (by omega)), e7, (by rw [putR_ne (show ¬ 16 = 14 by omega), putR_ne (show ¬ 16 = x by omega)]; exact e8), (by rw [putR_ne (show ¬ 17 = 14 by omega), putR_ne (show ¬ 17 = x by omega)]; exact e9), (by rw [putR_at]; exact hgN)⟩
  have hREL : REL K ad σ2 := ⟨_, _, _, _, _, _, _, _, _, _, _, _, _, _, _, _, _, _, _, hB2, hG2, hD1, hR2, hP2⟩
  refine lv_istore (lv' := [(6, .int s9.1), (5, .int v.1), (0, .ref b), (1, .ref (ad 0)), (2, .ref (ad 8)), (3, .ref (ad 7)), (4, .int (nI i))]) hx hb dL_law_771 hl (by decide) rfl (fun ls hl => ?_)
  refine lv_aload_n hx hb dL_law_773 rfl (lv_at hl 4 rfl) ?_
  refine mw_ci (v := s9.2.1.1) (mw_runV (As := []) (rest := []) (ci := 6) (C := RX8) (T := TX8) (N := 19) hC hM2 hS hR2.1 rfl (c_X8_thrown (hc_t := hR2.1) (h := rfl)) gL_law_X8_thrown rfl rfl rfl rfl q_X8_thrown ⟨Nat.le_of_ble_eq_true rfl, Nat.le_of_ble_eq_true rfl⟩ rfl rfl (Nat.le_of_ble_eq_true rfl) hl.1 dL_law_774 ⟨hcc, hss⟩) ?_
  refine lv_iload hx hb dL_law_777 (lv_at hl 1 rfl) ?_
  have fin : W p l e room_1 s m #[Value.ref b] below meth c H locs (cells + 1) (slots + 6) Q (F0 m 1447 ls []) := kk H locs σ2 ls hM2 hS hREL (lv_sub hl [2, 3, 4, 5, 6] rfl)
  refine lv_icmp_eq (tgt := 784) hx hb dL_law_779 (by decide) (fun c9 => ?_) (fun c9 => absurd hy9 c9)
  refine lv_iload hx hb dL_law_784 (lv_at hl 1 rfl) ?_
  refine lv_if_ne (tgt := 801) hx hb dL_law_786 (by decide) (fun c8 => ?_) (fun c8 => ?_)
  · exact lv_goto (tgt := 1447) hx hb dL_law_801 (by decide) fin
  · refine lv_aload_n hx hb dL_law_789 rfl (lv_at hl 5 rfl) ?_
    refine lv_iconst (v := 0) hx hb dL_law_790 (by decide) ?_
    refine mw_ldJ hC hM2 hB2.2.2.2.2.2.2.2 (i := 0) vp_in_01 dL_law_791 ?_
    refine lv_iload hx hb dL_law_792 (lv_at hl 0 rfl) ?_
    refine lv_i2l (v := (s9.1).toInt64) hx hb dL_law_794 rfl ?_
    refine W.lcmp hx hb dL_law_795 ?_
    exact lv_if_eq (tgt := 801) hx hb dL_law_796 (by decide) (fun _ => lv_goto (tgt := 1447) hx hb dL_law_801 (by decide) fin) (fun c9 => absurd ((lg_cmp_eq _ _).mpr (hv9 c8)) c9)
set_option maxHeartbeats 4000000 in
set_option maxRecDepth 100000 in
theorem lwc_13 {p : Program} {l : Launch} {e : Env} {s : State} {m : MethodId} {below : List Frame} {meth : Method} {c : Code} {D : va_G} {K : Nat → ClassId} {H : Heap} {locs : List Loc} {cells slots b L i : Nat} {xs : Nat → Int32} {Q : State → Prop} {σ : mwm} {ad : Nat → Nat} {ls : Array Slot} (hC : CF p m c cL_law 8 s #[Value.ref b] wsL_law RL s.heap.size D K) (hX : SX s.heap.size s) (hlt : l.stackTraces = false) (hk162 : (Cond.constantLong RL 162 4294967295).before #[Value.ref b] s = true) (hxs : va_X b L xs s s.heap) (hbl : b < s.heap.size) (hin : inj72 ad) (hR0 : REL K ad σ) (hM : MW s.heap.size D σ H) (hS : va_S (zA s.heap.size) s.heap H locs) (hl : lv_has ls 8 [(0, .ref b), (1, .ref (ad 0)), (2, .ref (ad 8)), (3, .ref (ad 7)), (4, .int (nI i))]) (hi : i + 4 ≤ L) (hL : L ≤ 2048) (hcc : cells + 1 ≤ 601024) (hss : slots + 6 ≤ 7293034) (kk : ∀ (H1 : Heap) (locs1 : List Loc) (σ1 : mwm) (ls1 : Array Slot), MW s.heap.size D σ1 H1 → va_S (zA s.heap.size) s.heap H1 locs1 → REL K ad σ1 → lv_has ls1 8 [(0, .ref b), (1, .ref (ad 0)), (2, .ref (ad 8)), (3, .ref (ad 7)), (4, .int (nI i))] → W p l e room_1 s m #[Value.ref b] below meth c H1 locs1 (cells + 1) (slots + 6) Q (F0 m 1447 ls1 [])) : W p l e room_1 s m #[Value.ref b] below meth c H locs cells slots Q (F0 m 804 ls []) := by
  have hx := hC.1.1
  have hb := hC.1.2.1
  have hown := hC.1.2.2.2.1
  have hbA : ¬ zA s.heap.size b := Nat.not_le.mpr hbl
  have hi1 : vp_in (nI i + 1) L := by rw [show nI i + 1 = nI (i + 1) from nI_add i 1]; exact vp_in_nI (by omega) (by omega)
  have hi2 : vp_in (nI i + 2) L := by rw [show nI i + 2 = nI (i + 2) from nI_add i 2]; exact vp_in_nI (by omega) (by omega)
  have hi3 : vp_in (nI i + 3) L := by rw [show nI i + 3 = nI (i + 3) from nI_add i 3]; exact vp_in_nI (by omega) (by omega)
  obtain ⟨gr, G, wt, ch, mem, rg, S0, S1, o, y, tx, fn, ft, fd, fk, fik, fo, fc, fl, hB, hG, hD, hR, hP⟩ := hR0
  obtain ⟨len, cd, mo, ma, e1, e2, e3, e4, e5, e6, e7, e8, e9, e10⟩ := id hP
  subst e1
  subst e4
  obtain ⟨n, rule, mv, ps, pr, c0, c1, hGR⟩ := id e10
  obtain ⟨g14a, g14b, g14c, g14d⟩ := id (hG 14 (by omega))
  have g14a : σ (ad 60) = some (cl0 (ad 61) (ad 62) (gr 14) (G 14).1) := g14a
  have g14b : σ (ad 61) = some (eJ K 121 (G 14).2.1) := g14b
  have g14c : σ (ad 62) = some (eJ K 121 (G 14).2.2.1) := g14c
  obtain ⟨g15a, g15b, g15c, g15d⟩ := id (hG 15 (by omega))
  have g15a : σ (ad 63) = some (cl0 (ad 64) (ad 65) (gr 15) (G 15).1) := g15a
  have g15b : σ (ad 64) = some (eJ K 121 (G 15).2.1) := g15b
  have g15c : σ (ad 65) = some (eJ K 121 (G 15).2.2.1) := g15c
  obtain ⟨g16a, g16b, g16c, g16d⟩ := id (hG 16 (by omega))
  have g16a : σ (ad 66) = some (cl0 (ad 67) (ad 68) (gr 16) (G 16).1) := g16a
  have g16b : σ (ad 67) = some (eJ K 121 (G 16).2.1) := g16b
  have g16c : σ (ad 68) = some (eJ K 121 (G 16).2.2.1) := g16c
  obtain ⟨g17a, g17b, g17c, g17d⟩ := id (hG 17 (by omega))
  have g17a : σ (ad 69) = some (cl0 (ad 70) (ad 71) (gr 17) (G 17).1) := g17a
  have g17b : σ (ad 70) = some (eJ K 121 (G 17).2.1) := g17b
  have g17c : σ (ad 71) = some (eJ K 121 (G 17).2.2.1) := g17c
  obtain ⟨x, hx14, v, s9, hr, hs, hp9⟩ := set_act (ag := fun i => ad (18 + 3 * i)) e6 hGR e7 e5 o (xs (nI i + 1).toNatClampNeg)
  obtain ⟨hy9, hval, ht9, ⟨o2, a2, hm91, hm92, hm93⟩, hgN⟩ := id hp9
  obtain ⟨gxa, gxb, gxc, gxd⟩ := id (hG x (by omega))
  have hv9 : v.1 = 0 → v.2.1 (0 : Int32).toNatClampNeg = s9.1.toInt64 := fun z => hval z
  refine lv_aload_n hx hb dL_law_804 rfl (lv_at hl 1 rfl) ?_
  refine lv_aload_n hx hb dL_law_805 rfl (lv_at hl 0 rfl) ?_
  refine lv_iload hx hb dL_law_806 (lv_at hl 4 rfl) ?_
  refine lv_iconst (v := 1) hx hb dL_law_808 (by decide) ?_
  refine lv_iadd hx hb dL_law_809 ?_
  refine va_sld hx hb hxs hbl hbA hS hi1 dL_law_810 ?_
  refine lv_aload_n hx hb dL_law_811 rfl (lv_at hl 3 rfl) ?_
  refine mw_wi (mw_runSW (As := [.ref (ad 0), .int (xs (nI i + 1).toNatClampNeg), .ref (ad 7)]) (rest := []) hC hX hM hS (c_L_set (hc_p0 := hB.1) (hc_p2 := hB.2.2.2.2.2.2.2) (hc_x := gxa) (hc_p0_now := g14a) (hc_p0_memory := hB.2.2.2.1) (hc_x_before0 := gxb) (hc_x_before1 := gxc) (hc_p0_memory_ring := hB.2.2.2.2.1) (hc_p0_now_before0 := g14b) (hc_p0_now_before1 := g14c) (n_p0_p0_memory := inj_ne hin (by omega) (by omega) (by omega)) (n_p0_p0_now := inj_ne hin (by omega) (by omega) (by omega)) (n_p0_x := inj_ne hin (by omega) (by omega) (by omega)) (n_p0_x_before0 := inj_ne hin (by omega) (by omega) (by omega)) (n_p0_x_before1 := inj_ne hin (by omega) (by omega) (by omega)) (n_p0_memory_p0_memory_ring := inj_ne hin (by omega) (by omega) (by omega)) (n_p0_memory_p0_now := inj_ne hin (by omega) (by omega) (by omega)) (n_p0_memory_p0_now_before0 := inj_ne hin (by omega) (by omega) (by omega)) (n_p0_memory_p0_now_before1 := inj_ne hin (by omega) (by omega) (by omega)) (n_p0_memory_p2 := inj_ne hin (by omega) (by omega) (by omega)) (n_p0_memory_x := inj_ne hin (by omega) (by omega) (by omega)) (n_p0_memory_x_before0 := inj_ne hin (by omega) (by omega) (by omega)) (n_p0_memory_x_before1 := inj_ne hin (by omega) (by omega) (by omega)) (n_p0_memory_ring_x := inj_ne hin (by omega) (by omega) (by omega)) (n_p0_memory_ring_x_before0 := inj_ne hin (by omega) (by omega) (by omega)) (n_p0_memory_ring_x_before1 := inj_ne hin (by omega) (by omega) (by omega)) (n_p0_now_p2 := inj_ne hin (by omega) (by omega) (by omega)) (n_p0_now_x := inj_ne hin (by omega) (by omega) (by omega)) (n_p0_now_x_before0 := inj_ne hin (by omega) (by omega) (by omega)) (n_p0_now_x_before1 := inj_ne hin (by omega) (by omega) (by omega)) (n_p0_now_before0_x := inj_ne hin (by omega) (by omega) (by omega)) (n_p0_now_before0_x_before0 := inj_ne hin (by omega) (by omega) (by omega)) (n_p0_now_before0_x_before1 := inj_ne hin (by omega) (by omega) (by omega)) (n_p0_now_before1_x := inj_ne hin (by omega) (by omega) (by omega)) (n_p0_now_before1_x_before0 := inj_ne hin (by omega) (by omega) (by omega)) (n_p0_now_before1_x_before1 := inj_ne hin (by omega) (by omega) (by omega)) (n_p2_x := inj_ne hin (by omega) (by omega) (by omega)) (n_p2_x_before0 := inj_ne hin (by omega) (by omega) (by omega)) (n_p2_x_before1 := inj_ne hin (by omega) (by omega) (by omega)) (n_x_x_before0 := inj_ne hin (by omega) (by omega) (by omega)) (n_x_x_before1 := inj_ne hin (by omega) (by omega) (by omega)) (n_x_before0_x_before1 := inj_ne hin (by omega) (by omega) (by omega)) (hlt := hlt) (h := hr)) gL_law_L_set rfl rfl rfl q_L_set ⟨Nat.le_of_ble_eq_true rfl, Nat.le_of_ble_eq_true rfl⟩ rfl rfl (Nat.le_of_ble_eq_true rfl) hl.1 dL_law_812 ⟨hcc, hss⟩) hS (fun r9 H locs σ1 hp hM1 hS => ?_)
  obtain ⟨hr9, hq0, hq1, hq2, hq3, hq4, hq5, ho⟩ := hp
  replace hr9 : v.1 = r9 := hr9.symm
  subst hr9
  have hk1 : KE ad [7, 18 + 3 * x, 60, 3, 19 + 3 * x, 20 + 3 * x] σ σ1 := fun q f hq hn => ho q f hq (hn _ (List.Mem.head _)) (hn _ (List.Mem.tail _ (List.Mem.head _))) (hn _ (List.Mem.tail _ (List.Mem.tail _ (List.Mem.head _)))) (hn _ (List.Mem.tail _ (List.Mem.tail _ (List.Mem.tail _ (List.Mem.head _))))) (hn _ (List.Mem.tail _ (List.Mem.tail _ (List.Mem.tail _ (List.Mem.tail _ (List.Mem.head _)))))) (hn _ (List.Mem.tail _ (List.Mem.tail _ (List.Mem.tail _ (List.Mem.tail _ (List.Mem.tail _ (List.Mem.head _)))))))
  have hB1 : BW K ad (nI len) ch v.2.2.2.2.1 rg S0 S1 v.2.1 σ1 := ⟨hk1.at hin (by omega) (by intro t ht; first | exact absurd ht List.not_mem_nil | (simp only [List.mem_cons, List.not_mem_nil, or_false] at ht; omega)) hB.1, hk1.at hin (by omega) (by intro t ht; first | exact absurd ht List.not_mem_nil | (simp only [List.mem_cons, List.not_mem_nil, or_false] at ht; omega)) hB.2.1, hk1.at hin (by omega) (by intro t ht; first | exact absurd ht List.not_mem_nil | (simp only [List.mem_cons, List.not_mem_nil, or_false] at ht; omega)) hB.2.2.1, hq3, hk1.at hin (by omega) (by intro t ht; first | exact absurd ht List.not_mem_nil | (simp only [List.mem_cons, List.not_mem_nil, or_false] at ht; omega)) hB.2.2.2.2.1, hk1.at hin (by omega) (by intro t ht; first | exact absurd ht List.not_mem_nil | (simp only [List.mem_cons, List.not_mem_nil, or_false] at ht; omega)) hB.2.2.2.2.2.1, hk1.at hin (by omega) (by intro t ht; first | exact absurd ht List.not_mem_nil | (simp only [List.mem_cons, List.not_mem_nil, or_false] at ht; omega)) hB.2.2.2.2.2.2.1, hq0⟩
  have hgd0 : σ1 (if v.1 = 0 then gr 14 else gr x) = some (cl2 (if v.1 = 0 then (G 14).2.2.2 else (G x).2.2.2)) := by by_cases q0 : v.1 = 0; (rw [if_pos q0, if_pos q0]; exact hk1.gr hD (by omega) (by intro t ht; first | exact absurd ht List.not_mem_nil | (simp only [List.mem_cons, List.not_mem_nil, or_false] at ht; omega)) g14d); (rw [if_neg q0, if_neg q0]; exact hk1.gr hD (by omega) (by intro t ht; first | exact absurd ht List.not_mem_nil | (simp only [List.mem_cons, List.not_mem_nil, or_false] at ht; omega)) gxd)
  have hgd1 : σ1 (gr 14) = some (cl2 (G 14).2.2.2) := hk1.gr hD (by omega) (by intro t ht; first | exact absurd ht List.not_mem_nil | (simp only [List.mem_cons, List.not_mem_nil, or_false] at ht; omega)) g14d
  have hG1 : ∀ u7, u7 < 18 → GW K ad (putN (putN gr x (if v.1 = 0 then gr 14 else gr x)) 14 (gr 14)) (putR (putR G x (v.2.2.1, v.2.2.2.2.2.1, v.2.2.2.2.2.2, (if v.1 = 0 then (G 14).2.2.2 else (G x).2.2.2))) 14 (v.2.2.2.1, (G 14).2.1, (G 14).2.2.1, (G 14).2.2.2)) σ1 u7 := by
    intro u7 hi18
    by_cases hu0 : u7 = 14
    · rw [hu0]
      exact GW_mk (hq2) (hk1.at hin (by omega) (by intro t ht; first | exact absurd ht List.not_mem_nil | (simp only [List.mem_cons, List.not_mem_nil, or_false] at ht; omega)) g14b) (hk1.at hin (by omega) (by intro t ht; first | exact absurd ht List.not_mem_nil | (simp only [List.mem_cons, List.not_mem_nil, or_false] at ht; omega)) g14c) (hgd1) (by rw [putN_at]) (by rw [putR_at])
    · by_cases hu1 : u7 = x
      · rw [hu1]
        exact GW_mk (hq1) (hq4) (hq5) (hgd0) (by rw [putN_ne (show ¬ x = 14 by omega), putN_at]) (by rw [putR_ne (show ¬ x = 14 by omega), putR_at])
      · exact GW_same (by rw [putN_ne hu0, putN_ne hu1]) (by rw [putR_ne hu0, putR_ne hu1]) (GW_keep hk1 hin hD hi18 (by intro t ht; first | exact absurd ht List.not_mem_nil | (simp only [List.mem_cons, List.not_mem_nil, or_false] at ht; omega)) (hG u7 hi18))
  have hD1 := (GD_put (x := 14) (a := (gr 14)) (GD_put (x := x) (a := (if v.1 = 0 then gr 14 else gr x)) hD (fun j hj => by by_cases q0 : v.1 = 0; (rw [if_pos q0]; exact hD 14 j (by omega) hj); (rw [if_neg q0]; exact hD x j (by omega) hj))) (fun j hj => hD 14 j (by omega) hj))
  have hR1 := RW_keep hk1 hin (by intro t ht; first | exact absurd ht List.not_mem_nil | (simp only [List.mem_cons, List.not_mem_nil, or_false] at ht; omega)) hR
  refine lv_istore (lv' := [(5, .int v.1), (0, .ref b), (1, .ref (ad 0)), (2, .ref (ad 8)), (3, .ref (ad 7)), (4, .int (nI i))]) hx hb dL_law_815 hl (by decide) rfl (fun ls hl => ?_)
  refine lv_aload_n hx hb dL_law_817 rfl (lv_at hl 3 rfl) ?_
  refine lv_aload_n hx hb dL_law_818 rfl (lv_at hl 1 rfl) ?_
  refine lv_iload hx hb dL_law_819 (lv_at hl 5 rfl) ?_
  refine lv_iconst (v := 1) hx hb dL_law_821 (by decide) ?_
  refine lv_iadd hx hb dL_law_822 ?_
  refine va_sld hx hb hxs hbl hbA hS hi1 dL_law_823 ?_
  refine mw_wi (mw_runV (As := [.int (xs (nI i + 1).toNatClampNeg)]) (rest := []) (ci := 6) (C := RX8) (T := TX8) (N := 19) hC hM1 hS hR1.1 rfl (c_X8_set (hc_t := hR1.1) (hc_t_now := hR1.2.2.1) (hc_t_diary := hR1.2.2.2.2.1) (n_t_t_diary := inj_ne hin (by omega) (by omega) (by omega)) (n_t_t_now := inj_ne hin (by omega) (by omega) (by omega)) (n_t_diary_t_now := inj_ne hin (by omega) (by omega) (by omega)) (h := hs)) gL_law_X8_set rfl rfl rfl rfl q_X8_set ⟨Nat.le_of_ble_eq_true rfl, Nat.le_of_ble_eq_true rfl⟩ rfl rfl (Nat.le_of_ble_eq_true rfl) hl.1 dL_law_824 ⟨hcc, hss⟩) hS (fun r8 H locs σ2 hp hM2 hS => ?_)
  obtain ⟨hr8, hm0, hm1, hm2, ho2⟩ := hp
  replace hr8 : s9.1 = r8 := hr8.symm
  subst hr8
  have hk2 : KE ad [8, 10, 12] σ1 σ2 := fun q f hq hn => ho2 q f hq (hn _ (List.Mem.head _)) (hn _ (List.Mem.tail _ (List.Mem.head _))) (hn _ (List.Mem.tail _ (List.Mem.tail _ (List.Mem.head _))))
  have hR2 : RW K ad s9.2.1 tx s9.2.2.1 ft s9.2.2.2 fk fik fo fc fl σ2 := ⟨hm0, hk2.at hin (by omega) (by intro t ht; first | exact absurd ht List.not_mem_nil | (simp only [List.mem_cons, List.not_mem_nil, or_false] at ht; omega)) hR1.2.1, hm1, hk2.at hin (by omega) (by intro t ht; first | exact absurd ht List.not_mem_nil | (simp only [List.mem_cons, List.not_mem_nil, or_false] at ht; omega)) hR1.2.2.2.1, hm2, hk2.at hin (by omega) (by intro t ht; first | exact absurd ht List.not_mem_nil | (simp only [List.mem_cons, List.not_mem_nil, or_false] at ht; omega)) hR1.2.2.2.2.2.1, hk2.at hin (by omega) (by intro t ht; first | exact absurd ht List.not_mem_nil | (simp only [List.mem_cons, List.not_mem_nil, or_false] at ht; omega)) hR1.2.2.2.2.2.2.1, hk2.at hin (by omega) (by intro t ht; first | exact absurd ht List.not_mem_nil | (simp only [List.mem_cons, List.not_mem_nil, or_false] at ht; omega)) hR1.2.2.2.2.2.2.2.1, hk2.at hin (by omega) (by intro t ht; first | exact absurd ht List.not_mem_nil | (simp only [List.mem_cons, List.not_mem_nil, or_false] at ht; omega)) hR1.2.2.2.2.2.2.2.2.1, hk2.at hin (by omega) (by intro t ht; first | exact absurd ht List.not_mem_nil | (simp only [List.mem_cons, List.not_mem_nil, or_false] at ht; omega)) hR1.2.2.2.2.2.2.2.2.2⟩
  have hB2 := BW_keep hk2 hin (by intro t ht; first | exact absurd ht List.not_mem_nil | (simp only [List.mem_cons, List.not_mem_nil, or_false] at ht; omega)) hB1
  have hG2 := GA_keep hk2 hin hD1 (by intro t ht; first | exact absurd ht List.not_mem_nil | (simp only [List.mem_cons, List.not_mem_nil, or_false] at ht; omega)) hG1
  have hP2 : PR ad (putR (putR G x (v.2.2.1, v.2.2.2.2.2.1, v.2.2.2.2.2.2, (if v.1 = 0 then (G 14).2.2.2 else (G x).2.2.2))) 14 (v.2.2.2.1, (G 14).2.1, (G 14).2.2.1, (G 14).2.2.2)) (nI len) ch v.2.2.2.2.1 rg S0 S1 s9.2.1 tx s9.2.2.1 s9.2.2.2 fk fik := ⟨len, cd, o2, a2, rfl, ht9.trans e2, e3, hm91, hm92, memR_congr hm93 (fun i hi => putR_ne (by omega)), e7, (by rw [putR_ne (show ¬ 16 = 14 by omega), putR_ne (show ¬ 16 = x by omega)]; exact e8), (by rw [putR_ne (show ¬ 17 = 14 by omega), putR_ne (show ¬ 17 = x by omega)]; exact e9), (by rw [putR_at]; exact hgN)⟩
  have hREL : REL K ad σ2 := ⟨_, _, _, _, _, _, _, _, _, _, _, _, _, _, _, _, _, _, _, hB2, hG2, hD1, hR2, hP2⟩
  refine lv_istore (lv' := [(6, .int s9.1), (5, .int v.1), (0, .ref b), (1, .ref (ad 0)), (2, .ref (ad 8)), (3, .ref (ad 7)), (4, .int (nI i))]) hx hb dL_law_827 hl (by decide) rfl (fun ls hl => ?_)
  refine lv_aload_n hx hb dL_law_829 rfl (lv_at hl 4 rfl) ?_
  refine mw_ci (v := s9.2.1.1) (mw_runV (As := []) (rest := []) (ci := 6) (C := RX8) (T := TX8) (N := 19) hC hM2 hS hR2.1 rfl (c_X8_thrown (hc_t := hR2.1) (h := rfl)) gL_law_X8_thrown rfl rfl rfl rfl q_X8_thrown ⟨Nat.le_of_ble_eq_true rfl, Nat.le_of_ble_eq_true rfl⟩ rfl rfl (Nat.le_of_ble_eq_true rfl) hl.1 dL_law_830 ⟨hcc, hss⟩) ?_
  refine lv_iload hx hb dL_law_833 (lv_at hl 1 rfl) ?_
  have fin : W p l e room_1 s m #[Value.ref b] below meth c H locs (cells + 1) (slots + 6) Q (F0 m 1447 ls []) := kk H locs σ2 ls hM2 hS hREL (lv_sub hl [2, 3, 4, 5, 6] rfl)
  refine lv_icmp_eq (tgt := 840) hx hb dL_law_835 (by decide) (fun c9 => ?_) (fun c9 => absurd hy9 c9)
  refine lv_iload hx hb dL_law_840 (lv_at hl 1 rfl) ?_
  refine lv_if_ne (tgt := 857) hx hb dL_law_842 (by decide) (fun c8 => ?_) (fun c8 => ?_)
  · exact lv_goto (tgt := 1447) hx hb dL_law_857 (by decide) fin
  · refine lv_aload_n hx hb dL_law_845 rfl (lv_at hl 5 rfl) ?_
    refine lv_iconst (v := 0) hx hb dL_law_846 (by decide) ?_
    refine mw_ldJ hC hM2 hB2.2.2.2.2.2.2.2 (i := 0) vp_in_01 dL_law_847 ?_
    refine lv_iload hx hb dL_law_848 (lv_at hl 0 rfl) ?_
    refine lv_i2l (v := (s9.1).toInt64) hx hb dL_law_850 rfl ?_
    refine W.lcmp hx hb dL_law_851 ?_
    exact lv_if_eq (tgt := 857) hx hb dL_law_852 (by decide) (fun _ => lv_goto (tgt := 1447) hx hb dL_law_857 (by decide) fin) (fun c9 => absurd ((lg_cmp_eq _ _).mpr (hv9 c8)) c9)
set_option maxHeartbeats 4000000 in
set_option maxRecDepth 100000 in
theorem lwc_14 {p : Program} {l : Launch} {e : Env} {s : State} {m : MethodId} {below : List Frame} {meth : Method} {c : Code} {D : va_G} {K : Nat → ClassId} {H : Heap} {locs : List Loc} {cells slots b L i : Nat} {xs : Nat → Int32} {Q : State → Prop} {σ : mwm} {ad : Nat → Nat} {ls : Array Slot} (hC : CF p m c cL_law 8 s #[Value.ref b] wsL_law RL s.heap.size D K) (hX : SX s.heap.size s) (hlt : l.stackTraces = false) (hk162 : (Cond.constantLong RL 162 4294967295).before #[Value.ref b] s = true) (hxs : va_X b L xs s s.heap) (hbl : b < s.heap.size) (hin : inj72 ad) (hR0 : REL K ad σ) (hM : MW s.heap.size D σ H) (hS : va_S (zA s.heap.size) s.heap H locs) (hl : lv_has ls 8 [(0, .ref b), (1, .ref (ad 0)), (2, .ref (ad 8)), (3, .ref (ad 7)), (4, .int (nI i))]) (hi : i + 4 ≤ L) (hL : L ≤ 2048) (hcc : cells + 1 ≤ 601024) (hss : slots + 6 ≤ 7293034) (kk : ∀ (H1 : Heap) (locs1 : List Loc) (σ1 : mwm) (ls1 : Array Slot), MW s.heap.size D σ1 H1 → va_S (zA s.heap.size) s.heap H1 locs1 → REL K ad σ1 → lv_has ls1 8 [(0, .ref b), (1, .ref (ad 0)), (2, .ref (ad 8)), (3, .ref (ad 7)), (4, .int (nI i))] → W p l e room_1 s m #[Value.ref b] below meth c H1 locs1 (cells + 1) (slots + 6) Q (F0 m 1447 ls1 [])) : W p l e room_1 s m #[Value.ref b] below meth c H locs cells slots Q (F0 m 860 ls []) := by
  have hx := hC.1.1
  have hb := hC.1.2.1
  have hown := hC.1.2.2.2.1
  have hbA : ¬ zA s.heap.size b := Nat.not_le.mpr hbl
  have hi1 : vp_in (nI i + 1) L := by rw [show nI i + 1 = nI (i + 1) from nI_add i 1]; exact vp_in_nI (by omega) (by omega)
  have hi2 : vp_in (nI i + 2) L := by rw [show nI i + 2 = nI (i + 2) from nI_add i 2]; exact vp_in_nI (by omega) (by omega)
  have hi3 : vp_in (nI i + 3) L := by rw [show nI i + 3 = nI (i + 3) from nI_add i 3]; exact vp_in_nI (by omega) (by omega)
  obtain ⟨gr, G, wt, ch, mem, rg, S0, S1, o, y, tx, fn, ft, fd, fk, fik, fo, fc, fl, hB, hG, hD, hR, hP⟩ := hR0
  obtain ⟨len, cd, mo, ma, e1, e2, e3, e4, e5, e6, e7, e8, e9, e10⟩ := id hP
  subst e1
  subst e4
  obtain ⟨n, rule, mv, ps, pr, c0, c1, hGR⟩ := id e10
  obtain ⟨g14a, g14b, g14c, g14d⟩ := id (hG 14 (by omega))
  have g14a : σ (ad 60) = some (cl0 (ad 61) (ad 62) (gr 14) (G 14).1) := g14a
  have g14b : σ (ad 61) = some (eJ K 121 (G 14).2.1) := g14b
  have g14c : σ (ad 62) = some (eJ K 121 (G 14).2.2.1) := g14c
  obtain ⟨g15a, g15b, g15c, g15d⟩ := id (hG 15 (by omega))
  have g15a : σ (ad 63) = some (cl0 (ad 64) (ad 65) (gr 15) (G 15).1) := g15a
  have g15b : σ (ad 64) = some (eJ K 121 (G 15).2.1) := g15b
  have g15c : σ (ad 65) = some (eJ K 121 (G 15).2.2.1) := g15c
  obtain ⟨g16a, g16b, g16c, g16d⟩ := id (hG 16 (by omega))
  have g16a : σ (ad 66) = some (cl0 (ad 67) (ad 68) (gr 16) (G 16).1) := g16a
  have g16b : σ (ad 67) = some (eJ K 121 (G 16).2.1) := g16b
  have g16c : σ (ad 68) = some (eJ K 121 (G 16).2.2.1) := g16c
  obtain ⟨g17a, g17b, g17c, g17d⟩ := id (hG 17 (by omega))
  have g17a : σ (ad 69) = some (cl0 (ad 70) (ad 71) (gr 17) (G 17).1) := g17a
  have g17b : σ (ad 70) = some (eJ K 121 (G 17).2.1) := g17b
  have g17c : σ (ad 71) = some (eJ K 121 (G 17).2.2.1) := g17c
  obtain ⟨x, hx14, v, s9, hr, hs, hp9⟩ := undo_act (ag := fun i => ad (18 + 3 * i)) e6 hGR e7 e5 o
  obtain ⟨hy9, hval, ht9, ⟨o2, a2, hm91, hm92, hm93⟩, hgN⟩ := id hp9
  obtain ⟨gxa, gxb, gxc, gxd⟩ := id (hG x (by omega))
  have hv9 : v.1 = 0 → v.2.1 (0 : Int32).toNatClampNeg = s9.1.toInt64 := fun z => hval z
  refine lv_aload_n hx hb dL_law_860 rfl (lv_at hl 1 rfl) ?_
  refine lv_aload_n hx hb dL_law_861 rfl (lv_at hl 3 rfl) ?_
  refine mw_wi (mw_runSW (As := [.ref (ad 0), .ref (ad 7)]) (rest := []) hC hX hM hS (c_L_undo (hc_p0 := hB.1) (hc_p1 := hB.2.2.2.2.2.2.2) (hc_x := gxa) (hc_p0_now := g14a) (hc_p0_memory := hB.2.2.2.1) (hc_x_before0 := gxb) (hc_x_before1 := gxc) (hc_p0_memory_ring := hB.2.2.2.2.1) (hc_p0_now_before0 := g14b) (hc_p0_now_before1 := g14c) (n_p0_memory_p0_now := inj_ne hin (by omega) (by omega) (by omega)) (n_p0_memory_p0_now_before0 := inj_ne hin (by omega) (by omega) (by omega)) (n_p0_memory_p0_now_before1 := inj_ne hin (by omega) (by omega) (by omega)) (n_p0_memory_p1 := inj_ne hin (by omega) (by omega) (by omega)) (n_p0_now_p0_now_before0 := inj_ne hin (by omega) (by omega) (by omega)) (n_p0_now_p0_now_before1 := inj_ne hin (by omega) (by omega) (by omega)) (n_p0_now_p1 := inj_ne hin (by omega) (by omega) (by omega)) (n_p0_now_x := inj_ne hin (by omega) (by omega) (by omega)) (n_p0_now_x_before0 := inj_ne hin (by omega) (by omega) (by omega)) (n_p0_now_x_before1 := inj_ne hin (by omega) (by omega) (by omega)) (n_p0_now_before0_p0_now_before1 := inj_ne hin (by omega) (by omega) (by omega)) (n_p0_now_before0_p1 := inj_ne hin (by omega) (by omega) (by omega)) (n_p0_now_before0_x := inj_ne hin (by omega) (by omega) (by omega)) (n_p0_now_before0_x_before0 := inj_ne hin (by omega) (by omega) (by omega)) (n_p0_now_before0_x_before1 := inj_ne hin (by omega) (by omega) (by omega)) (n_p0_now_before1_p1 := inj_ne hin (by omega) (by omega) (by omega)) (n_p0_now_before1_x := inj_ne hin (by omega) (by omega) (by omega)) (n_p0_now_before1_x_before0 := inj_ne hin (by omega) (by omega) (by omega)) (n_p0_now_before1_x_before1 := inj_ne hin (by omega) (by omega) (by omega)) (hlt := hlt) (h := hr)) gL_law_L_undo rfl rfl rfl q_L_undo ⟨Nat.le_of_ble_eq_true rfl, Nat.le_of_ble_eq_true rfl⟩ rfl rfl (Nat.le_of_ble_eq_true rfl) hl.1 dL_law_862 ⟨hcc, hss⟩) hS (fun r9 H locs σ1 hp hM1 hS => ?_)
  obtain ⟨hr9, hq0, hq1, hq2, hq3, hq4, ho⟩ := hp
  replace hr9 : v.1 = r9 := hr9.symm
  subst hr9
  have hk1 : KE ad [7, 60, 3, 61, 62] σ σ1 := fun q f hq hn => ho q f hq (hn _ (List.Mem.head _)) (hn _ (List.Mem.tail _ (List.Mem.head _))) (hn _ (List.Mem.tail _ (List.Mem.tail _ (List.Mem.head _)))) (hn _ (List.Mem.tail _ (List.Mem.tail _ (List.Mem.tail _ (List.Mem.head _))))) (hn _ (List.Mem.tail _ (List.Mem.tail _ (List.Mem.tail _ (List.Mem.tail _ (List.Mem.head _))))))
  have hB1 : BW K ad (nI len) ch v.2.2.2.1 rg S0 S1 v.2.1 σ1 := ⟨hk1.at hin (by omega) (by intro t ht; first | exact absurd ht List.not_mem_nil | (simp only [List.mem_cons, List.not_mem_nil, or_false] at ht; omega)) hB.1, hk1.at hin (by omega) (by intro t ht; first | exact absurd ht List.not_mem_nil | (simp only [List.mem_cons, List.not_mem_nil, or_false] at ht; omega)) hB.2.1, hk1.at hin (by omega) (by intro t ht; first | exact absurd ht List.not_mem_nil | (simp only [List.mem_cons, List.not_mem_nil, or_false] at ht; omega)) hB.2.2.1, hq2, hk1.at hin (by omega) (by intro t ht; first | exact absurd ht List.not_mem_nil | (simp only [List.mem_cons, List.not_mem_nil, or_false] at ht; omega)) hB.2.2.2.2.1, hk1.at hin (by omega) (by intro t ht; first | exact absurd ht List.not_mem_nil | (simp only [List.mem_cons, List.not_mem_nil, or_false] at ht; omega)) hB.2.2.2.2.2.1, hk1.at hin (by omega) (by intro t ht; first | exact absurd ht List.not_mem_nil | (simp only [List.mem_cons, List.not_mem_nil, or_false] at ht; omega)) hB.2.2.2.2.2.2.1, hq0⟩
  have hgd0 : σ1 (if v.1 = 0 then gr x else gr 14) = some (cl2 (if v.1 = 0 then (G x).2.2.2 else (G 14).2.2.2)) := by by_cases q0 : v.1 = 0; (rw [if_pos q0, if_pos q0]; exact hk1.gr hD (by omega) (by intro t ht; first | exact absurd ht List.not_mem_nil | (simp only [List.mem_cons, List.not_mem_nil, or_false] at ht; omega)) gxd); (rw [if_neg q0, if_neg q0]; exact hk1.gr hD (by omega) (by intro t ht; first | exact absurd ht List.not_mem_nil | (simp only [List.mem_cons, List.not_mem_nil, or_false] at ht; omega)) g14d)
  have hG1 : ∀ u7, u7 < 18 → GW K ad (putN gr 14 (if v.1 = 0 then gr x else gr 14)) (putR G 14 (v.2.2.1, v.2.2.2.2.1, v.2.2.2.2.2, (if v.1 = 0 then (G x).2.2.2 else (G 14).2.2.2))) σ1 u7 := by
    intro u7 hi18
    by_cases hu0 : u7 = 14
    · rw [hu0]
      exact GW_mk (hq1) (hq3) (hq4) (hgd0) (by rw [putN_at]) (by rw [putR_at])
    · exact GW_same (by rw [putN_ne hu0]) (by rw [putR_ne hu0]) (GW_keep hk1 hin hD hi18 (by intro t ht; first | exact absurd ht List.not_mem_nil | (simp only [List.mem_cons, List.not_mem_nil, or_false] at ht; omega)) (hG u7 hi18))
  have hD1 := (GD_put (x := 14) (a := (if v.1 = 0 then gr x else gr 14)) hD (fun j hj => by by_cases q0 : v.1 = 0; (rw [if_pos q0]; exact hD x j (by omega) hj); (rw [if_neg q0]; exact hD 14 j (by omega) hj)))
  have hR1 := RW_keep hk1 hin (by intro t ht; first | exact absurd ht List.not_mem_nil | (simp only [List.mem_cons, List.not_mem_nil, or_false] at ht; omega)) hR
  refine lv_istore (lv' := [(5, .int v.1), (0, .ref b), (1, .ref (ad 0)), (2, .ref (ad 8)), (3, .ref (ad 7)), (4, .int (nI i))]) hx hb dL_law_865 hl (by decide) rfl (fun ls hl => ?_)
  refine lv_aload_n hx hb dL_law_867 rfl (lv_at hl 3 rfl) ?_
  refine mw_wi (mw_runV (As := []) (rest := []) (ci := 6) (C := RX8) (T := TX8) (N := 19) hC hM1 hS hR1.1 rfl (c_X8_undo (hc_t := hR1.1) (hc_t_now := hR1.2.2.1) (hc_t_diary := hR1.2.2.2.2.1) (n_t_t_diary := inj_ne hin (by omega) (by omega) (by omega)) (n_t_t_now := inj_ne hin (by omega) (by omega) (by omega)) (n_t_diary_t_now := inj_ne hin (by omega) (by omega) (by omega)) (h := hs)) gL_law_X8_undo rfl rfl rfl rfl q_X8_undo ⟨Nat.le_of_ble_eq_true rfl, Nat.le_of_ble_eq_true rfl⟩ rfl rfl (Nat.le_of_ble_eq_true rfl) hl.1 dL_law_868 ⟨hcc, hss⟩) hS (fun r8 H locs σ2 hp hM2 hS => ?_)
  obtain ⟨hr8, hm0, hm1, ho2⟩ := hp
  replace hr8 : s9.1 = r8 := hr8.symm
  subst hr8
  have hk2 : KE ad [8, 10] σ1 σ2 := fun q f hq hn => ho2 q f hq (hn _ (List.Mem.head _)) (hn _ (List.Mem.tail _ (List.Mem.head _)))
  have hR2 : RW K ad s9.2.1 tx s9.2.2 ft fd fk fik fo fc fl σ2 := ⟨hm0, hk2.at hin (by omega) (by intro t ht; first | exact absurd ht List.not_mem_nil | (simp only [List.mem_cons, List.not_mem_nil, or_false] at ht; omega)) hR1.2.1, hm1, hk2.at hin (by omega) (by intro t ht; first | exact absurd ht List.not_mem_nil | (simp only [List.mem_cons, List.not_mem_nil, or_false] at ht; omega)) hR1.2.2.2.1, hk2.at hin (by omega) (by intro t ht; first | exact absurd ht List.not_mem_nil | (simp only [List.mem_cons, List.not_mem_nil, or_false] at ht; omega)) hR1.2.2.2.2.1, hk2.at hin (by omega) (by intro t ht; first | exact absurd ht List.not_mem_nil | (simp only [List.mem_cons, List.not_mem_nil, or_false] at ht; omega)) hR1.2.2.2.2.2.1, hk2.at hin (by omega) (by intro t ht; first | exact absurd ht List.not_mem_nil | (simp only [List.mem_cons, List.not_mem_nil, or_false] at ht; omega)) hR1.2.2.2.2.2.2.1, hk2.at hin (by omega) (by intro t ht; first | exact absurd ht List.not_mem_nil | (simp only [List.mem_cons, List.not_mem_nil, or_false] at ht; omega)) hR1.2.2.2.2.2.2.2.1, hk2.at hin (by omega) (by intro t ht; first | exact absurd ht List.not_mem_nil | (simp only [List.mem_cons, List.not_mem_nil, or_false] at ht; omega)) hR1.2.2.2.2.2.2.2.2.1, hk2.at hin (by omega) (by intro t ht; first | exact absurd ht List.not_mem_nil | (simp only [List.mem_cons, List.not_mem_nil, or_false] at ht; omega)) hR1.2.2.2.2.2.2.2.2.2⟩
  have hB2 := BW_keep hk2 hin (by intro t ht; first | exact absurd ht List.not_mem_nil | (simp only [List.mem_cons, List.not_mem_nil, or_false] at ht; omega)) hB1
  have hG2 := GA_keep hk2 hin hD1 (by intro t ht; first | exact absurd ht List.not_mem_nil | (simp only [List.mem_cons, List.not_mem_nil, or_false] at ht; omega)) hG1
  rw [putR_self] at hm93
  have hP2 : PR ad (putR G 14 (v.2.2.1, v.2.2.2.2.1, v.2.2.2.2.2, (if v.1 = 0 then (G x).2.2.2 else (G 14).2.2.2))) (nI len) ch v.2.2.2.1 rg S0 S1 s9.2.1 tx s9.2.2 fd fk fik := ⟨len, cd, o2, a2, rfl, ht9.trans e2, e3, hm91, hm92, memR_congr hm93 (fun i hi => putR_ne (by omega)), e7, (by rw [putR_ne (show ¬ 16 = 14 by omega)]; exact e8), (by rw [putR_ne (show ¬ 17 = 14 by omega)]; exact e9), (by rw [putR_at]; exact hgN)⟩
  have hREL : REL K ad σ2 := ⟨_, _, _, _, _, _, _, _, _, _, _, _, _, _, _, _, _, _, _, hB2, hG2, hD1, hR2, hP2⟩
  refine lv_istore (lv' := [(6, .int s9.1), (5, .int v.1), (0, .ref b), (1, .ref (ad 0)), (2, .ref (ad 8)), (3, .ref (ad 7)), (4, .int (nI i))]) hx hb dL_law_871 hl (by decide) rfl (fun ls hl => ?_)
  refine lv_aload_n hx hb dL_law_873 rfl (lv_at hl 4 rfl) ?_
  refine mw_ci (v := s9.2.1.1) (mw_runV (As := []) (rest := []) (ci := 6) (C := RX8) (T := TX8) (N := 19) hC hM2 hS hR2.1 rfl (c_X8_thrown (hc_t := hR2.1) (h := rfl)) gL_law_X8_thrown rfl rfl rfl rfl q_X8_thrown ⟨Nat.le_of_ble_eq_true rfl, Nat.le_of_ble_eq_true rfl⟩ rfl rfl (Nat.le_of_ble_eq_true rfl) hl.1 dL_law_874 ⟨hcc, hss⟩) ?_
  refine lv_iload hx hb dL_law_877 (lv_at hl 1 rfl) ?_
  have fin : W p l e room_1 s m #[Value.ref b] below meth c H locs (cells + 1) (slots + 6) Q (F0 m 1447 ls []) := kk H locs σ2 ls hM2 hS hREL (lv_sub hl [2, 3, 4, 5, 6] rfl)
  refine lv_icmp_eq (tgt := 884) hx hb dL_law_879 (by decide) (fun c9 => ?_) (fun c9 => absurd hy9 c9)
  refine lv_iload hx hb dL_law_884 (lv_at hl 1 rfl) ?_
  refine lv_if_ne (tgt := 901) hx hb dL_law_886 (by decide) (fun c8 => ?_) (fun c8 => ?_)
  · exact lv_goto (tgt := 1447) hx hb dL_law_901 (by decide) fin
  · refine lv_aload_n hx hb dL_law_889 rfl (lv_at hl 5 rfl) ?_
    refine lv_iconst (v := 0) hx hb dL_law_890 (by decide) ?_
    refine mw_ldJ hC hM2 hB2.2.2.2.2.2.2.2 (i := 0) vp_in_01 dL_law_891 ?_
    refine lv_iload hx hb dL_law_892 (lv_at hl 0 rfl) ?_
    refine lv_i2l (v := (s9.1).toInt64) hx hb dL_law_894 rfl ?_
    refine W.lcmp hx hb dL_law_895 ?_
    exact lv_if_eq (tgt := 901) hx hb dL_law_896 (by decide) (fun _ => lv_goto (tgt := 1447) hx hb dL_law_901 (by decide) fin) (fun c9 => absurd ((lg_cmp_eq _ _).mpr (hv9 c8)) c9)
