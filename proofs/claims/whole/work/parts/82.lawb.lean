set_option maxHeartbeats 4000000 in
set_option maxRecDepth 100000 in
theorem lwc_1 {p : Program} {l : Launch} {e : Env} {s : State} {m : MethodId} {below : List Frame} {meth : Method} {c : Code} {D : va_G} {K : Nat → ClassId} {H : Heap} {locs : List Loc} {cells slots b L i : Nat} {xs : Nat → Int32} {Q : State → Prop} {σ : mwm} {ad : Nat → Nat} {ls : Array Slot} (hC : CF p m c cL_law 8 s #[Value.ref b] wsL_law RL s.heap.size D K) (hX : SX s.heap.size s) (hlt : l.stackTraces = false) (hk162 : (Cond.constantLong RL 162 4294967295).before #[Value.ref b] s = true) (hxs : va_X b L xs s s.heap) (hbl : b < s.heap.size) (hin : inj72 ad) (hR0 : REL K ad σ) (hM : MW s.heap.size D σ H) (hS : va_S (zA s.heap.size) s.heap H locs) (hl : lv_has ls 8 [(0, .ref b), (1, .ref (ad 0)), (2, .ref (ad 8)), (3, .ref (ad 7)), (4, .int (nI i))]) (hi : i + 4 ≤ L) (hL : L ≤ 2048) (hcc : cells + 1 ≤ 601024) (hss : slots + 6 ≤ 7293034) (kk : ∀ (H1 : Heap) (locs1 : List Loc) (σ1 : mwm) (ls1 : Array Slot), MW s.heap.size D σ1 H1 → va_S (zA s.heap.size) s.heap H1 locs1 → REL K ad σ1 → lv_has ls1 8 [(0, .ref b), (1, .ref (ad 0)), (2, .ref (ad 8)), (3, .ref (ad 7)), (4, .int (nI i))] → W p l e room_1 s m #[Value.ref b] below meth c H1 locs1 (cells + 1) (slots + 6) Q (F0 m 1447 ls1 [])) : W p l e room_1 s m #[Value.ref b] below meth c H locs cells slots Q (F0 m 208 ls []) := by
  have hx := hC.1.1
  have hb := hC.1.2.1
  have hown := hC.1.2.2.2.1
  have hbA : ¬ zA s.heap.size b := Nat.not_le.mpr hbl
  have hi1 : vp_in (nI i + 1) L := by rw [show nI i + 1 = nI (i + 1) from nI_add i 1]; exact vp_in_nI (by omega) (by omega)
  have hi2 : vp_in (nI i + 2) L := by rw [show nI i + 2 = nI (i + 2) from nI_add i 2]; exact vp_in_nI (by omega) (by omega)
  have hi3 : vp_in (nI i + 3) L := by rw [show nI i + 3 = nI (i + 3) from nI_add i 3]; exact vp_in_nI (by omega) (by omega)
  obtain ⟨gr, G, wt, ch, mem, rg, S0, S1, o, y, tx, fn, ft, fd, fk, fik, fo, fc, fl, hB, hG, hD, hR, hP⟩ := hR0
  obtain ⟨len, cd, mo, ma, e1, e2, e3, e4, e5, e6, e7, e8, e9, e10⟩ := id hP
  subst e1
  subst e4
  obtain ⟨n, rule, mv, ps, pr, c0, c1, hGR⟩ := id e10
  obtain ⟨g14a, g14b, g14c, g14d⟩ := id (hG 14 (by omega))
  have g14a : σ (ad 60) = some (cl0 (ad 61) (ad 62) (gr 14) (G 14).1) := g14a
  have g14b : σ (ad 61) = some (eJ K 121 (G 14).2.1) := g14b
  have g14c : σ (ad 62) = some (eJ K 121 (G 14).2.2.1) := g14c
  obtain ⟨g15a, g15b, g15c, g15d⟩ := id (hG 15 (by omega))
  have g15a : σ (ad 63) = some (cl0 (ad 64) (ad 65) (gr 15) (G 15).1) := g15a
  have g15b : σ (ad 64) = some (eJ K 121 (G 15).2.1) := g15b
  have g15c : σ (ad 65) = some (eJ K 121 (G 15).2.2.1) := g15c
  obtain ⟨g16a, g16b, g16c, g16d⟩ := id (hG 16 (by omega))
  have g16a : σ (ad 66) = some (cl0 (ad 67) (ad 68) (gr 16) (G 16).1) := g16a
  have g16b : σ (ad 67) = some (eJ K 121 (G 16).2.1) := g16b
  have g16c : σ (ad 68) = some (eJ K 121 (G 16).2.2.1) := g16c
  obtain ⟨g17a, g17b, g17c, g17d⟩ := id (hG 17 (by omega))
  have g17a : σ (ad 69) = some (cl0 (ad 70) (ad 71) (gr 17) (G 17).1) := g17a
  have g17b : σ (ad 70) = some (eJ K 121 (G 17).2.1) := g17b
  have g17c : σ (ad 71) = some (eJ K 121 (G 17).2.2.1) := g17c
  have hr : fX7_clearText (nI len) = (nI len, 0) := rfl
  obtain ⟨y', hs, hy1, hy2⟩ : ∃ y', fX8_clearText y = (y.2.1, y') ∧ y'.2.1 = 0 ∧ y'.2.2.1 = y.2.2.1 := ⟨_, rfl, rfl, rfl⟩
  have hv9 : nI len = y.2.1 := e2.symm
  refine lv_aload_n hx hb dL_law_208 rfl (lv_at hl 1 rfl) ?_
  refine mw_wi (mw_runV (As := []) (rest := []) (ci := 5) (C := RX7) (T := TX7) (N := 6) hC hM hS hB.1 rfl (c_X7_clearText (hc_t := hB.1) (hc_t_text := hB.2.1) (h := hr)) gL_law_X7_clearText rfl rfl rfl rfl q_X7_clearText ⟨Nat.le_of_ble_eq_true rfl, Nat.le_of_ble_eq_true rfl⟩ rfl rfl (Nat.le_of_ble_eq_true rfl) hl.1 dL_law_209 ⟨Nat.le_of_succ_le hcc, Nat.le_trans (Nat.le_add_right _ _) hss⟩) hS (fun r9 H locs σ1 hp hM1 hS => ?_)
  obtain ⟨hr9, hq0, ho⟩ := hp
  replace hr9 : (nI len) = r9 := hr9.symm
  subst hr9
  have hk1 : KE ad [1] σ σ1 := fun q f hq hn => ho q f hq (hn _ (List.Mem.head _))
  have hB1 : BW K ad (nI 0) ch (nI mo, nI ma) rg S0 S1 o σ1 := ⟨hk1.at hin (by omega) (by intro t ht; first | exact absurd ht List.not_mem_nil | (simp only [List.mem_cons, List.not_mem_nil, or_false] at ht; omega)) hB.1, hq0, hk1.at hin (by omega) (by intro t ht; first | exact absurd ht List.not_mem_nil | (simp only [List.mem_cons, List.not_mem_nil, or_false] at ht; omega)) hB.2.2.1, hk1.at hin (by omega) (by intro t ht; first | exact absurd ht List.not_mem_nil | (simp only [List.mem_cons, List.not_mem_nil, or_false] at ht; omega)) hB.2.2.2.1, hk1.at hin (by omega) (by intro t ht; first | exact absurd ht List.not_mem_nil | (simp only [List.mem_cons, List.not_mem_nil, or_false] at ht; omega)) hB.2.2.2.2.1, hk1.at hin (by omega) (by intro t ht; first | exact absurd ht List.not_mem_nil | (simp only [List.mem_cons, List.not_mem_nil, or_false] at ht; omega)) hB.2.2.2.2.2.1, hk1.at hin (by omega) (by intro t ht; first | exact absurd ht List.not_mem_nil | (simp only [List.mem_cons, List.not_mem_nil, or_false] at ht; omega)) hB.2.2.2.2.2.2.1, hk1.at hin (by omega) (by intro t ht; first | exact absurd ht List.not_mem_nil | (simp only [List.mem_cons, List.not_mem_nil, or_false] at ht; omega)) hB.2.2.2.2.2.2.2⟩
  have hG1 := GA_keep hk1 hin hD (by intro t ht; first | exact absurd ht List.not_mem_nil | (simp only [List.mem_cons, List.not_mem_nil, or_false] at ht; omega)) hG
  have hD1 := hD
  have hR1 := RW_keep hk1 hin (by intro t ht; first | exact absurd ht List.not_mem_nil | (simp only [List.mem_cons, List.not_mem_nil, or_false] at ht; omega)) hR
  refine lv_aload_n hx hb dL_law_212 rfl (lv_at hl 2 rfl) ?_
  refine mw_wi (mw_runV (As := []) (rest := [.int (nI len)]) (ci := 6) (C := RX8) (T := TX8) (N := 19) hC hM1 hS hR1.1 rfl (c_X8_clearText (hc_t := hR1.1) (h := hs)) gL_law_X8_clearText rfl rfl rfl rfl q_X8_clearText ⟨Nat.le_of_ble_eq_true rfl, Nat.le_of_ble_eq_true rfl⟩ rfl rfl (Nat.le_of_ble_eq_true rfl) hl.1 dL_law_213 ⟨Nat.le_of_succ_le hcc, Nat.le_trans (Nat.le_add_right _ _) hss⟩) hS (fun r8 H locs σ2 hp hM2 hS => ?_)
  obtain ⟨hr8, hm0, ho2⟩ := hp
  replace hr8 : y.2.1 = r8 := hr8.symm
  subst hr8
  have hk2 : KE ad [8] σ1 σ2 := fun q f hq hn => ho2 q f hq (hn _ (List.Mem.head _))
  have hR2 : RW K ad y' tx fn ft fd fk fik fo fc fl σ2 := ⟨hm0, hk2.at hin (by omega) (by intro t ht; first | exact absurd ht List.not_mem_nil | (simp only [List.mem_cons, List.not_mem_nil, or_false] at ht; omega)) hR1.2.1, hk2.at hin (by omega) (by intro t ht; first | exact absurd ht List.not_mem_nil | (simp only [List.mem_cons, List.not_mem_nil, or_false] at ht; omega)) hR1.2.2.1, hk2.at hin (by omega) (by intro t ht; first | exact absurd ht List.not_mem_nil | (simp only [List.mem_cons, List.not_mem_nil, or_false] at ht; omega)) hR1.2.2.2.1, hk2.at hin (by omega) (by intro t ht; first | exact absurd ht List.not_mem_nil | (simp only [List.mem_cons, List.not_mem_nil, or_false] at ht; omega)) hR1.2.2.2.2.1, hk2.at hin (by omega) (by intro t ht; first | exact absurd ht List.not_mem_nil | (simp only [List.mem_cons, List.not_mem_nil, or_false] at ht; omega)) hR1.2.2.2.2.2.1, hk2.at hin (by omega) (by intro t ht; first | exact absurd ht List.not_mem_nil | (simp only [List.mem_cons, List.not_mem_nil, or_false] at ht; omega)) hR1.2.2.2.2.2.2.1, hk2.at hin (by omega) (by intro t ht; first | exact absurd ht List.not_mem_nil | (simp only [List.mem_cons, List.not_mem_nil, or_false] at ht; omega)) hR1.2.2.2.2.2.2.2.1, hk2.at hin (by omega) (by intro t ht; first | exact absurd ht List.not_mem_nil | (simp only [List.mem_cons, List.not_mem_nil, or_false] at ht; omega)) hR1.2.2.2.2.2.2.2.2.1, hk2.at hin (by omega) (by intro t ht; first | exact absurd ht List.not_mem_nil | (simp only [List.mem_cons, List.not_mem_nil, or_false] at ht; omega)) hR1.2.2.2.2.2.2.2.2.2⟩
  have hB2 := BW_keep hk2 hin (by intro t ht; first | exact absurd ht List.not_mem_nil | (simp only [List.mem_cons, List.not_mem_nil, or_false] at ht; omega)) hB1
  have hG2 := GA_keep hk2 hin hD1 (by intro t ht; first | exact absurd ht List.not_mem_nil | (simp only [List.mem_cons, List.not_mem_nil, or_false] at ht; omega)) hG1
  have hP2 : PR ad G (nI 0) ch (nI mo, nI ma) rg S0 S1 y' tx fn fd fk fik := ⟨0, cd, mo, ma, rfl, hy1, ⟨by omega, fun i hi => by omega⟩, rfl, hy2.trans e5, e6, e7, e8, e9, e10⟩
  have hREL : REL K ad σ2 := ⟨_, _, _, _, _, _, _, _, _, _, _, _, _, _, _, _, _, _, _, hB2, hG2, hD1, hR2, hP2⟩
  refine W.widen (k := cells + 1) (n := slots + 6) (Nat.le_add_right _ _) (Nat.le_add_right _ _) ?_
  exact lv_icmp_eq (tgt := 1447) hx hb dL_law_216 (by decide) (fun _ => kk H locs σ2 ls hM2 hS hREL (lv_sub hl [0, 1, 2, 3, 4] rfl)) (fun c9 => absurd hv9 c9)
set_option maxHeartbeats 4000000 in
set_option maxRecDepth 100000 in
theorem lwc_2 {p : Program} {l : Launch} {e : Env} {s : State} {m : MethodId} {below : List Frame} {meth : Method} {c : Code} {D : va_G} {K : Nat → ClassId} {H : Heap} {locs : List Loc} {cells slots b L i : Nat} {xs : Nat → Int32} {Q : State → Prop} {σ : mwm} {ad : Nat → Nat} {ls : Array Slot} (hC : CF p m c cL_law 8 s #[Value.ref b] wsL_law RL s.heap.size D K) (hX : SX s.heap.size s) (hlt : l.stackTraces = false) (hk162 : (Cond.constantLong RL 162 4294967295).before #[Value.ref b] s = true) (hxs : va_X b L xs s s.heap) (hbl : b < s.heap.size) (hin : inj72 ad) (hR0 : REL K ad σ) (hM : MW s.heap.size D σ H) (hS : va_S (zA s.heap.size) s.heap H locs) (hl : lv_has ls 8 [(0, .ref b), (1, .ref (ad 0)), (2, .ref (ad 8)), (3, .ref (ad 7)), (4, .int (nI i))]) (hi : i + 4 ≤ L) (hL : L ≤ 2048) (hcc : cells + 1 ≤ 601024) (hss : slots + 6 ≤ 7293034) (kk : ∀ (H1 : Heap) (locs1 : List Loc) (σ1 : mwm) (ls1 : Array Slot), MW s.heap.size D σ1 H1 → va_S (zA s.heap.size) s.heap H1 locs1 → REL K ad σ1 → lv_has ls1 8 [(0, .ref b), (1, .ref (ad 0)), (2, .ref (ad 8)), (3, .ref (ad 7)), (4, .int (nI i))] → W p l e room_1 s m #[Value.ref b] below meth c H1 locs1 (cells + 1) (slots + 6) Q (F0 m 1447 ls1 [])) : W p l e room_1 s m #[Value.ref b] below meth c H locs cells slots Q (F0 m 221 ls []) := by
  have hx := hC.1.1
  have hb := hC.1.2.1
  have hown := hC.1.2.2.2.1
  have hbA : ¬ zA s.heap.size b := Nat.not_le.mpr hbl
  have hi1 : vp_in (nI i + 1) L := by rw [show nI i + 1 = nI (i + 1) from nI_add i 1]; exact vp_in_nI (by omega) (by omega)
  have hi2 : vp_in (nI i + 2) L := by rw [show nI i + 2 = nI (i + 2) from nI_add i 2]; exact vp_in_nI (by omega) (by omega)
  have hi3 : vp_in (nI i + 3) L := by rw [show nI i + 3 = nI (i + 3) from nI_add i 3]; exact vp_in_nI (by omega) (by omega)
  obtain ⟨gr, G, wt, ch, mem, rg, S0, S1, o, y, tx, fn, ft, fd, fk, fik, fo, fc, fl, hB, hG, hD, hR, hP⟩ := hR0
  obtain ⟨len, cd, mo, ma, e1, e2, e3, e4, e5, e6, e7, e8, e9, e10⟩ := id hP
  subst e1
  subst e4
  obtain ⟨n, rule, mv, ps, pr, c0, c1, hGR⟩ := id e10
  obtain ⟨g14a, g14b, g14c, g14d⟩ := id (hG 14 (by omega))
  have g14a : σ (ad 60) = some (cl0 (ad 61) (ad 62) (gr 14) (G 14).1) := g14a
  have g14b : σ (ad 61) = some (eJ K 121 (G 14).2.1) := g14b
  have g14c : σ (ad 62) = some (eJ K 121 (G 14).2.2.1) := g14c
  obtain ⟨g15a, g15b, g15c, g15d⟩ := id (hG 15 (by omega))
  have g15a : σ (ad 63) = some (cl0 (ad 64) (ad 65) (gr 15) (G 15).1) := g15a
  have g15b : σ (ad 64) = some (eJ K 121 (G 15).2.1) := g15b
  have g15c : σ (ad 65) = some (eJ K 121 (G 15).2.2.1) := g15c
  obtain ⟨g16a, g16b, g16c, g16d⟩ := id (hG 16 (by omega))
  have g16a : σ (ad 66) = some (cl0 (ad 67) (ad 68) (gr 16) (G 16).1) := g16a
  have g16b : σ (ad 67) = some (eJ K 121 (G 16).2.1) := g16b
  have g16c : σ (ad 68) = some (eJ K 121 (G 16).2.2.1) := g16c
  obtain ⟨g17a, g17b, g17c, g17d⟩ := id (hG 17 (by omega))
  have g17a : σ (ad 69) = some (cl0 (ad 70) (ad 71) (gr 17) (G 17).1) := g17a
  have g17b : σ (ad 70) = some (eJ K 121 (G 17).2.1) := g17b
  have g17c : σ (ad 71) = some (eJ K 121 (G 17).2.2.1) := g17c
  obtain ⟨r, y', tr', hr, hs, hsame⟩ := errorPosition_act e3 e2 ft
  have hv9 : r = r := rfl
  refine lv_aload_n hx hb dL_law_221 rfl (lv_at hl 1 rfl) ?_
  refine mw_ci (mw_runV (As := []) (rest := []) (ci := 5) (C := RX7) (T := TX7) (N := 6) hC hM hS hB.1 rfl (c_X7_errorPosition (hc_t := hB.1) (hc_t_text := hB.2.1) (hc_t_text_characters := hB.2.2.1) (h := hr)) gL_law_X7_errorPosition rfl rfl rfl rfl q_X7_errorPosition ⟨Nat.le_of_ble_eq_true rfl, Nat.le_of_ble_eq_true rfl⟩ rfl rfl (Nat.le_of_ble_eq_true rfl) hl.1 dL_law_222 ⟨Nat.le_of_succ_le hcc, Nat.le_trans (Nat.le_add_right _ _) hss⟩) ?_
  obtain ⟨σ1, hσ1⟩ : ∃ σ1, σ1 = σ := ⟨σ, rfl⟩
  have hM1 : MW s.heap.size D σ1 H := by rw [hσ1]; exact hM
  have hk1 : KE ad [] σ σ1 := by rw [hσ1]; exact KE.refl _ _ _
  have hB1 : BW K ad (nI len) ch (nI mo, nI ma) rg S0 S1 o σ1 := ⟨hk1.at hin (by omega) (by intro t ht; first | exact absurd ht List.not_mem_nil | (simp only [List.mem_cons, List.not_mem_nil, or_false] at ht; omega)) hB.1, hk1.at hin (by omega) (by intro t ht; first | exact absurd ht List.not_mem_nil | (simp only [List.mem_cons, List.not_mem_nil, or_false] at ht; omega)) hB.2.1, hk1.at hin (by omega) (by intro t ht; first | exact absurd ht List.not_mem_nil | (simp only [List.mem_cons, List.not_mem_nil, or_false] at ht; omega)) hB.2.2.1, hk1.at hin (by omega) (by intro t ht; first | exact absurd ht List.not_mem_nil | (simp only [List.mem_cons, List.not_mem_nil, or_false] at ht; omega)) hB.2.2.2.1, hk1.at hin (by omega) (by intro t ht; first | exact absurd ht List.not_mem_nil | (simp only [List.mem_cons, List.not_mem_nil, or_false] at ht; omega)) hB.2.2.2.2.1, hk1.at hin (by omega) (by intro t ht; first | exact absurd ht List.not_mem_nil | (simp only [List.mem_cons, List.not_mem_nil, or_false] at ht; omega)) hB.2.2.2.2.2.1, hk1.at hin (by omega) (by intro t ht; first | exact absurd ht List.not_mem_nil | (simp only [List.mem_cons, List.not_mem_nil, or_false] at ht; omega)) hB.2.2.2.2.2.2.1, hk1.at hin (by omega) (by intro t ht; first | exact absurd ht List.not_mem_nil | (simp only [List.mem_cons, List.not_mem_nil, or_false] at ht; omega)) hB.2.2.2.2.2.2.2⟩
  have hG1 := GA_keep hk1 hin hD (by intro t ht; first | exact absurd ht List.not_mem_nil | (simp only [List.mem_cons, List.not_mem_nil, or_false] at ht; omega)) hG
  have hD1 := hD
  have hR1 := RW_keep hk1 hin (by intro t ht; first | exact absurd ht List.not_mem_nil | (simp only [List.mem_cons, List.not_mem_nil, or_false] at ht; omega)) hR
  refine lv_aload_n hx hb dL_law_225 rfl (lv_at hl 2 rfl) ?_
  refine mw_wi (mw_runV (As := []) (rest := [.int r]) (ci := 6) (C := RX8) (T := TX8) (N := 19) hC hM1 hS hR1.1 rfl (c_X8_errorPosition (hc_t := hR1.1) (hc_t_text := hR1.2.1) (hc_t_trial := hR1.2.2.2.1) (n_t_t_text := inj_ne hin (by omega) (by omega) (by omega)) (n_t_t_trial := inj_ne hin (by omega) (by omega) (by omega)) (n_t_text_t_trial := inj_ne hin (by omega) (by omega) (by omega)) (h := hs)) gL_law_X8_errorPosition rfl rfl rfl rfl q_X8_errorPosition ⟨Nat.le_of_ble_eq_true rfl, Nat.le_of_ble_eq_true rfl⟩ rfl rfl (Nat.le_of_ble_eq_true rfl) hl.1 dL_law_226 ⟨Nat.le_of_succ_le hcc, Nat.le_trans (Nat.le_add_right _ _) hss⟩) hS (fun r8 H locs σ2 hp hM2 hS => ?_)
  obtain ⟨hr8, hm0, hm1, ho2⟩ := hp
  replace hr8 : r = r8 := hr8.symm
  subst hr8
  have hk2 : KE ad [8, 11] σ1 σ2 := fun q f hq hn => ho2 q f hq (hn _ (List.Mem.head _)) (hn _ (List.Mem.tail _ (List.Mem.head _)))
  have hR2 : RW K ad y' tx fn tr' fd fk fik fo fc fl σ2 := ⟨hm0, hk2.at hin (by omega) (by intro t ht; first | exact absurd ht List.not_mem_nil | (simp only [List.mem_cons, List.not_mem_nil, or_false] at ht; omega)) hR1.2.1, hk2.at hin (by omega) (by intro t ht; first | exact absurd ht List.not_mem_nil | (simp only [List.mem_cons, List.not_mem_nil, or_false] at ht; omega)) hR1.2.2.1, hm1, hk2.at hin (by omega) (by intro t ht; first | exact absurd ht List.not_mem_nil | (simp only [List.mem_cons, List.not_mem_nil, or_false] at ht; omega)) hR1.2.2.2.2.1, hk2.at hin (by omega) (by intro t ht; first | exact absurd ht List.not_mem_nil | (simp only [List.mem_cons, List.not_mem_nil, or_false] at ht; omega)) hR1.2.2.2.2.2.1, hk2.at hin (by omega) (by intro t ht; first | exact absurd ht List.not_mem_nil | (simp only [List.mem_cons, List.not_mem_nil, or_false] at ht; omega)) hR1.2.2.2.2.2.2.1, hk2.at hin (by omega) (by intro t ht; first | exact absurd ht List.not_mem_nil | (simp only [List.mem_cons, List.not_mem_nil, or_false] at ht; omega)) hR1.2.2.2.2.2.2.2.1, hk2.at hin (by omega) (by intro t ht; first | exact absurd ht List.not_mem_nil | (simp only [List.mem_cons, List.not_mem_nil, or_false] at ht; omega)) hR1.2.2.2.2.2.2.2.2.1, hk2.at hin (by omega) (by intro t ht; first | exact absurd ht List.not_mem_nil | (simp only [List.mem_cons, List.not_mem_nil, or_false] at ht; omega)) hR1.2.2.2.2.2.2.2.2.2⟩
  have hB2 := BW_keep hk2 hin (by intro t ht; first | exact absurd ht List.not_mem_nil | (simp only [List.mem_cons, List.not_mem_nil, or_false] at ht; omega)) hB1
  have hG2 := GA_keep hk2 hin hD1 (by intro t ht; first | exact absurd ht List.not_mem_nil | (simp only [List.mem_cons, List.not_mem_nil, or_false] at ht; omega)) hG1
  have hP2 := PR_y hP hsame
  have hREL : REL K ad σ2 := ⟨_, _, _, _, _, _, _, _, _, _, _, _, _, _, _, _, _, _, _, hB2, hG2, hD1, hR2, hP2⟩
  refine W.widen (k := cells + 1) (n := slots + 6) (Nat.le_add_right _ _) (Nat.le_add_right _ _) ?_
  exact lv_icmp_eq (tgt := 1447) hx hb dL_law_229 (by decide) (fun _ => kk H locs σ2 ls hM2 hS hREL (lv_sub hl [0, 1, 2, 3, 4] rfl)) (fun c9 => absurd hv9 c9)
set_option maxHeartbeats 4000000 in
set_option maxRecDepth 100000 in
theorem lwc_16 {p : Program} {l : Launch} {e : Env} {s : State} {m : MethodId} {below : List Frame} {meth : Method} {c : Code} {D : va_G} {K : Nat → ClassId} {H : Heap} {locs : List Loc} {cells slots b L i : Nat} {xs : Nat → Int32} {Q : State → Prop} {σ : mwm} {ad : Nat → Nat} {ls : Array Slot} (hC : CF p m c cL_law 8 s #[Value.ref b] wsL_law RL s.heap.size D K) (hX : SX s.heap.size s) (hlt : l.stackTraces = false) (hk162 : (Cond.constantLong RL 162 4294967295).before #[Value.ref b] s = true) (hxs : va_X b L xs s s.heap) (hbl : b < s.heap.size) (hin : inj72 ad) (hR0 : REL K ad σ) (hM : MW s.heap.size D σ H) (hS : va_S (zA s.heap.size) s.heap H locs) (hl : lv_has ls 8 [(0, .ref b), (1, .ref (ad 0)), (2, .ref (ad 8)), (3, .ref (ad 7)), (4, .int (nI i))]) (hi : i + 4 ≤ L) (hL : L ≤ 2048) (hcc : cells + 1 ≤ 601024) (hss : slots + 6 ≤ 7293034) (kk : ∀ (H1 : Heap) (locs1 : List Loc) (σ1 : mwm) (ls1 : Array Slot), MW s.heap.size D σ1 H1 → va_S (zA s.heap.size) s.heap H1 locs1 → REL K ad σ1 → lv_has ls1 8 [(0, .ref b), (1, .ref (ad 0)), (2, .ref (ad 8)), (3, .ref (ad 7)), (4, .int (nI i))] → W p l e room_1 s m #[Value.ref b] below meth c H1 locs1 (cells + 1) (slots + 6) Q (F0 m 1447 ls1 [])) : W p l e room_1 s m #[Value.ref b] below meth c H locs cells slots Q (F0 m 972 ls []) := by
  have hx := hC.1.1
  have hb := hC.1.2.1
  have hown := hC.1.2.2.2.1
  have hbA : ¬ zA s.heap.size b := Nat.not_le.mpr hbl
  have hi1 : vp_in (nI i + 1) L := by rw [show nI i + 1 = nI (i + 1) from nI_add i 1]; exact vp_in_nI (by omega) (by omega)
  have hi2 : vp_in (nI i + 2) L := by rw [show nI i + 2 = nI (i + 2) from nI_add i 2]; exact vp_in_nI (by omega) (by omega)
  have hi3 : vp_in (nI i + 3) L := by rw [show nI i + 3 = nI (i + 3) from nI_add i 3]; exact vp_in_nI (by omega) (by omega)
  obtain ⟨gr, G, wt, ch, mem, rg, S0, S1, o, y, tx, fn, ft, fd, fk, fik, fo, fc, fl, hB, hG, hD, hR, hP⟩ := hR0
  obtain ⟨len, cd, mo, ma, e1, e2, e3, e4, e5, e6, e7, e8, e9, e10⟩ := id hP
  subst e1
  subst e4
  obtain ⟨n, rule, mv, ps, pr, c0, c1, hGR⟩ := id e10
  obtain ⟨g14a, g14b, g14c, g14d⟩ := id (hG 14 (by omega))
  have g14a : σ (ad 60) = some (cl0 (ad 61) (ad 62) (gr 14) (G 14).1) := g14a
  have g14b : σ (ad 61) = some (eJ K 121 (G 14).2.1) := g14b
  have g14c : σ (ad 62) = some (eJ K 121 (G 14).2.2.1) := g14c
  obtain ⟨g15a, g15b, g15c, g15d⟩ := id (hG 15 (by omega))
  have g15a : σ (ad 63) = some (cl0 (ad 64) (ad 65) (gr 15) (G 15).1) := g15a
  have g15b : σ (ad 64) = some (eJ K 121 (G 15).2.1) := g15b
  have g15c : σ (ad 65) = some (eJ K 121 (G 15).2.2.1) := g15c
  obtain ⟨g16a, g16b, g16c, g16d⟩ := id (hG 16 (by omega))
  have g16a : σ (ad 66) = some (cl0 (ad 67) (ad 68) (gr 16) (G 16).1) := g16a
  have g16b : σ (ad 67) = some (eJ K 121 (G 16).2.1) := g16b
  have g16c : σ (ad 68) = some (eJ K 121 (G 16).2.2.1) := g16c
  obtain ⟨g17a, g17b, g17c, g17d⟩ := id (hG 17 (by omega))
  have g17a : σ (ad 69) = some (cl0 (ad 70) (ad 71) (gr 17) (G 17).1) := g17a
  have g17b : σ (ad 70) = some (eJ K 121 (G 17).2.1) := g17b
  have g17c : σ (ad 71) = some (eJ K 121 (G 17).2.2.1) := g17c
  obtain ⟨y', hk9, hr, hs⟩ := best_GR hGR y
  have hsame : sameM y y' := hk9.2
  generalize (bst n rule mv (G 14).2.1 (G 14).2.2.1 (n * n)).1 = r at hr hs
  have hv9 : r = r := rfl
  refine lv_aload_n hx hb dL_law_972 rfl (lv_at hl 1 rfl) ?_
  refine mw_ci (mw_runV (As := []) (rest := []) (ci := 5) (C := RX7) (T := TX7) (N := 6) hC hM hS hB.1 rfl (c_X7_bestTake (hc_t := hB.1) (hc_t_now := g14a) (hc_t_now_before0 := g14b) (hc_t_now_before1 := g14c) (hc_t_now_grid := g14d) (h := hr)) gL_law_X7_bestTake rfl rfl rfl rfl q_X7_bestTake ⟨Nat.le_of_ble_eq_true rfl, Nat.le_of_ble_eq_true rfl⟩ rfl rfl (Nat.le_of_ble_eq_true rfl) hl.1 dL_law_973 ⟨Nat.le_of_succ_le hcc, Nat.le_trans (Nat.le_add_right _ _) hss⟩) ?_
  obtain ⟨σ1, hσ1⟩ : ∃ σ1, σ1 = σ := ⟨σ, rfl⟩
  have hM1 : MW s.heap.size D σ1 H := by rw [hσ1]; exact hM
  have hk1 : KE ad [] σ σ1 := by rw [hσ1]; exact KE.refl _ _ _
  have hB1 : BW K ad (nI len) ch (nI mo, nI ma) rg S0 S1 o σ1 := ⟨hk1.at hin (by omega) (by intro t ht; first | exact absurd ht List.not_mem_nil | (simp only [List.mem_cons, List.not_mem_nil, or_false] at ht; omega)) hB.1, hk1.at hin (by omega) (by intro t ht; first | exact absurd ht List.not_mem_nil | (simp only [List.mem_cons, List.not_mem_nil, or_false] at ht; omega)) hB.2.1, hk1.at hin (by omega) (by intro t ht; first | exact absurd ht List.not_mem_nil | (simp only [List.mem_cons, List.not_mem_nil, or_false] at ht; omega)) hB.2.2.1, hk1.at hin (by omega) (by intro t ht; first | exact absurd ht List.not_mem_nil | (simp only [List.mem_cons, List.not_mem_nil, or_false] at ht; omega)) hB.2.2.2.1, hk1.at hin (by omega) (by intro t ht; first | exact absurd ht List.not_mem_nil | (simp only [List.mem_cons, List.not_mem_nil, or_false] at ht; omega)) hB.2.2.2.2.1, hk1.at hin (by omega) (by intro t ht; first | exact absurd ht List.not_mem_nil | (simp only [List.mem_cons, List.not_mem_nil, or_false] at ht; omega)) hB.2.2.2.2.2.1, hk1.at hin (by omega) (by intro t ht; first | exact absurd ht List.not_mem_nil | (simp only [List.mem_cons, List.not_mem_nil, or_false] at ht; omega)) hB.2.2.2.2.2.2.1, hk1.at hin (by omega) (by intro t ht; first | exact absurd ht List.not_mem_nil | (simp only [List.mem_cons, List.not_mem_nil, or_false] at ht; omega)) hB.2.2.2.2.2.2.2⟩
  have hG1 := GA_keep hk1 hin hD (by intro t ht; first | exact absurd ht List.not_mem_nil | (simp only [List.mem_cons, List.not_mem_nil, or_false] at ht; omega)) hG
  have hD1 := hD
  have hR1 := RW_keep hk1 hin (by intro t ht; first | exact absurd ht List.not_mem_nil | (simp only [List.mem_cons, List.not_mem_nil, or_false] at ht; omega)) hR
  refine lv_aload_n hx hb dL_law_976 rfl (lv_at hl 2 rfl) ?_
  refine mw_wi (mw_runV (As := []) (rest := [.int r]) (ci := 6) (C := RX8) (T := TX8) (N := 19) hC hM1 hS hR1.1 rfl (c_X8_bestTake (hc_t := hR1.1) (hc_t_now := hR1.2.2.1) (n_t_t_now := inj_ne hin (by omega) (by omega) (by omega)) (h := hs)) gL_law_X8_bestTake rfl rfl rfl rfl q_X8_bestTake ⟨Nat.le_of_ble_eq_true rfl, Nat.le_of_ble_eq_true rfl⟩ rfl rfl (Nat.le_of_ble_eq_true rfl) hl.1 dL_law_977 ⟨Nat.le_of_succ_le hcc, Nat.le_trans (Nat.le_add_right _ _) hss⟩) hS (fun r8 H locs σ2 hp hM2 hS => ?_)
  obtain ⟨hr8, hm0, ho2⟩ := hp
  replace hr8 : r = r8 := hr8.symm
  subst hr8
  have hk2 : KE ad [8] σ1 σ2 := fun q f hq hn => ho2 q f hq (hn _ (List.Mem.head _))
  have hR2 : RW K ad y' tx fn ft fd fk fik fo fc fl σ2 := ⟨hm0, hk2.at hin (by omega) (by intro t ht; first | exact absurd ht List.not_mem_nil | (simp only [List.mem_cons, List.not_mem_nil, or_false] at ht; omega)) hR1.2.1, hk2.at hin (by omega) (by intro t ht; first | exact absurd ht List.not_mem_nil | (simp only [List.mem_cons, List.not_mem_nil, or_false] at ht; omega)) hR1.2.2.1, hk2.at hin (by omega) (by intro t ht; first | exact absurd ht List.not_mem_nil | (simp only [List.mem_cons, List.not_mem_nil, or_false] at ht; omega)) hR1.2.2.2.1, hk2.at hin (by omega) (by intro t ht; first | exact absurd ht List.not_mem_nil | (simp only [List.mem_cons, List.not_mem_nil, or_false] at ht; omega)) hR1.2.2.2.2.1, hk2.at hin (by omega) (by intro t ht; first | exact absurd ht List.not_mem_nil | (simp only [List.mem_cons, List.not_mem_nil, or_false] at ht; omega)) hR1.2.2.2.2.2.1, hk2.at hin (by omega) (by intro t ht; first | exact absurd ht List.not_mem_nil | (simp only [List.mem_cons, List.not_mem_nil, or_false] at ht; omega)) hR1.2.2.2.2.2.2.1, hk2.at hin (by omega) (by intro t ht; first | exact absurd ht List.not_mem_nil | (simp only [List.mem_cons, List.not_mem_nil, or_false] at ht; omega)) hR1.2.2.2.2.2.2.2.1, hk2.at hin (by omega) (by intro t ht; first | exact absurd ht List.not_mem_nil | (simp only [List.mem_cons, List.not_mem_nil, or_false] at ht; omega)) hR1.2.2.2.2.2.2.2.2.1, hk2.at hin (by omega) (by intro t ht; first | exact absurd ht List.not_mem_nil | (simp only [List.mem_cons, List.not_mem_nil, or_false] at ht; omega)) hR1.2.2.2.2.2.2.2.2.2⟩
  have hB2 := BW_keep hk2 hin (by intro t ht; first | exact absurd ht List.not_mem_nil | (simp only [List.mem_cons, List.not_mem_nil, or_false] at ht; omega)) hB1
  have hG2 := GA_keep hk2 hin hD1 (by intro t ht; first | exact absurd ht List.not_mem_nil | (simp only [List.mem_cons, List.not_mem_nil, or_false] at ht; omega)) hG1
  have hP2 := PR_y hP hsame
  have hREL : REL K ad σ2 := ⟨_, _, _, _, _, _, _, _, _, _, _, _, _, _, _, _, _, _, _, hB2, hG2, hD1, hR2, hP2⟩
  refine W.widen (k := cells + 1) (n := slots + 6) (Nat.le_add_right _ _) (Nat.le_add_right _ _) ?_
  exact lv_icmp_eq (tgt := 1447) hx hb dL_law_980 (by decide) (fun _ => kk H locs σ2 ls hM2 hS hREL (lv_sub hl [0, 1, 2, 3, 4] rfl)) (fun c9 => absurd hv9 c9)
set_option maxHeartbeats 4000000 in
set_option maxRecDepth 100000 in
theorem lwc_17 {p : Program} {l : Launch} {e : Env} {s : State} {m : MethodId} {below : List Frame} {meth : Method} {c : Code} {D : va_G} {K : Nat → ClassId} {H : Heap} {locs : List Loc} {cells slots b L i : Nat} {xs : Nat → Int32} {Q : State → Prop} {σ : mwm} {ad : Nat → Nat} {ls : Array Slot} (hC : CF p m c cL_law 8 s #[Value.ref b] wsL_law RL s.heap.size D K) (hX : SX s.heap.size s) (hlt : l.stackTraces = false) (hk162 : (Cond.constantLong RL 162 4294967295).before #[Value.ref b] s = true) (hxs : va_X b L xs s s.heap) (hbl : b < s.heap.size) (hin : inj72 ad) (hR0 : REL K ad σ) (hM : MW s.heap.size D σ H) (hS : va_S (zA s.heap.size) s.heap H locs) (hl : lv_has ls 8 [(0, .ref b), (1, .ref (ad 0)), (2, .ref (ad 8)), (3, .ref (ad 7)), (4, .int (nI i))]) (hi : i + 4 ≤ L) (hL : L ≤ 2048) (hcc : cells + 1 ≤ 601024) (hss : slots + 6 ≤ 7293034) (kk : ∀ (H1 : Heap) (locs1 : List Loc) (σ1 : mwm) (ls1 : Array Slot), MW s.heap.size D σ1 H1 → va_S (zA s.heap.size) s.heap H1 locs1 → REL K ad σ1 → lv_has ls1 8 [(0, .ref b), (1, .ref (ad 0)), (2, .ref (ad 8)), (3, .ref (ad 7)), (4, .int (nI i))] → W p l e room_1 s m #[Value.ref b] below meth c H1 locs1 (cells + 1) (slots + 6) Q (F0 m 1447 ls1 [])) : W p l e room_1 s m #[Value.ref b] below meth c H locs cells slots Q (F0 m 985 ls []) := by
  have hx := hC.1.1
  have hb := hC.1.2.1
  have hown := hC.1.2.2.2.1
  have hbA : ¬ zA s.heap.size b := Nat.not_le.mpr hbl
  have hi1 : vp_in (nI i + 1) L := by rw [show nI i + 1 = nI (i + 1) from nI_add i 1]; exact vp_in_nI (by omega) (by omega)
  have hi2 : vp_in (nI i + 2) L := by rw [show nI i + 2 = nI (i + 2) from nI_add i 2]; exact vp_in_nI (by omega) (by omega)
  have hi3 : vp_in (nI i + 3) L := by rw [show nI i + 3 = nI (i + 3) from nI_add i 3]; exact vp_in_nI (by omega) (by omega)
  obtain ⟨gr, G, wt, ch, mem, rg, S0, S1, o, y, tx, fn, ft, fd, fk, fik, fo, fc, fl, hB, hG, hD, hR, hP⟩ := hR0
  obtain ⟨len, cd, mo, ma, e1, e2, e3, e4, e5, e6, e7, e8, e9, e10⟩ := id hP
  subst e1
  subst e4
  obtain ⟨n, rule, mv, ps, pr, c0, c1, hGR⟩ := id e10
  obtain ⟨g14a, g14b, g14c, g14d⟩ := id (hG 14 (by omega))
  have g14a : σ (ad 60) = some (cl0 (ad 61) (ad 62) (gr 14) (G 14).1) := g14a
  have g14b : σ (ad 61) = some (eJ K 121 (G 14).2.1) := g14b
  have g14c : σ (ad 62) = some (eJ K 121 (G 14).2.2.1) := g14c
  obtain ⟨g15a, g15b, g15c, g15d⟩ := id (hG 15 (by omega))
  have g15a : σ (ad 63) = some (cl0 (ad 64) (ad 65) (gr 15) (G 15).1) := g15a
  have g15b : σ (ad 64) = some (eJ K 121 (G 15).2.1) := g15b
  have g15c : σ (ad 65) = some (eJ K 121 (G 15).2.2.1) := g15c
  obtain ⟨g16a, g16b, g16c, g16d⟩ := id (hG 16 (by omega))
  have g16a : σ (ad 66) = some (cl0 (ad 67) (ad 68) (gr 16) (G 16).1) := g16a
  have g16b : σ (ad 67) = some (eJ K 121 (G 16).2.1) := g16b
  have g16c : σ (ad 68) = some (eJ K 121 (G 16).2.2.1) := g16c
  obtain ⟨g17a, g17b, g17c, g17d⟩ := id (hG 17 (by omega))
  have g17a : σ (ad 69) = some (cl0 (ad 70) (ad 71) (gr 17) (G 17).1) := g17a
  have g17b : σ (ad 70) = some (eJ K 121 (G 17).2.1) := g17b
  have g17c : σ (ad 71) = some (eJ K 121 (G 17).2.2.1) := g17c
  obtain ⟨y', hk9, hr, hs⟩ := choices_GR hGR y
  have hsame : sameM y y' := hk9.2
  generalize nI (chN n rule mv (G 14).2.1 (G 14).2.2.1 (n * n)) = r at hr hs
  have hv9 : r = r := rfl
  refine lv_aload_n hx hb dL_law_985 rfl (lv_at hl 1 rfl) ?_
  refine mw_ci (mw_runV (As := []) (rest := []) (ci := 5) (C := RX7) (T := TX7) (N := 6) hC hM hS hB.1 rfl (c_X7_choices (hc_t := hB.1) (hc_t_now := g14a) (hc_t_now_before0 := g14b) (hc_t_now_before1 := g14c) (hc_t_now_grid := g14d) (h := hr)) gL_law_X7_choices rfl rfl rfl rfl q_X7_choices ⟨Nat.le_of_ble_eq_true rfl, Nat.le_of_ble_eq_true rfl⟩ rfl rfl (Nat.le_of_ble_eq_true rfl) hl.1 dL_law_986 ⟨Nat.le_of_succ_le hcc, Nat.le_trans (Nat.le_add_right _ _) hss⟩) ?_
  obtain ⟨σ1, hσ1⟩ : ∃ σ1, σ1 = σ := ⟨σ, rfl⟩
  have hM1 : MW s.heap.size D σ1 H := by rw [hσ1]; exact hM
  have hk1 : KE ad [] σ σ1 := by rw [hσ1]; exact KE.refl _ _ _
  have hB1 : BW K ad (nI len) ch (nI mo, nI ma) rg S0 S1 o σ1 := ⟨hk1.at hin (by omega) (by intro t ht; first | exact absurd ht List.not_mem_nil | (simp only [List.mem_cons, List.not_mem_nil, or_false] at ht; omega)) hB.1, hk1.at hin (by omega) (by intro t ht; first | exact absurd ht List.not_mem_nil | (simp only [List.mem_cons, List.not_mem_nil, or_false] at ht; omega)) hB.2.1, hk1.at hin (by omega) (by intro t ht; first | exact absurd ht List.not_mem_nil | (simp only [List.mem_cons, List.not_mem_nil, or_false] at ht; omega)) hB.2.2.1, hk1.at hin (by omega) (by intro t ht; first | exact absurd ht List.not_mem_nil | (simp only [List.mem_cons, List.not_mem_nil, or_false] at ht; omega)) hB.2.2.2.1, hk1.at hin (by omega) (by intro t ht; first | exact absurd ht List.not_mem_nil | (simp only [List.mem_cons, List.not_mem_nil, or_false] at ht; omega)) hB.2.2.2.2.1, hk1.at hin (by omega) (by intro t ht; first | exact absurd ht List.not_mem_nil | (simp only [List.mem_cons, List.not_mem_nil, or_false] at ht; omega)) hB.2.2.2.2.2.1, hk1.at hin (by omega) (by intro t ht; first | exact absurd ht List.not_mem_nil | (simp only [List.mem_cons, List.not_mem_nil, or_false] at ht; omega)) hB.2.2.2.2.2.2.1, hk1.at hin (by omega) (by intro t ht; first | exact absurd ht List.not_mem_nil | (simp only [List.mem_cons, List.not_mem_nil, or_false] at ht; omega)) hB.2.2.2.2.2.2.2⟩
  have hG1 := GA_keep hk1 hin hD (by intro t ht; first | exact absurd ht List.not_mem_nil | (simp only [List.mem_cons, List.not_mem_nil, or_false] at ht; omega)) hG
  have hD1 := hD
  have hR1 := RW_keep hk1 hin (by intro t ht; first | exact absurd ht List.not_mem_nil | (simp only [List.mem_cons, List.not_mem_nil, or_false] at ht; omega)) hR
  refine lv_aload_n hx hb dL_law_989 rfl (lv_at hl 2 rfl) ?_
  refine mw_wi (mw_runV (As := []) (rest := [.int r]) (ci := 6) (C := RX8) (T := TX8) (N := 19) hC hM1 hS hR1.1 rfl (c_X8_choices (hc_t := hR1.1) (hc_t_now := hR1.2.2.1) (n_t_t_now := inj_ne hin (by omega) (by omega) (by omega)) (h := hs)) gL_law_X8_choices rfl rfl rfl rfl q_X8_choices ⟨Nat.le_of_ble_eq_true rfl, Nat.le_of_ble_eq_true rfl⟩ rfl rfl (Nat.le_of_ble_eq_true rfl) hl.1 dL_law_990 ⟨Nat.le_of_succ_le hcc, Nat.le_trans (Nat.le_add_right _ _) hss⟩) hS (fun r8 H locs σ2 hp hM2 hS => ?_)
  obtain ⟨hr8, hm0, ho2⟩ := hp
  replace hr8 : r = r8 := hr8.symm
  subst hr8
  have hk2 : KE ad [8] σ1 σ2 := fun q f hq hn => ho2 q f hq (hn _ (List.Mem.head _))
  have hR2 : RW K ad y' tx fn ft fd fk fik fo fc fl σ2 := ⟨hm0, hk2.at hin (by omega) (by intro t ht; first | exact absurd ht List.not_mem_nil | (simp only [List.mem_cons, List.not_mem_nil, or_false] at ht; omega)) hR1.2.1, hk2.at hin (by omega) (by intro t ht; first | exact absurd ht List.not_mem_nil | (simp only [List.mem_cons, List.not_mem_nil, or_false] at ht; omega)) hR1.2.2.1, hk2.at hin (by omega) (by intro t ht; first | exact absurd ht List.not_mem_nil | (simp only [List.mem_cons, List.not_mem_nil, or_false] at ht; omega)) hR1.2.2.2.1, hk2.at hin (by omega) (by intro t ht; first | exact absurd ht List.not_mem_nil | (simp only [List.mem_cons, List.not_mem_nil, or_false] at ht; omega)) hR1.2.2.2.2.1, hk2.at hin (by omega) (by intro t ht; first | exact absurd ht List.not_mem_nil | (simp only [List.mem_cons, List.not_mem_nil, or_false] at ht; omega)) hR1.2.2.2.2.2.1, hk2.at hin (by omega) (by intro t ht; first | exact absurd ht List.not_mem_nil | (simp only [List.mem_cons, List.not_mem_nil, or_false] at ht; omega)) hR1.2.2.2.2.2.2.1, hk2.at hin (by omega) (by intro t ht; first | exact absurd ht List.not_mem_nil | (simp only [List.mem_cons, List.not_mem_nil, or_false] at ht; omega)) hR1.2.2.2.2.2.2.2.1, hk2.at hin (by omega) (by intro t ht; first | exact absurd ht List.not_mem_nil | (simp only [List.mem_cons, List.not_mem_nil, or_false] at ht; omega)) hR1.2.2.2.2.2.2.2.2.1, hk2.at hin (by omega) (by intro t ht; first | exact absurd ht List.not_mem_nil | (simp only [List.mem_cons, List.not_mem_nil, or_false] at ht; omega)) hR1.2.2.2.2.2.2.2.2.2⟩
  have hB2 := BW_keep hk2 hin (by intro t ht; first | exact absurd ht List.not_mem_nil | (simp only [List.mem_cons, List.not_mem_nil, or_false] at ht; omega)) hB1
  have hG2 := GA_keep hk2 hin hD1 (by intro t ht; first | exact absurd ht List.not_mem_nil | (simp only [List.mem_cons, List.not_mem_nil, or_false] at ht; omega)) hG1
  have hP2 := PR_y hP hsame
  have hREL : REL K ad σ2 := ⟨_, _, _, _, _, _, _, _, _, _, _, _, _, _, _, _, _, _, _, hB2, hG2, hD1, hR2, hP2⟩
  refine W.widen (k := cells + 1) (n := slots + 6) (Nat.le_add_right _ _) (Nat.le_add_right _ _) ?_
  exact lv_icmp_eq (tgt := 1447) hx hb dL_law_993 (by decide) (fun _ => kk H locs σ2 ls hM2 hS hREL (lv_sub hl [0, 1, 2, 3, 4] rfl)) (fun c9 => absurd hv9 c9)
set_option maxHeartbeats 4000000 in
set_option maxRecDepth 100000 in
theorem lwc_20 {p : Program} {l : Launch} {e : Env} {s : State} {m : MethodId} {below : List Frame} {meth : Method} {c : Code} {D : va_G} {K : Nat → ClassId} {H : Heap} {locs : List Loc} {cells slots b L i : Nat} {xs : Nat → Int32} {Q : State → Prop} {σ : mwm} {ad : Nat → Nat} {ls : Array Slot} (hC : CF p m c cL_law 8 s #[Value.ref b] wsL_law RL s.heap.size D K) (hX : SX s.heap.size s) (hlt : l.stackTraces = false) (hk162 : (Cond.constantLong RL 162 4294967295).before #[Value.ref b] s = true) (hxs : va_X b L xs s s.heap) (hbl : b < s.heap.size) (hin : inj72 ad) (hR0 : REL K ad σ) (hM : MW s.heap.size D σ H) (hS : va_S (zA s.heap.size) s.heap H locs) (hl : lv_has ls 8 [(0, .ref b), (1, .ref (ad 0)), (2, .ref (ad 8)), (3, .ref (ad 7)), (4, .int (nI i))]) (hi : i + 4 ≤ L) (hL : L ≤ 2048) (hcc : cells + 1 ≤ 601024) (hss : slots + 6 ≤ 7293034) (kk : ∀ (H1 : Heap) (locs1 : List Loc) (σ1 : mwm) (ls1 : Array Slot), MW s.heap.size D σ1 H1 → va_S (zA s.heap.size) s.heap H1 locs1 → REL K ad σ1 → lv_has ls1 8 [(0, .ref b), (1, .ref (ad 0)), (2, .ref (ad 8)), (3, .ref (ad 7)), (4, .int (nI i))] → W p l e room_1 s m #[Value.ref b] below meth c H1 locs1 (cells + 1) (slots + 6) Q (F0 m 1447 ls1 [])) : W p l e room_1 s m #[Value.ref b] below meth c H locs cells slots Q (F0 m 1122 ls []) := by
  have hx := hC.1.1
  have hb := hC.1.2.1
  have hown := hC.1.2.2.2.1
  have hbA : ¬ zA s.heap.size b := Nat.not_le.mpr hbl
  have hi1 : vp_in (nI i + 1) L := by rw [show nI i + 1 = nI (i + 1) from nI_add i 1]; exact vp_in_nI (by omega) (by omega)
  have hi2 : vp_in (nI i + 2) L := by rw [show nI i + 2 = nI (i + 2) from nI_add i 2]; exact vp_in_nI (by omega) (by omega)
  have hi3 : vp_in (nI i + 3) L := by rw [show nI i + 3 = nI (i + 3) from nI_add i 3]; exact vp_in_nI (by omega) (by omega)
  obtain ⟨gr, G, wt, ch, mem, rg, S0, S1, o, y, tx, fn, ft, fd, fk, fik, fo, fc, fl, hB, hG, hD, hR, hP⟩ := hR0
  obtain ⟨len, cd, mo, ma, e1, e2, e3, e4, e5, e6, e7, e8, e9, e10⟩ := id hP
  subst e1
  subst e4
  obtain ⟨n, rule, mv, ps, pr, c0, c1, hGR⟩ := id e10
  obtain ⟨g14a, g14b, g14c, g14d⟩ := id (hG 14 (by omega))
  have g14a : σ (ad 60) = some (cl0 (ad 61) (ad 62) (gr 14) (G 14).1) := g14a
  have g14b : σ (ad 61) = some (eJ K 121 (G 14).2.1) := g14b
  have g14c : σ (ad 62) = some (eJ K 121 (G 14).2.2.1) := g14c
  obtain ⟨g15a, g15b, g15c, g15d⟩ := id (hG 15 (by omega))
  have g15a : σ (ad 63) = some (cl0 (ad 64) (ad 65) (gr 15) (G 15).1) := g15a
  have g15b : σ (ad 64) = some (eJ K 121 (G 15).2.1) := g15b
  have g15c : σ (ad 65) = some (eJ K 121 (G 15).2.2.1) := g15c
  obtain ⟨g16a, g16b, g16c, g16d⟩ := id (hG 16 (by omega))
  have g16a : σ (ad 66) = some (cl0 (ad 67) (ad 68) (gr 16) (G 16).1) := g16a
  have g16b : σ (ad 67) = some (eJ K 121 (G 16).2.1) := g16b
  have g16c : σ (ad 68) = some (eJ K 121 (G 16).2.2.1) := g16c
  obtain ⟨g17a, g17b, g17c, g17d⟩ := id (hG 17 (by omega))
  have g17a : σ (ad 69) = some (cl0 (ad 70) (ad 71) (gr 17) (G 17).1) := g17a
  have g17b : σ (ad 70) = some (eJ K 121 (G 17).2.1) := g17b
  have g17c : σ (ad 71) = some (eJ K 121 (G 17).2.2.1) := g17c
  obtain ⟨r, hs, q0, q1, q2⟩ := lead_eqs hGR y
  have hr : fX7_lead (G 14).1 (G 14).2.2.2 = some r := by
    unfold fX7_lead
    rw [q0, Option.bind_some, q1, Option.bind_some, q2]
  have hv9 : r = r := rfl
  refine lv_aload_n hx hb dL_law_1122 rfl (lv_at hl 1 rfl) ?_
  refine mw_ci (mw_runV (As := []) (rest := []) (ci := 5) (C := RX7) (T := TX7) (N := 6) hC hM hS hB.1 rfl (c_X7_lead (hc_t := hB.1) (hc_t_now := g14a) (hc_t_now_grid := g14d) (h := hr)) gL_law_X7_lead rfl rfl rfl rfl q_X7_lead ⟨Nat.le_of_ble_eq_true rfl, Nat.le_of_ble_eq_true rfl⟩ rfl rfl (Nat.le_of_ble_eq_true rfl) hl.1 dL_law_1123 ⟨Nat.le_of_succ_le hcc, Nat.le_trans (Nat.le_add_right _ _) hss⟩) ?_
  obtain ⟨σ1, hσ1⟩ : ∃ σ1, σ1 = σ := ⟨σ, rfl⟩
  have hM1 : MW s.heap.size D σ1 H := by rw [hσ1]; exact hM
  have hk1 : KE ad [] σ σ1 := by rw [hσ1]; exact KE.refl _ _ _
  have hB1 : BW K ad (nI len) ch (nI mo, nI ma) rg S0 S1 o σ1 := ⟨hk1.at hin (by omega) (by intro t ht; first | exact absurd ht List.not_mem_nil | (simp only [List.mem_cons, List.not_mem_nil, or_false] at ht; omega)) hB.1, hk1.at hin (by omega) (by intro t ht; first | exact absurd ht List.not_mem_nil | (simp only [List.mem_cons, List.not_mem_nil, or_false] at ht; omega)) hB.2.1, hk1.at hin (by omega) (by intro t ht; first | exact absurd ht List.not_mem_nil | (simp only [List.mem_cons, List.not_mem_nil, or_false] at ht; omega)) hB.2.2.1, hk1.at hin (by omega) (by intro t ht; first | exact absurd ht List.not_mem_nil | (simp only [List.mem_cons, List.not_mem_nil, or_false] at ht; omega)) hB.2.2.2.1, hk1.at hin (by omega) (by intro t ht; first | exact absurd ht List.not_mem_nil | (simp only [List.mem_cons, List.not_mem_nil, or_false] at ht; omega)) hB.2.2.2.2.1, hk1.at hin (by omega) (by intro t ht; first | exact absurd ht List.not_mem_nil | (simp only [List.mem_cons, List.not_mem_nil, or_false] at ht; omega)) hB.2.2.2.2.2.1, hk1.at hin (by omega) (by intro t ht; first | exact absurd ht List.not_mem_nil | (simp only [List.mem_cons, List.not_mem_nil, or_false] at ht; omega)) hB.2.2.2.2.2.2.1, hk1.at hin (by omega) (by intro t ht; first | exact absurd ht List.not_mem_nil | (simp only [List.mem_cons, List.not_mem_nil, or_false] at ht; omega)) hB.2.2.2.2.2.2.2⟩
  have hG1 := GA_keep hk1 hin hD (by intro t ht; first | exact absurd ht List.not_mem_nil | (simp only [List.mem_cons, List.not_mem_nil, or_false] at ht; omega)) hG
  have hD1 := hD
  have hR1 := RW_keep hk1 hin (by intro t ht; first | exact absurd ht List.not_mem_nil | (simp only [List.mem_cons, List.not_mem_nil, or_false] at ht; omega)) hR
  refine lv_aload_n hx hb dL_law_1126 rfl (lv_at hl 2 rfl) ?_
  refine mw_wi (mw_runV (As := []) (rest := [.int r]) (ci := 6) (C := RX8) (T := TX8) (N := 19) hC hM1 hS hR1.1 rfl (c_X8_lead (hc_t := hR1.1) (hc_t_now := hR1.2.2.1) (n_t_t_now := inj_ne hin (by omega) (by omega) (by omega)) (h := hs)) gL_law_X8_lead rfl rfl rfl rfl q_X8_lead ⟨Nat.le_of_ble_eq_true rfl, Nat.le_of_ble_eq_true rfl⟩ rfl rfl (Nat.le_of_ble_eq_true rfl) hl.1 dL_law_1127 ⟨Nat.le_of_succ_le hcc, Nat.le_trans (Nat.le_add_right _ _) hss⟩) hS (fun r8 H locs σ2 hp hM2 hS => ?_)
  obtain ⟨hr8, hm0, ho2⟩ := hp
  replace hr8 : r = r8 := hr8.symm
  subst hr8
  have hk2 : KE ad [8] σ1 σ2 := fun q f hq hn => ho2 q f hq (hn _ (List.Mem.head _))
  have hR2 : RW K ad ((setM y 0)) tx fn ft fd fk fik fo fc fl σ2 := ⟨hm0, hk2.at hin (by omega) (by intro t ht; first | exact absurd ht List.not_mem_nil | (simp only [List.mem_cons, List.not_mem_nil, or_false] at ht; omega)) hR1.2.1, hk2.at hin (by omega) (by intro t ht; first | exact absurd ht List.not_mem_nil | (simp only [List.mem_cons, List.not_mem_nil, or_false] at ht; omega)) hR1.2.2.1, hk2.at hin (by omega) (by intro t ht; first | exact absurd ht List.not_mem_nil | (simp only [List.mem_cons, List.not_mem_nil, or_false] at ht; omega)) hR1.2.2.2.1, hk2.at hin (by omega) (by intro t ht; first | exact absurd ht List.not_mem_nil | (simp only [List.mem_cons, List.not_mem_nil, or_false] at ht; omega)) hR1.2.2.2.2.1, hk2.at hin (by omega) (by intro t ht; first | exact absurd ht List.not_mem_nil | (simp only [List.mem_cons, List.not_mem_nil, or_false] at ht; omega)) hR1.2.2.2.2.2.1, hk2.at hin (by omega) (by intro t ht; first | exact absurd ht List.not_mem_nil | (simp only [List.mem_cons, List.not_mem_nil, or_false] at ht; omega)) hR1.2.2.2.2.2.2.1, hk2.at hin (by omega) (by intro t ht; first | exact absurd ht List.not_mem_nil | (simp only [List.mem_cons, List.not_mem_nil, or_false] at ht; omega)) hR1.2.2.2.2.2.2.2.1, hk2.at hin (by omega) (by intro t ht; first | exact absurd ht List.not_mem_nil | (simp only [List.mem_cons, List.not_mem_nil, or_false] at ht; omega)) hR1.2.2.2.2.2.2.2.2.1, hk2.at hin (by omega) (by intro t ht; first | exact absurd ht List.not_mem_nil | (simp only [List.mem_cons, List.not_mem_nil, or_false] at ht; omega)) hR1.2.2.2.2.2.2.2.2.2⟩
  have hB2 := BW_keep hk2 hin (by intro t ht; first | exact absurd ht List.not_mem_nil | (simp only [List.mem_cons, List.not_mem_nil, or_false] at ht; omega)) hB1
  have hG2 := GA_keep hk2 hin hD1 (by intro t ht; first | exact absurd ht List.not_mem_nil | (simp only [List.mem_cons, List.not_mem_nil, or_false] at ht; omega)) hG1
  have hP2 := PR_y hP (setM_same y 0)
  have hREL : REL K ad σ2 := ⟨_, _, _, _, _, _, _, _, _, _, _, _, _, _, _, _, _, _, _, hB2, hG2, hD1, hR2, hP2⟩
  refine W.widen (k := cells + 1) (n := slots + 6) (Nat.le_add_right _ _) (Nat.le_add_right _ _) ?_
  exact lv_icmp_eq (tgt := 1447) hx hb dL_law_1130 (by decide) (fun _ => kk H locs σ2 ls hM2 hS hREL (lv_sub hl [0, 1, 2, 3, 4] rfl)) (fun c9 => absurd hv9 c9)
set_option maxHeartbeats 4000000 in
set_option maxRecDepth 100000 in
theorem lwc_0 {p : Program} {l : Launch} {e : Env} {s : State} {m : MethodId} {below : List Frame} {meth : Method} {c : Code} {D : va_G} {K : Nat → ClassId} {H : Heap} {locs : List Loc} {cells slots b L i : Nat} {xs : Nat → Int32} {Q : State → Prop} {σ : mwm} {ad : Nat → Nat} {ls : Array Slot} (hC : CF p m c cL_law 8 s #[Value.ref b] wsL_law RL s.heap.size D K) (hX : SX s.heap.size s) (hlt : l.stackTraces = false) (hk162 : (Cond.constantLong RL 162 4294967295).before #[Value.ref b] s = true) (hxs : va_X b L xs s s.heap) (hbl : b < s.heap.size) (hin : inj72 ad) (hR0 : REL K ad σ) (hM : MW s.heap.size D σ H) (hS : va_S (zA s.heap.size) s.heap H locs) (hl : lv_has ls 8 [(0, .ref b), (1, .ref (ad 0)), (2, .ref (ad 8)), (3, .ref (ad 7)), (4, .int (nI i))]) (hi : i + 4 ≤ L) (hL : L ≤ 2048) (hcc : cells + 1 ≤ 601024) (hss : slots + 6 ≤ 7293034) (kk : ∀ (H1 : Heap) (locs1 : List Loc) (σ1 : mwm) (ls1 : Array Slot), MW s.heap.size D σ1 H1 → va_S (zA s.heap.size) s.heap H1 locs1 → REL K ad σ1 → lv_has ls1 8 [(0, .ref b), (1, .ref (ad 0)), (2, .ref (ad 8)), (3, .ref (ad 7)), (4, .int (nI i))] → W p l e room_1 s m #[Value.ref b] below meth c H1 locs1 (cells + 1) (slots + 6) Q (F0 m 1447 ls1 [])) : W p l e room_1 s m #[Value.ref b] below meth c H locs cells slots Q (F0 m 152 ls []) := by
  have hx := hC.1.1
  have hb := hC.1.2.1
  have hown := hC.1.2.2.2.1
  have hbA : ¬ zA s.heap.size b := Nat.not_le.mpr hbl
  have hi1 : vp_in (nI i + 1) L := by rw [show nI i + 1 = nI (i + 1) from nI_add i 1]; exact vp_in_nI (by omega) (by omega)
  have hi2 : vp_in (nI i + 2) L := by rw [show nI i + 2 = nI (i + 2) from nI_add i 2]; exact vp_in_nI (by omega) (by omega)
  have hi3 : vp_in (nI i + 3) L := by rw [show nI i + 3 = nI (i + 3) from nI_add i 3]; exact vp_in_nI (by omega) (by omega)
  obtain ⟨gr, G, wt, ch, mem, rg, S0, S1, o, y, tx, fn, ft, fd, fk, fik, fo, fc, fl, hB, hG, hD, hR, hP⟩ := hR0
  obtain ⟨len, cd, mo, ma, e1, e2, e3, e4, e5, e6, e7, e8, e9, e10⟩ := id hP
  subst e1
  subst e4
  obtain ⟨n, rule, mv, ps, pr, c0, c1, hGR⟩ := id e10
  obtain ⟨g14a, g14b, g14c, g14d⟩ := id (hG 14 (by omega))
  have g14a : σ (ad 60) = some (cl0 (ad 61) (ad 62) (gr 14) (G 14).1) := g14a
  have g14b : σ (ad 61) = some (eJ K 121 (G 14).2.1) := g14b
  have g14c : σ (ad 62) = some (eJ K 121 (G 14).2.2.1) := g14c
  obtain ⟨g15a, g15b, g15c, g15d⟩ := id (hG 15 (by omega))
  have g15a : σ (ad 63) = some (cl0 (ad 64) (ad 65) (gr 15) (G 15).1) := g15a
  have g15b : σ (ad 64) = some (eJ K 121 (G 15).2.1) := g15b
  have g15c : σ (ad 65) = some (eJ K 121 (G 15).2.2.1) := g15c
  obtain ⟨g16a, g16b, g16c, g16d⟩ := id (hG 16 (by omega))
  have g16a : σ (ad 66) = some (cl0 (ad 67) (ad 68) (gr 16) (G 16).1) := g16a
  have g16b : σ (ad 67) = some (eJ K 121 (G 16).2.1) := g16b
  have g16c : σ (ad 68) = some (eJ K 121 (G 16).2.2.1) := g16c
  obtain ⟨g17a, g17b, g17c, g17d⟩ := id (hG 17 (by omega))
  have g17a : σ (ad 69) = some (cl0 (ad 70) (ad 71) (gr 17) (G 17).1) := g17a
  have g17b : σ (ad 70) = some (eJ K 121 (G 17).2.1) := g17b
  have g17c : σ (ad 71) = some (eJ K 121 (G 17).2.2.1) := g17c
  obtain ⟨v, s9, hr, hs, hy9, hval, ha9, len2, cd2, hw1, hw2, ht2⟩ := append_act e3 (xs (nI i + 1).toNatClampNeg) o e2
  have hv9 : v.1 = 0 → v.2.1 (0 : Int32).toNatClampNeg = s9.1.toInt64 := fun z => hval z
  refine lv_aload_n hx hb dL_law_152 rfl (lv_at hl 1 rfl) ?_
  refine lv_aload_n hx hb dL_law_153 rfl (lv_at hl 0 rfl) ?_
  refine lv_iload hx hb dL_law_154 (lv_at hl 4 rfl) ?_
  refine lv_iconst (v := 1) hx hb dL_law_156 (by decide) ?_
  refine lv_iadd hx hb dL_law_157 ?_
  refine va_sld hx hb hxs hbl hbA hS hi1 dL_law_158 ?_
  refine lv_aload_n hx hb dL_law_159 rfl (lv_at hl 3 rfl) ?_
  refine mw_wi (mw_runSW (As := [.ref (ad 0), .int (xs (nI i + 1).toNatClampNeg), .ref (ad 7)]) (rest := []) hC hX hM hS (c_L_append (hc_p0 := hB.1) (hc_p2 := hB.2.2.2.2.2.2.2) (hc_p0_text := hB.2.1) (hc_p0_text_characters := hB.2.2.1) (n_p0_text_p0_text_characters := inj_ne hin (by omega) (by omega) (by omega)) (n_p0_text_p2 := inj_ne hin (by omega) (by omega) (by omega)) (n_p0_text_characters_p2 := inj_ne hin (by omega) (by omega) (by omega)) (hlt := hlt) (h := hr)) gL_law_L_append rfl rfl rfl q_L_append ⟨Nat.le_of_ble_eq_true rfl, Nat.le_of_ble_eq_true rfl⟩ rfl rfl (Nat.le_of_ble_eq_true rfl) hl.1 dL_law_160 ⟨hcc, hss⟩) hS (fun r9 H locs σ1 hp hM1 hS => ?_)
  obtain ⟨hr9, hq0, hq1, hq2, ho⟩ := hp
  replace hr9 : v.1 = r9 := hr9.symm
  subst hr9
  have hk1 : KE ad [7, 1, 2] σ σ1 := fun q f hq hn => ho q f hq (hn _ (List.Mem.head _)) (hn _ (List.Mem.tail _ (List.Mem.head _))) (hn _ (List.Mem.tail _ (List.Mem.tail _ (List.Mem.head _))))
  have hB1 : BW K ad v.2.2.1 v.2.2.2 (nI mo, nI ma) rg S0 S1 v.2.1 σ1 := ⟨hk1.at hin (by omega) (by intro t ht; first | exact absurd ht List.not_mem_nil | (simp only [List.mem_cons, List.not_mem_nil, or_false] at ht; omega)) hB.1, hq1, hq2, hk1.at hin (by omega) (by intro t ht; first | exact absurd ht List.not_mem_nil | (simp only [List.mem_cons, List.not_mem_nil, or_false] at ht; omega)) hB.2.2.2.1, hk1.at hin (by omega) (by intro t ht; first | exact absurd ht List.not_mem_nil | (simp only [List.mem_cons, List.not_mem_nil, or_false] at ht; omega)) hB.2.2.2.2.1, hk1.at hin (by omega) (by intro t ht; first | exact absurd ht List.not_mem_nil | (simp only [List.mem_cons, List.not_mem_nil, or_false] at ht; omega)) hB.2.2.2.2.2.1, hk1.at hin (by omega) (by intro t ht; first | exact absurd ht List.not_mem_nil | (simp only [List.mem_cons, List.not_mem_nil, or_false] at ht; omega)) hB.2.2.2.2.2.2.1, hq0⟩
  have hG1 := GA_keep hk1 hin hD (by intro t ht; first | exact absurd ht List.not_mem_nil | (simp only [List.mem_cons, List.not_mem_nil, or_false] at ht; omega)) hG
  have hD1 := hD
  have hR1 := RW_keep hk1 hin (by intro t ht; first | exact absurd ht List.not_mem_nil | (simp only [List.mem_cons, List.not_mem_nil, or_false] at ht; omega)) hR
  refine lv_istore (lv' := [(5, .int v.1), (0, .ref b), (1, .ref (ad 0)), (2, .ref (ad 8)), (3, .ref (ad 7)), (4, .int (nI i))]) hx hb dL_law_163 hl (by decide) rfl (fun ls hl => ?_)
  refine lv_aload_n hx hb dL_law_165 rfl (lv_at hl 3 rfl) ?_
  refine lv_aload_n hx hb dL_law_166 rfl (lv_at hl 1 rfl) ?_
  refine lv_iload hx hb dL_law_167 (lv_at hl 5 rfl) ?_
  refine lv_iconst (v := 1) hx hb dL_law_169 (by decide) ?_
  refine lv_iadd hx hb dL_law_170 ?_
  refine va_sld hx hb hxs hbl hbA hS hi1 dL_law_171 ?_
  refine mw_wi (mw_runV (As := [.int (xs (nI i + 1).toNatClampNeg)]) (rest := []) (ci := 6) (C := RX8) (T := TX8) (N := 19) hC hM1 hS hR1.1 rfl (c_X8_append (hc_t := hR1.1) (hc_t_text := hR1.2.1) (n_t_t_text := inj_ne hin (by omega) (by omega) (by omega)) (h := hs)) gL_law_X8_append rfl rfl rfl rfl q_X8_append ⟨Nat.le_of_ble_eq_true rfl, Nat.le_of_ble_eq_true rfl⟩ rfl rfl (Nat.le_of_ble_eq_true rfl) hl.1 dL_law_172 ⟨hcc, hss⟩) hS (fun r8 H locs σ2 hp hM2 hS => ?_)
  obtain ⟨hr8, hm0, hm1, ho2⟩ := hp
  replace hr8 : s9.1 = r8 := hr8.symm
  subst hr8
  have hk2 : KE ad [8, 9] σ1 σ2 := fun q f hq hn => ho2 q f hq (hn _ (List.Mem.head _)) (hn _ (List.Mem.tail _ (List.Mem.head _)))
  have hR2 : RW K ad s9.2.1 s9.2.2 fn ft fd fk fik fo fc fl σ2 := ⟨hm0, hm1, hk2.at hin (by omega) (by intro t ht; first | exact absurd ht List.not_mem_nil | (simp only [List.mem_cons, List.not_mem_nil, or_false] at ht; omega)) hR1.2.2.1, hk2.at hin (by omega) (by intro t ht; first | exact absurd ht List.not_mem_nil | (simp only [List.mem_cons, List.not_mem_nil, or_false] at ht; omega)) hR1.2.2.2.1, hk2.at hin (by omega) (by intro t ht; first | exact absurd ht List.not_mem_nil | (simp only [List.mem_cons, List.not_mem_nil, or_false] at ht; omega)) hR1.2.2.2.2.1, hk2.at hin (by omega) (by intro t ht; first | exact absurd ht List.not_mem_nil | (simp only [List.mem_cons, List.not_mem_nil, or_false] at ht; omega)) hR1.2.2.2.2.2.1, hk2.at hin (by omega) (by intro t ht; first | exact absurd ht List.not_mem_nil | (simp only [List.mem_cons, List.not_mem_nil, or_false] at ht; omega)) hR1.2.2.2.2.2.2.1, hk2.at hin (by omega) (by intro t ht; first | exact absurd ht List.not_mem_nil | (simp only [List.mem_cons, List.not_mem_nil, or_false] at ht; omega)) hR1.2.2.2.2.2.2.2.1, hk2.at hin (by omega) (by intro t ht; first | exact absurd ht List.not_mem_nil | (simp only [List.mem_cons, List.not_mem_nil, or_false] at ht; omega)) hR1.2.2.2.2.2.2.2.2.1, hk2.at hin (by omega) (by intro t ht; first | exact absurd ht List.not_mem_nil | (simp only [List.mem_cons, List.not_mem_nil, or_false] at ht; omega)) hR1.2.2.2.2.2.2.2.2.2⟩
  have hB2 := BW_keep hk2 hin (by intro t ht; first | exact absurd ht List.not_mem_nil | (simp only [List.mem_cons, List.not_mem_nil, or_false] at ht; omega)) hB1
  have hG2 := GA_keep hk2 hin hD1 (by intro t ht; first | exact absurd ht List.not_mem_nil | (simp only [List.mem_cons, List.not_mem_nil, or_false] at ht; omega)) hG1
  have hP2 : PR ad G v.2.2.1 v.2.2.2 (nI mo, nI ma) rg S0 S1 s9.2.1 s9.2.2 fn fd fk fik := ⟨len2, cd2, mo, ma, hw1, hw2, ht2, rfl, ha9.trans e5, e6, e7, e8, e9, e10⟩
  have hREL : REL K ad σ2 := ⟨_, _, _, _, _, _, _, _, _, _, _, _, _, _, _, _, _, _, _, hB2, hG2, hD1, hR2, hP2⟩
  refine lv_istore (lv' := [(6, .int s9.1), (5, .int v.1), (0, .ref b), (1, .ref (ad 0)), (2, .ref (ad 8)), (3, .ref (ad 7)), (4, .int (nI i))]) hx hb dL_law_175 hl (by decide) rfl (fun ls hl => ?_)
  refine lv_aload_n hx hb dL_law_177 rfl (lv_at hl 4 rfl) ?_
  refine mw_ci (v := s9.2.1.1) (mw_runV (As := []) (rest := []) (ci := 6) (C := RX8) (T := TX8) (N := 19) hC hM2 hS hR2.1 rfl (c_X8_thrown (hc_t := hR2.1) (h := rfl)) gL_law_X8_thrown rfl rfl rfl rfl q_X8_thrown ⟨Nat.le_of_ble_eq_true rfl, Nat.le_of_ble_eq_true rfl⟩ rfl rfl (Nat.le_of_ble_eq_true rfl) hl.1 dL_law_178 ⟨hcc, hss⟩) ?_
  refine lv_iload hx hb dL_law_181 (lv_at hl 1 rfl) ?_
  have fin : W p l e room_1 s m #[Value.ref b] below meth c H locs (cells + 1) (slots + 6) Q (F0 m 1447 ls []) := kk H locs σ2 ls hM2 hS hREL (lv_sub hl [2, 3, 4, 5, 6] rfl)
  refine lv_icmp_eq (tgt := 188) hx hb dL_law_183 (by decide) (fun c9 => ?_) (fun c9 => absurd hy9 c9)
  refine lv_iload hx hb dL_law_188 (lv_at hl 1 rfl) ?_
  refine lv_if_ne (tgt := 205) hx hb dL_law_190 (by decide) (fun c8 => ?_) (fun c8 => ?_)
  · exact lv_goto (tgt := 1447) hx hb dL_law_205 (by decide) fin
  · refine lv_aload_n hx hb dL_law_193 rfl (lv_at hl 5 rfl) ?_
    refine lv_iconst (v := 0) hx hb dL_law_194 (by decide) ?_
    refine mw_ldJ hC hM2 hB2.2.2.2.2.2.2.2 (i := 0) vp_in_01 dL_law_195 ?_
    refine lv_iload hx hb dL_law_196 (lv_at hl 0 rfl) ?_
    refine lv_i2l (v := (s9.1).toInt64) hx hb dL_law_198 rfl ?_
    refine W.lcmp hx hb dL_law_199 ?_
    exact lv_if_eq (tgt := 205) hx hb dL_law_200 (by decide) (fun _ => lv_goto (tgt := 1447) hx hb dL_law_205 (by decide) fin) (fun c9 => absurd ((lg_cmp_eq _ _).mpr (hv9 c8)) c9)
