theorem vp_in_01 : vp_in 0 1 := by
  unfold vp_in
  decide
def putN (f : Nat → Nat) (x a : Nat) : Nat → Nat := fun i => if i = x then a else f i
theorem putN_at (f : Nat → Nat) (x a : Nat) : putN f x a x = a := by unfold putN; rw [if_pos rfl]
theorem putN_ne {f : Nat → Nat} {x i a : Nat} (h : ¬ i = x) : putN f x a i = f i := by unfold putN; rw [if_neg h]
theorem GD_put {ad gr : Nat → Nat} {x a : Nat} (h : GD ad gr) (q : ∀ j, j < 72 → a ≠ ad j) : GD ad (putN gr x a) := by
  intro i j hi hj
  by_cases c : i = x
  · rw [c, putN_at]
    exact q j hj
  · rw [putN_ne c]
    exact h i j hi hj
theorem GW_mk {K : Nat → ClassId} {ad gr : Nat → Nat} {G : Nat → GG} {σ : mwm} {i g : Nat} {w : GSt} {f0 f1 : Nat → Int64} {r : RSt} (h0 : σ (ad (18 + 3 * i)) = some (cl0 (ad (19 + 3 * i)) (ad (20 + 3 * i)) g w)) (h1 : σ (ad (19 + 3 * i)) = some (eJ K 121 f0)) (h2 : σ (ad (20 + 3 * i)) = some (eJ K 121 f1)) (h3 : σ g = some (cl2 r)) (hg : gr i = g) (hG : G i = (w, f0, f1, r)) : GW K ad gr G σ i := by
  unfold GW
  rw [hg, hG]
  exact ⟨h0, h1, h2, h3⟩
theorem GW_same {K : Nat → ClassId} {ad gr gr' : Nat → Nat} {G G' : Nat → GG} {σ : mwm} {i : Nat} (hg : gr' i = gr i) (hG : G' i = G i) (h : GW K ad gr G σ i) : GW K ad gr' G' σ i := by
  unfold GW
  rw [hg, hG]
  exact h
set_option maxHeartbeats 4000000 in
set_option maxRecDepth 100000 in
theorem lwc_4 {p : Program} {l : Launch} {e : Env} {s : State} {m : MethodId} {below : List Frame} {meth : Method} {c : Code} {D : va_G} {K : Nat → ClassId} {H : Heap} {locs : List Loc} {cells slots b L i : Nat} {xs : Nat → Int32} {Q : State → Prop} {σ : mwm} {ad : Nat → Nat} {ls : Array Slot} (hC : CF p m c cL_law 8 s #[Value.ref b] wsL_law RL s.heap.size D K) (hX : SX s.heap.size s) (hlt : l.stackTraces = false) (hk162 : (Cond.constantLong RL 162 4294967295).before #[Value.ref b] s = true) (hxs : va_X b L xs s s.heap) (hbl : b < s.heap.size) (hin : inj72 ad) (hR0 : REL K ad σ) (hM : MW s.heap.size D σ H) (hS : va_S (zA s.heap.size) s.heap H locs) (hl : lv_has ls 8 [(0, .ref b), (1, .ref (ad 0)), (2, .ref (ad 8)), (3, .ref (ad 7)), (4, .int (nI i))]) (hi : i + 4 ≤ L) (hL : L ≤ 2048) (hcc : cells + 1 ≤ 601024) (hss : slots + 6 ≤ 7293034) (kk : ∀ (H1 : Heap) (locs1 : List Loc) (σ1 : mwm) (ls1 : Array Slot), MW s.heap.size D σ1 H1 → va_S (zA s.heap.size) s.heap H1 locs1 → REL K ad σ1 → lv_has ls1 8 [(0, .ref b), (1, .ref (ad 0)), (2, .ref (ad 8)), (3, .ref (ad 7)), (4, .int (nI i))] → W p l e room_1 s m #[Value.ref b] below meth c H1 locs1 (cells + 1) (slots + 6) Q (F0 m 1447 ls1 [])) : W p l e room_1 s m #[Value.ref b] below meth c H locs cells slots Q (F0 m 278 ls []) := by
  have hx := hC.1.1
  have hb := hC.1.2.1
  have hown := hC.1.2.2.2.1
  have hbA : ¬ zA s.heap.size b := Nat.not_le.mpr hbl
  have hi1 : vp_in (nI i + 1) L := by rw [show nI i + 1 = nI (i + 1) from nI_add i 1]; exact vp_in_nI (by omega) (by omega)
  have hi2 : vp_in (nI i + 2) L := by rw [show nI i + 2 = nI (i + 2) from nI_add i 2]; exact vp_in_nI (by omega) (by omega)
  have hi3 : vp_in (nI i + 3) L := by rw [show nI i + 3 = nI (i + 3) from nI_add i 3]; exact vp_in_nI (by omega) (by omega)
  obtain ⟨gr, G, wt, ch, mem, rg, S0, S1, o, y, tx, fn, ft, fd, fk, fik, fo, fc, fl, hB, hG, hD, hR, hP⟩ := hR0
  obtain ⟨len, cd, mo, ma, e1, e2, e3, e4, e5, e6, e7, e8, e9, e10⟩ := id hP
  subst e1
  subst e4
  obtain ⟨n, rule, mv, ps, pr, c0, c1, hGR⟩ := id e10
  obtain ⟨g14a, g14b, g14c, g14d⟩ := id (hG 14 (by omega))
  have g14a : σ (ad 60) = some (cl0 (ad 61) (ad 62) (gr 14) (G 14).1) := g14a
  have g14b : σ (ad 61) = some (eJ K 121 (G 14).2.1) := g14b
  have g14c : σ (ad 62) = some (eJ K 121 (G 14).2.2.1) := g14c
  obtain ⟨g15a, g15b, g15c, g15d⟩ := id (hG 15 (by omega))
  have g15a : σ (ad 63) = some (cl0 (ad 64) (ad 65) (gr 15) (G 15).1) := g15a
  have g15b : σ (ad 64) = some (eJ K 121 (G 15).2.1) := g15b
  have g15c : σ (ad 65) = some (eJ K 121 (G 15).2.2.1) := g15c
  obtain ⟨g16a, g16b, g16c, g16d⟩ := id (hG 16 (by omega))
  have g16a : σ (ad 66) = some (cl0 (ad 67) (ad 68) (gr 16) (G 16).1) := g16a
  have g16b : σ (ad 67) = some (eJ K 121 (G 16).2.1) := g16b
  have g16c : σ (ad 68) = some (eJ K 121 (G 16).2.2.1) := g16c
  obtain ⟨g17a, g17b, g17c, g17d⟩ := id (hG 17 (by omega))
  have g17a : σ (ad 69) = some (cl0 (ad 70) (ad 71) (gr 17) (G 17).1) := g17a
  have g17b : σ (ad 70) = some (eJ K 121 (G 17).2.1) := g17b
  have g17c : σ (ad 71) = some (eJ K 121 (G 17).2.2.1) := g17c
  obtain ⟨k, o', a, y', hr, hs, hy9, hval, hsame⟩ := about_agr hGR (xs (nI i + 1).toNatClampNeg) y o
  have hv9 : k = 0 → o' (0 : Int32).toNatClampNeg = a.toInt64 := fun z => hval z
  refine lv_aload_n hx hb dL_law_278 rfl (lv_at hl 1 rfl) ?_
  refine lv_aload_n hx hb dL_law_279 rfl (lv_at hl 0 rfl) ?_
  refine lv_iload hx hb dL_law_280 (lv_at hl 4 rfl) ?_
  refine lv_iconst (v := 1) hx hb dL_law_282 (by decide) ?_
  refine lv_iadd hx hb dL_law_283 ?_
  refine va_sld hx hb hxs hbl hbA hS hi1 dL_law_284 ?_
  refine lv_aload_n hx hb dL_law_285 rfl (lv_at hl 3 rfl) ?_
  refine mw_wi (mw_runSW (As := [.ref (ad 0), .int (xs (nI i + 1).toNatClampNeg), .ref (ad 7)]) (rest := []) hC hX hM hS (c_L_about (hc_p0 := hB.1) (hc_p2 := hB.2.2.2.2.2.2.2) (hc_p0_now := g14a) (hc_p0_now_grid := g14d) (hlt := hlt) (h := hr)) gL_law_L_about rfl rfl rfl q_L_about ⟨Nat.le_of_ble_eq_true rfl, Nat.le_of_ble_eq_true rfl⟩ rfl rfl (Nat.le_of_ble_eq_true rfl) hl.1 dL_law_286 ⟨hcc, hss⟩) hS (fun r9 H locs σ1 hp hM1 hS => ?_)
  obtain ⟨hr9, hq0, ho⟩ := hp
  replace hr9 : k = r9 := hr9.symm
  subst hr9
  have hk1 : KE ad [7] σ σ1 := fun q f hq hn => ho q f hq (hn _ (List.Mem.head _))
  have hB1 : BW K ad (nI len) ch (nI mo, nI ma) rg S0 S1 o' σ1 := ⟨hk1.at hin (by omega) (by intro t ht; simp only [List.mem_cons, List.not_mem_nil, or_false] at ht; omega) hB.1, hk1.at hin (by omega) (by intro t ht; simp only [List.mem_cons, List.not_mem_nil, or_false] at ht; omega) hB.2.1, hk1.at hin (by omega) (by intro t ht; simp only [List.mem_cons, List.not_mem_nil, or_false] at ht; omega) hB.2.2.1, hk1.at hin (by omega) (by intro t ht; simp only [List.mem_cons, List.not_mem_nil, or_false] at ht; omega) hB.2.2.2.1, hk1.at hin (by omega) (by intro t ht; simp only [List.mem_cons, List.not_mem_nil, or_false] at ht; omega) hB.2.2.2.2.1, hk1.at hin (by omega) (by intro t ht; simp only [List.mem_cons, List.not_mem_nil, or_false] at ht; omega) hB.2.2.2.2.2.1, hk1.at hin (by omega) (by intro t ht; simp only [List.mem_cons, List.not_mem_nil, or_false] at ht; omega) hB.2.2.2.2.2.2.1, hq0⟩
  have hG1 := GA_keep hk1 hin hD (by intro t ht; simp only [List.mem_cons, List.not_mem_nil, or_false] at ht; omega) hG
  have hD1 := hD
  have hR1 := RW_keep hk1 hin (by intro t ht; simp only [List.mem_cons, List.not_mem_nil, or_false] at ht; omega) hR
  refine lv_istore (lv' := [(5, .int k), (0, .ref b), (1, .ref (ad 0)), (2, .ref (ad 8)), (3, .ref (ad 7)), (4, .int (nI i))]) hx hb dL_law_289 hl (by decide) rfl (fun ls hl => ?_)
  refine lv_aload_n hx hb dL_law_291 rfl (lv_at hl 3 rfl) ?_
  refine lv_aload_n hx hb dL_law_292 rfl (lv_at hl 1 rfl) ?_
  refine lv_iload hx hb dL_law_293 (lv_at hl 5 rfl) ?_
  refine lv_iconst (v := 1) hx hb dL_law_295 (by decide) ?_
  refine lv_iadd hx hb dL_law_296 ?_
  refine va_sld hx hb hxs hbl hbA hS hi1 dL_law_297 ?_
  refine mw_wi (mw_runV (As := [.int (xs (nI i + 1).toNatClampNeg)]) (rest := []) (ci := 6) (C := RX8) (T := TX8) (N := 19) hC hM1 hS hR1.1 rfl (c_X8_about (hc_t := hR1.1) (hc_t_now := hR1.2.2.1) (n_t_t_now := inj_ne hin (by omega) (by omega) (by omega)) (h := hs)) gL_law_X8_about rfl rfl rfl rfl q_X8_about ⟨Nat.le_of_ble_eq_true rfl, Nat.le_of_ble_eq_true rfl⟩ rfl rfl (Nat.le_of_ble_eq_true rfl) hl.1 dL_law_298 ⟨hcc, hss⟩) hS (fun r8 H locs σ2 hp hM2 hS => ?_)
  obtain ⟨hr8, hm0, ho2⟩ := hp
  replace hr8 : a = r8 := hr8.symm
  subst hr8
  have hk2 : KE ad [8] σ1 σ2 := fun q f hq hn => ho2 q f hq (hn _ (List.Mem.head _))
  have hR2 : RW K ad y' tx fn ft fd fk fik fo fc fl σ2 := ⟨hm0, hk2.at hin (by omega) (by intro t ht; simp only [List.mem_cons, List.not_mem_nil, or_false] at ht; omega) hR1.2.1, hk2.at hin (by omega) (by intro t ht; simp only [List.mem_cons, List.not_mem_nil, or_false] at ht; omega) hR1.2.2.1, hk2.at hin (by omega) (by intro t ht; simp only [List.mem_cons, List.not_mem_nil, or_false] at ht; omega) hR1.2.2.2.1, hk2.at hin (by omega) (by intro t ht; simp only [List.mem_cons, List.not_mem_nil, or_false] at ht; omega) hR1.2.2.2.2.1, hk2.at hin (by omega) (by intro t ht; simp only [List.mem_cons, List.not_mem_nil, or_false] at ht; omega) hR1.2.2.2.2.2.1, hk2.at hin (by omega) (by intro t ht; simp only [List.mem_cons, List.not_mem_nil, or_false] at ht; omega) hR1.2.2.2.2.2.2.1, hk2.at hin (by omega) (by intro t ht; simp only [List.mem_cons, List.not_mem_nil, or_false] at ht; omega) hR1.2.2.2.2.2.2.2.1, hk2.at hin (by omega) (by intro t ht; simp only [List.mem_cons, List.not_mem_nil, or_false] at ht; omega) hR1.2.2.2.2.2.2.2.2.1, hk2.at hin (by omega) (by intro t ht; simp only [List.mem_cons, List.not_mem_nil, or_false] at ht; omega) hR1.2.2.2.2.2.2.2.2.2⟩
  have hB2 := BW_keep hk2 hin (by intro t ht; simp only [List.mem_cons, List.not_mem_nil, or_false] at ht; omega) hB1
  have hG2 := GA_keep hk2 hin hD1 (by intro t ht; simp only [List.mem_cons, List.not_mem_nil, or_false] at ht; omega) hG1
  have hP2 := PR_y hP hsame
  have hREL : REL K ad σ2 := ⟨_, _, _, _, _, _, _, _, _, _, _, _, _, _, _, _, _, _, _, hB2, hG2, hD1, hR2, hP2⟩
  refine lv_istore (lv' := [(6, .int a), (5, .int k), (0, .ref b), (1, .ref (ad 0)), (2, .ref (ad 8)), (3, .ref (ad 7)), (4, .int (nI i))]) hx hb dL_law_301 hl (by decide) rfl (fun ls hl => ?_)
  refine lv_aload_n hx hb dL_law_303 rfl (lv_at hl 4 rfl) ?_
  refine mw_ci (v := y'.1) (mw_runV (As := []) (rest := []) (ci := 6) (C := RX8) (T := TX8) (N := 19) hC hM2 hS hR2.1 rfl (c_X8_thrown (hc_t := hR2.1) (h := rfl)) gL_law_X8_thrown rfl rfl rfl rfl q_X8_thrown ⟨Nat.le_of_ble_eq_true rfl, Nat.le_of_ble_eq_true rfl⟩ rfl rfl (Nat.le_of_ble_eq_true rfl) hl.1 dL_law_304 ⟨hcc, hss⟩) ?_
  refine lv_iload hx hb dL_law_307 (lv_at hl 1 rfl) ?_
  have fin : W p l e room_1 s m #[Value.ref b] below meth c H locs (cells + 1) (slots + 6) Q (F0 m 1447 ls []) := kk H locs σ2 ls hM2 hS hREL (lv_sub hl [2, 3, 4, 5, 6] rfl)
  refine lv_icmp_eq (tgt := 314) hx hb dL_law_309 (by decide) (fun c9 => ?_) (fun c9 => absurd hy9 c9)
  refine lv_iload hx hb dL_law_314 (lv_at hl 1 rfl) ?_
  refine lv_if_ne (tgt := 331) hx hb dL_law_316 (by decide) (fun c8 => ?_) (fun c8 => ?_)
  · exact lv_goto (tgt := 1447) hx hb dL_law_331 (by decide) fin
  · refine lv_aload_n hx hb dL_law_319 rfl (lv_at hl 5 rfl) ?_
    refine lv_iconst (v := 0) hx hb dL_law_320 (by decide) ?_
    refine mw_ldJ hC hM2 hB2.2.2.2.2.2.2.2 (i := 0) vp_in_01 dL_law_321 ?_
    refine lv_iload hx hb dL_law_322 (lv_at hl 0 rfl) ?_
    refine lv_i2l (v := (a).toInt64) hx hb dL_law_324 rfl ?_
    refine W.lcmp hx hb dL_law_325 ?_
    exact lv_if_eq (tgt := 331) hx hb dL_law_326 (by decide) (fun _ => lv_goto (tgt := 1447) hx hb dL_law_331 (by decide) fin) (fun c9 => absurd ((lg_cmp_eq _ _).mpr (hv9 c8)) c9)
set_option maxHeartbeats 4000000 in
set_option maxRecDepth 100000 in
theorem lwc_5 {p : Program} {l : Launch} {e : Env} {s : State} {m : MethodId} {below : List Frame} {meth : Method} {c : Code} {D : va_G} {K : Nat → ClassId} {H : Heap} {locs : List Loc} {cells slots b L i : Nat} {xs : Nat → Int32} {Q : State → Prop} {σ : mwm} {ad : Nat → Nat} {ls : Array Slot} (hC : CF p m c cL_law 8 s #[Value.ref b] wsL_law RL s.heap.size D K) (hX : SX s.heap.size s) (hlt : l.stackTraces = false) (hk162 : (Cond.constantLong RL 162 4294967295).before #[Value.ref b] s = true) (hxs : va_X b L xs s s.heap) (hbl : b < s.heap.size) (hin : inj72 ad) (hR0 : REL K ad σ) (hM : MW s.heap.size D σ H) (hS : va_S (zA s.heap.size) s.heap H locs) (hl : lv_has ls 8 [(0, .ref b), (1, .ref (ad 0)), (2, .ref (ad 8)), (3, .ref (ad 7)), (4, .int (nI i))]) (hi : i + 4 ≤ L) (hL : L ≤ 2048) (hcc : cells + 1 ≤ 601024) (hss : slots + 6 ≤ 7293034) (kk : ∀ (H1 : Heap) (locs1 : List Loc) (σ1 : mwm) (ls1 : Array Slot), MW s.heap.size D σ1 H1 → va_S (zA s.heap.size) s.heap H1 locs1 → REL K ad σ1 → lv_has ls1 8 [(0, .ref b), (1, .ref (ad 0)), (2, .ref (ad 8)), (3, .ref (ad 7)), (4, .int (nI i))] → W p l e room_1 s m #[Value.ref b] below meth c H1 locs1 (cells + 1) (slots + 6) Q (F0 m 1447 ls1 [])) : W p l e room_1 s m #[Value.ref b] below meth c H locs cells slots Q (F0 m 334 ls []) := by
  have hx := hC.1.1
  have hb := hC.1.2.1
  have hown := hC.1.2.2.2.1
  have hbA : ¬ zA s.heap.size b := Nat.not_le.mpr hbl
  have hi1 : vp_in (nI i + 1) L := by rw [show nI i + 1 = nI (i + 1) from nI_add i 1]; exact vp_in_nI (by omega) (by omega)
  have hi2 : vp_in (nI i + 2) L := by rw [show nI i + 2 = nI (i + 2) from nI_add i 2]; exact vp_in_nI (by omega) (by omega)
  have hi3 : vp_in (nI i + 3) L := by rw [show nI i + 3 = nI (i + 3) from nI_add i 3]; exact vp_in_nI (by omega) (by omega)
  obtain ⟨gr, G, wt, ch, mem, rg, S0, S1, o, y, tx, fn, ft, fd, fk, fik, fo, fc, fl, hB, hG, hD, hR, hP⟩ := hR0
  obtain ⟨len, cd, mo, ma, e1, e2, e3, e4, e5, e6, e7, e8, e9, e10⟩ := id hP
  subst e1
  subst e4
  obtain ⟨n, rule, mv, ps, pr, c0, c1, hGR⟩ := id e10
  obtain ⟨g14a, g14b, g14c, g14d⟩ := id (hG 14 (by omega))
  have g14a : σ (ad 60) = some (cl0 (ad 61) (ad 62) (gr 14) (G 14).1) := g14a
  have g14b : σ (ad 61) = some (eJ K 121 (G 14).2.1) := g14b
  have g14c : σ (ad 62) = some (eJ K 121 (G 14).2.2.1) := g14c
  obtain ⟨g15a, g15b, g15c, g15d⟩ := id (hG 15 (by omega))
  have g15a : σ (ad 63) = some (cl0 (ad 64) (ad 65) (gr 15) (G 15).1) := g15a
  have g15b : σ (ad 64) = some (eJ K 121 (G 15).2.1) := g15b
  have g15c : σ (ad 65) = some (eJ K 121 (G 15).2.2.1) := g15c
  obtain ⟨g16a, g16b, g16c, g16d⟩ := id (hG 16 (by omega))
  have g16a : σ (ad 66) = some (cl0 (ad 67) (ad 68) (gr 16) (G 16).1) := g16a
  have g16b : σ (ad 67) = some (eJ K 121 (G 16).2.1) := g16b
  have g16c : σ (ad 68) = some (eJ K 121 (G 16).2.2.1) := g16c
  obtain ⟨g17a, g17b, g17c, g17d⟩ := id (hG 17 (by omega))
  have g17a : σ (ad 69) = some (cl0 (ad 70) (ad 71) (gr 17) (G 17).1) := g17a
  have g17b : σ (ad 70) = some (eJ K 121 (G 17).2.1) := g17b
  have g17c : σ (ad 71) = some (eJ K 121 (G 17).2.2.1) := g17c
  obtain ⟨k, o', a, y', hr, hs, hy9, hval, hsame⟩ := stones_agr hGR (xs (nI i + 1).toNatClampNeg) y o
  have hv9 : k = 0 → o' (0 : Int32).toNatClampNeg = a := fun z => hval z
  refine lv_aload_n hx hb dL_law_334 rfl (lv_at hl 1 rfl) ?_
  refine lv_aload_n hx hb dL_law_335 rfl (lv_at hl 0 rfl) ?_
  refine lv_iload hx hb dL_law_336 (lv_at hl 4 rfl) ?_
  refine lv_iconst (v := 1) hx hb dL_law_338 (by decide) ?_
  refine lv_iadd hx hb dL_law_339 ?_
  refine va_sld hx hb hxs hbl hbA hS hi1 dL_law_340 ?_
  refine lv_aload_n hx hb dL_law_341 rfl (lv_at hl 3 rfl) ?_
  refine mw_wi (mw_runSW (As := [.ref (ad 0), .int (xs (nI i + 1).toNatClampNeg), .ref (ad 7)]) (rest := []) hC hX hM hS (c_L_stones (hc_p0 := hB.1) (hc_p2 := hB.2.2.2.2.2.2.2) (hc_p0_now := g14a) (hlt := hlt) (h := hr)) gL_law_L_stones rfl rfl rfl q_L_stones ⟨Nat.le_of_ble_eq_true rfl, Nat.le_of_ble_eq_true rfl⟩ rfl rfl (Nat.le_of_ble_eq_true rfl) hl.1 dL_law_342 ⟨hcc, hss⟩) hS (fun r9 H locs σ1 hp hM1 hS => ?_)
  obtain ⟨hr9, hq0, ho⟩ := hp
  replace hr9 : k = r9 := hr9.symm
  subst hr9
  have hk1 : KE ad [7] σ σ1 := fun q f hq hn => ho q f hq (hn _ (List.Mem.head _))
  have hB1 : BW K ad (nI len) ch (nI mo, nI ma) rg S0 S1 o' σ1 := ⟨hk1.at hin (by omega) (by intro t ht; simp only [List.mem_cons, List.not_mem_nil, or_false] at ht; omega) hB.1, hk1.at hin (by omega) (by intro t ht; simp only [List.mem_cons, List.not_mem_nil, or_false] at ht; omega) hB.2.1, hk1.at hin (by omega) (by intro t ht; simp only [List.mem_cons, List.not_mem_nil, or_false] at ht; omega) hB.2.2.1, hk1.at hin (by omega) (by intro t ht; simp only [List.mem_cons, List.not_mem_nil, or_false] at ht; omega) hB.2.2.2.1, hk1.at hin (by omega) (by intro t ht; simp only [List.mem_cons, List.not_mem_nil, or_false] at ht; omega) hB.2.2.2.2.1, hk1.at hin (by omega) (by intro t ht; simp only [List.mem_cons, List.not_mem_nil, or_false] at ht; omega) hB.2.2.2.2.2.1, hk1.at hin (by omega) (by intro t ht; simp only [List.mem_cons, List.not_mem_nil, or_false] at ht; omega) hB.2.2.2.2.2.2.1, hq0⟩
  have hG1 := GA_keep hk1 hin hD (by intro t ht; simp only [List.mem_cons, List.not_mem_nil, or_false] at ht; omega) hG
  have hD1 := hD
  have hR1 := RW_keep hk1 hin (by intro t ht; simp only [List.mem_cons, List.not_mem_nil, or_false] at ht; omega) hR
  refine lv_istore (lv' := [(5, .int k), (0, .ref b), (1, .ref (ad 0)), (2, .ref (ad 8)), (3, .ref (ad 7)), (4, .int (nI i))]) hx hb dL_law_345 hl (by decide) rfl (fun ls hl => ?_)
  refine lv_aload_n hx hb dL_law_347 rfl (lv_at hl 3 rfl) ?_
  refine lv_aload_n hx hb dL_law_348 rfl (lv_at hl 1 rfl) ?_
  refine lv_iload hx hb dL_law_349 (lv_at hl 5 rfl) ?_
  refine lv_iconst (v := 1) hx hb dL_law_351 (by decide) ?_
  refine lv_iadd hx hb dL_law_352 ?_
  refine va_sld hx hb hxs hbl hbA hS hi1 dL_law_353 ?_
  refine mw_wl (mw_runV (As := [.int (xs (nI i + 1).toNatClampNeg)]) (rest := []) (ci := 6) (C := RX8) (T := TX8) (N := 19) hC hM1 hS hR1.1 rfl (c_X8_stones (hc_t := hR1.1) (hc_t_now := hR1.2.2.1) (n_t_t_now := inj_ne hin (by omega) (by omega) (by omega)) (h := hs)) gL_law_X8_stones rfl rfl rfl rfl q_X8_stones ⟨Nat.le_of_ble_eq_true rfl, Nat.le_of_ble_eq_true rfl⟩ rfl rfl (Nat.le_of_ble_eq_true rfl) hl.1 dL_law_354 ⟨hcc, hss⟩) hS (fun r8 H locs σ2 hp hM2 hS => ?_)
  obtain ⟨hr8, hm0, ho2⟩ := hp
  replace hr8 : a = r8 := hr8.symm
  subst hr8
  have hk2 : KE ad [8] σ1 σ2 := fun q f hq hn => ho2 q f hq (hn _ (List.Mem.head _))
  have hR2 : RW K ad y' tx fn ft fd fk fik fo fc fl σ2 := ⟨hm0, hk2.at hin (by omega) (by intro t ht; simp only [List.mem_cons, List.not_mem_nil, or_false] at ht; omega) hR1.2.1, hk2.at hin (by omega) (by intro t ht; simp only [List.mem_cons, List.not_mem_nil, or_false] at ht; omega) hR1.2.2.1, hk2.at hin (by omega) (by intro t ht; simp only [List.mem_cons, List.not_mem_nil, or_false] at ht; omega) hR1.2.2.2.1, hk2.at hin (by omega) (by intro t ht; simp only [List.mem_cons, List.not_mem_nil, or_false] at ht; omega) hR1.2.2.2.2.1, hk2.at hin (by omega) (by intro t ht; simp only [List.mem_cons, List.not_mem_nil, or_false] at ht; omega) hR1.2.2.2.2.2.1, hk2.at hin (by omega) (by intro t ht; simp only [List.mem_cons, List.not_mem_nil, or_false] at ht; omega) hR1.2.2.2.2.2.2.1, hk2.at hin (by omega) (by intro t ht; simp only [List.mem_cons, List.not_mem_nil, or_false] at ht; omega) hR1.2.2.2.2.2.2.2.1, hk2.at hin (by omega) (by intro t ht; simp only [List.mem_cons, List.not_mem_nil, or_false] at ht; omega) hR1.2.2.2.2.2.2.2.2.1, hk2.at hin (by omega) (by intro t ht; simp only [List.mem_cons, List.not_mem_nil, or_false] at ht; omega) hR1.2.2.2.2.2.2.2.2.2⟩
  have hB2 := BW_keep hk2 hin (by intro t ht; simp only [List.mem_cons, List.not_mem_nil, or_false] at ht; omega) hB1
  have hG2 := GA_keep hk2 hin hD1 (by intro t ht; simp only [List.mem_cons, List.not_mem_nil, or_false] at ht; omega) hG1
  have hP2 := PR_y hP hsame
  have hREL : REL K ad σ2 := ⟨_, _, _, _, _, _, _, _, _, _, _, _, _, _, _, _, _, _, _, hB2, hG2, hD1, hR2, hP2⟩
  refine lv_lstore (lv' := [(6, .long a), (5, .int k), (0, .ref b), (1, .ref (ad 0)), (2, .ref (ad 8)), (3, .ref (ad 7)), (4, .int (nI i))]) hx hb dL_law_357 hl (by decide) rfl (fun ls hl => ?_)
  refine lv_aload_n hx hb dL_law_359 rfl (lv_at hl 4 rfl) ?_
  refine mw_ci (v := y'.1) (mw_runV (As := []) (rest := []) (ci := 6) (C := RX8) (T := TX8) (N := 19) hC hM2 hS hR2.1 rfl (c_X8_thrown (hc_t := hR2.1) (h := rfl)) gL_law_X8_thrown rfl rfl rfl rfl q_X8_thrown ⟨Nat.le_of_ble_eq_true rfl, Nat.le_of_ble_eq_true rfl⟩ rfl rfl (Nat.le_of_ble_eq_true rfl) hl.1 dL_law_360 ⟨hcc, hss⟩) ?_
  refine lv_iload hx hb dL_law_363 (lv_at hl 1 rfl) ?_
  have fin : W p l e room_1 s m #[Value.ref b] below meth c H locs (cells + 1) (slots + 6) Q (F0 m 1447 ls []) := kk H locs σ2 ls hM2 hS hREL (lv_sub hl [2, 3, 4, 5, 6] rfl)
  refine lv_icmp_eq (tgt := 370) hx hb dL_law_365 (by decide) (fun c9 => ?_) (fun c9 => absurd hy9 c9)
  refine lv_iload hx hb dL_law_370 (lv_at hl 1 rfl) ?_
  refine lv_if_ne (tgt := 386) hx hb dL_law_372 (by decide) (fun c8 => ?_) (fun c8 => ?_)
  · exact lv_goto (tgt := 1447) hx hb dL_law_386 (by decide) fin
  · refine lv_aload_n hx hb dL_law_375 rfl (lv_at hl 5 rfl) ?_
    refine lv_iconst (v := 0) hx hb dL_law_376 (by decide) ?_
    refine mw_ldJ hC hM2 hB2.2.2.2.2.2.2.2 (i := 0) vp_in_01 dL_law_377 ?_
    refine lv_lload hx hb dL_law_378 (lv_at hl 0 rfl) ?_
    refine W.lcmp hx hb dL_law_380 ?_
    exact lv_if_eq (tgt := 386) hx hb dL_law_381 (by decide) (fun _ => lv_goto (tgt := 1447) hx hb dL_law_386 (by decide) fin) (fun c9 => absurd ((lg_cmp_eq _ _).mpr (hv9 c8)) c9)
set_option maxHeartbeats 4000000 in
set_option maxRecDepth 100000 in
theorem lwc_6 {p : Program} {l : Launch} {e : Env} {s : State} {m : MethodId} {below : List Frame} {meth : Method} {c : Code} {D : va_G} {K : Nat → ClassId} {H : Heap} {locs : List Loc} {cells slots b L i : Nat} {xs : Nat → Int32} {Q : State → Prop} {σ : mwm} {ad : Nat → Nat} {ls : Array Slot} (hC : CF p m c cL_law 8 s #[Value.ref b] wsL_law RL s.heap.size D K) (hX : SX s.heap.size s) (hlt : l.stackTraces = false) (hk162 : (Cond.constantLong RL 162 4294967295).before #[Value.ref b] s = true) (hxs : va_X b L xs s s.heap) (hbl : b < s.heap.size) (hin : inj72 ad) (hR0 : REL K ad σ) (hM : MW s.heap.size D σ H) (hS : va_S (zA s.heap.size) s.heap H locs) (hl : lv_has ls 8 [(0, .ref b), (1, .ref (ad 0)), (2, .ref (ad 8)), (3, .ref (ad 7)), (4, .int (nI i))]) (hi : i + 4 ≤ L) (hL : L ≤ 2048) (hcc : cells + 1 ≤ 601024) (hss : slots + 6 ≤ 7293034) (kk : ∀ (H1 : Heap) (locs1 : List Loc) (σ1 : mwm) (ls1 : Array Slot), MW s.heap.size D σ1 H1 → va_S (zA s.heap.size) s.heap H1 locs1 → REL K ad σ1 → lv_has ls1 8 [(0, .ref b), (1, .ref (ad 0)), (2, .ref (ad 8)), (3, .ref (ad 7)), (4, .int (nI i))] → W p l e room_1 s m #[Value.ref b] below meth c H1 locs1 (cells + 1) (slots + 6) Q (F0 m 1447 ls1 [])) : W p l e room_1 s m #[Value.ref b] below meth c H locs cells slots Q (F0 m 389 ls []) := by
  have hx := hC.1.1
  have hb := hC.1.2.1
  have hown := hC.1.2.2.2.1
  have hbA : ¬ zA s.heap.size b := Nat.not_le.mpr hbl
  have hi1 : vp_in (nI i + 1) L := by rw [show nI i + 1 = nI (i + 1) from nI_add i 1]; exact vp_in_nI (by omega) (by omega)
  have hi2 : vp_in (nI i + 2) L := by rw [show nI i + 2 = nI (i + 2) from nI_add i 2]; exact vp_in_nI (by omega) (by omega)
  have hi3 : vp_in (nI i + 3) L := by rw [show nI i + 3 = nI (i + 3) from nI_add i 3]; exact vp_in_nI (by omega) (by omega)
  obtain ⟨gr, G, wt, ch, mem, rg, S0, S1, o, y, tx, fn, ft, fd, fk, fik, fo, fc, fl, hB, hG, hD, hR, hP⟩ := hR0
  obtain ⟨len, cd, mo, ma, e1, e2, e3, e4, e5, e6, e7, e8, e9, e10⟩ := id hP
  subst e1
  subst e4
  obtain ⟨n, rule, mv, ps, pr, c0, c1, hGR⟩ := id e10
  obtain ⟨g14a, g14b, g14c, g14d⟩ := id (hG 14 (by omega))
  have g14a : σ (ad 60) = some (cl0 (ad 61) (ad 62) (gr 14) (G 14).1) := g14a
  have g14b : σ (ad 61) = some (eJ K 121 (G 14).2.1) := g14b
  have g14c : σ (ad 62) = some (eJ K 121 (G 14).2.2.1) := g14c
  obtain ⟨g15a, g15b, g15c, g15d⟩ := id (hG 15 (by omega))
  have g15a : σ (ad 63) = some (cl0 (ad 64) (ad 65) (gr 15) (G 15).1) := g15a
  have g15b : σ (ad 64) = some (eJ K 121 (G 15).2.1) := g15b
  have g15c : σ (ad 65) = some (eJ K 121 (G 15).2.2.1) := g15c
  obtain ⟨g16a, g16b, g16c, g16d⟩ := id (hG 16 (by omega))
  have g16a : σ (ad 66) = some (cl0 (ad 67) (ad 68) (gr 16) (G 16).1) := g16a
  have g16b : σ (ad 67) = some (eJ K 121 (G 16).2.1) := g16b
  have g16c : σ (ad 68) = some (eJ K 121 (G 16).2.2.1) := g16c
  obtain ⟨g17a, g17b, g17c, g17d⟩ := id (hG 17 (by omega))
  have g17a : σ (ad 69) = some (cl0 (ad 70) (ad 71) (gr 17) (G 17).1) := g17a
  have g17b : σ (ad 70) = some (eJ K 121 (G 17).2.1) := g17b
  have g17c : σ (ad 71) = some (eJ K 121 (G 17).2.2.1) := g17c
  obtain ⟨k, o', a, y', hr, hs, hy9, hval, hsame⟩ := colour_agr hGR (xs (nI i + 1).toNatClampNeg) (xs (nI i + 2).toNatClampNeg) y o
  have hv9 : k = 0 → o' (0 : Int32).toNatClampNeg = a.toInt64 := fun z => hval z
  refine lv_aload_n hx hb dL_law_389 rfl (lv_at hl 1 rfl) ?_
  refine lv_aload_n hx hb dL_law_390 rfl (lv_at hl 0 rfl) ?_
  refine lv_iload hx hb dL_law_391 (lv_at hl 4 rfl) ?_
  refine lv_iconst (v := 1) hx hb dL_law_393 (by decide) ?_
  refine lv_iadd hx hb dL_law_394 ?_
  refine va_sld hx hb hxs hbl hbA hS hi1 dL_law_395 ?_
  refine lv_aload_n hx hb dL_law_396 rfl (lv_at hl 0 rfl) ?_
  refine lv_iload hx hb dL_law_397 (lv_at hl 4 rfl) ?_
  refine lv_iconst (v := 2) hx hb dL_law_399 (by decide) ?_
  refine lv_iadd hx hb dL_law_400 ?_
  refine va_sld hx hb hxs hbl hbA hS hi2 dL_law_401 ?_
  refine lv_aload_n hx hb dL_law_402 rfl (lv_at hl 3 rfl) ?_
  refine mw_wi (mw_runSW (As := [.ref (ad 0), .int (xs (nI i + 1).toNatClampNeg), .int (xs (nI i + 2).toNatClampNeg), .ref (ad 7)]) (rest := []) hC hX hM hS (c_L_colour (hc_p0 := hB.1) (hc_p3 := hB.2.2.2.2.2.2.2) (hc_p0_now := g14a) (hc_p0_now_grid := g14d) (hlt := hlt) (h := hr)) gL_law_L_colour rfl rfl rfl q_L_colour ⟨Nat.le_of_ble_eq_true rfl, Nat.le_of_ble_eq_true rfl⟩ rfl rfl (Nat.le_of_ble_eq_true rfl) hl.1 dL_law_403 ⟨hcc, hss⟩) hS (fun r9 H locs σ1 hp hM1 hS => ?_)
  obtain ⟨hr9, hq0, ho⟩ := hp
  replace hr9 : k = r9 := hr9.symm
  subst hr9
  have hk1 : KE ad [7] σ σ1 := fun q f hq hn => ho q f hq (hn _ (List.Mem.head _))
  have hB1 : BW K ad (nI len) ch (nI mo, nI ma) rg S0 S1 o' σ1 := ⟨hk1.at hin (by omega) (by intro t ht; simp only [List.mem_cons, List.not_mem_nil, or_false] at ht; omega) hB.1, hk1.at hin (by omega) (by intro t ht; simp only [List.mem_cons, List.not_mem_nil, or_false] at ht; omega) hB.2.1, hk1.at hin (by omega) (by intro t ht; simp only [List.mem_cons, List.not_mem_nil, or_false] at ht; omega) hB.2.2.1, hk1.at hin (by omega) (by intro t ht; simp only [List.mem_cons, List.not_mem_nil, or_false] at ht; omega) hB.2.2.2.1, hk1.at hin (by omega) (by intro t ht; simp only [List.mem_cons, List.not_mem_nil, or_false] at ht; omega) hB.2.2.2.2.1, hk1.at hin (by omega) (by intro t ht; simp only [List.mem_cons, List.not_mem_nil, or_false] at ht; omega) hB.2.2.2.2.2.1, hk1.at hin (by omega) (by intro t ht; simp only [List.mem_cons, List.not_mem_nil, or_false] at ht; omega) hB.2.2.2.2.2.2.1, hq0⟩
  have hG1 := GA_keep hk1 hin hD (by intro t ht; simp only [List.mem_cons, List.not_mem_nil, or_false] at ht; omega) hG
  have hD1 := hD
  have hR1 := RW_keep hk1 hin (by intro t ht; simp only [List.mem_cons, List.not_mem_nil, or_false] at ht; omega) hR
  refine lv_istore (lv' := [(5, .int k), (0, .ref b), (1, .ref (ad 0)), (2, .ref (ad 8)), (3, .ref (ad 7)), (4, .int (nI i))]) hx hb dL_law_406 hl (by decide) rfl (fun ls hl => ?_)
  refine lv_aload_n hx hb dL_law_408 rfl (lv_at hl 3 rfl) ?_
  refine lv_aload_n hx hb dL_law_409 rfl (lv_at hl 1 rfl) ?_
  refine lv_iload hx hb dL_law_410 (lv_at hl 5 rfl) ?_
  refine lv_iconst (v := 1) hx hb dL_law_412 (by decide) ?_
  refine lv_iadd hx hb dL_law_413 ?_
  refine va_sld hx hb hxs hbl hbA hS hi1 dL_law_414 ?_
  refine lv_aload_n hx hb dL_law_415 rfl (lv_at hl 1 rfl) ?_
  refine lv_iload hx hb dL_law_416 (lv_at hl 5 rfl) ?_
  refine lv_iconst (v := 2) hx hb dL_law_418 (by decide) ?_
  refine lv_iadd hx hb dL_law_419 ?_
  refine va_sld hx hb hxs hbl hbA hS hi2 dL_law_420 ?_
  refine mw_wi (mw_runV (As := [.int (xs (nI i + 1).toNatClampNeg), .int (xs (nI i + 2).toNatClampNeg)]) (rest := []) (ci := 6) (C := RX8) (T := TX8) (N := 19) hC hM1 hS hR1.1 rfl (c_X8_colour (hc_t := hR1.1) (hc_t_now := hR1.2.2.1) (n_t_t_now := inj_ne hin (by omega) (by omega) (by omega)) (h := hs)) gL_law_X8_colour rfl rfl rfl rfl q_X8_colour ⟨Nat.le_of_ble_eq_true rfl, Nat.le_of_ble_eq_true rfl⟩ rfl rfl (Nat.le_of_ble_eq_true rfl) hl.1 dL_law_421 ⟨hcc, hss⟩) hS (fun r8 H locs σ2 hp hM2 hS => ?_)
  obtain ⟨hr8, hm0, ho2⟩ := hp
  replace hr8 : a = r8 := hr8.symm
  subst hr8
  have hk2 : KE ad [8] σ1 σ2 := fun q f hq hn => ho2 q f hq (hn _ (List.Mem.head _))
  have hR2 : RW K ad y' tx fn ft fd fk fik fo fc fl σ2 := ⟨hm0, hk2.at hin (by omega) (by intro t ht; simp only [List.mem_cons, List.not_mem_nil, or_false] at ht; omega) hR1.2.1, hk2.at hin (by omega) (by intro t ht; simp only [List.mem_cons, List.not_mem_nil, or_false] at ht; omega) hR1.2.2.1, hk2.at hin (by omega) (by intro t ht; simp only [List.mem_cons, List.not_mem_nil, or_false] at ht; omega) hR1.2.2.2.1, hk2.at hin (by omega) (by intro t ht; simp only [List.mem_cons, List.not_mem_nil, or_false] at ht; omega) hR1.2.2.2.2.1, hk2.at hin (by omega) (by intro t ht; simp only [List.mem_cons, List.not_mem_nil, or_false] at ht; omega) hR1.2.2.2.2.2.1, hk2.at hin (by omega) (by intro t ht; simp only [List.mem_cons, List.not_mem_nil, or_false] at ht; omega) hR1.2.2.2.2.2.2.1, hk2.at hin (by omega) (by intro t ht; simp only [List.mem_cons, List.not_mem_nil, or_false] at ht; omega) hR1.2.2.2.2.2.2.2.1, hk2.at hin (by omega) (by intro t ht; simp only [List.mem_cons, List.not_mem_nil, or_false] at ht; omega) hR1.2.2.2.2.2.2.2.2.1, hk2.at hin (by omega) (by intro t ht; simp only [List.mem_cons, List.not_mem_nil, or_false] at ht; omega) hR1.2.2.2.2.2.2.2.2.2⟩
  have hB2 := BW_keep hk2 hin (by intro t ht; simp only [List.mem_cons, List.not_mem_nil, or_false] at ht; omega) hB1
  have hG2 := GA_keep hk2 hin hD1 (by intro t ht; simp only [List.mem_cons, List.not_mem_nil, or_false] at ht; omega) hG1
  have hP2 := PR_y hP hsame
  have hREL : REL K ad σ2 := ⟨_, _, _, _, _, _, _, _, _, _, _, _, _, _, _, _, _, _, _, hB2, hG2, hD1, hR2, hP2⟩
  refine lv_istore (lv' := [(6, .int a), (5, .int k), (0, .ref b), (1, .ref (ad 0)), (2, .ref (ad 8)), (3, .ref (ad 7)), (4, .int (nI i))]) hx hb dL_law_424 hl (by decide) rfl (fun ls hl => ?_)
  refine lv_aload_n hx hb dL_law_426 rfl (lv_at hl 4 rfl) ?_
  refine mw_ci (v := y'.1) (mw_runV (As := []) (rest := []) (ci := 6) (C := RX8) (T := TX8) (N := 19) hC hM2 hS hR2.1 rfl (c_X8_thrown (hc_t := hR2.1) (h := rfl)) gL_law_X8_thrown rfl rfl rfl rfl q_X8_thrown ⟨Nat.le_of_ble_eq_true rfl, Nat.le_of_ble_eq_true rfl⟩ rfl rfl (Nat.le_of_ble_eq_true rfl) hl.1 dL_law_427 ⟨hcc, hss⟩) ?_
  refine lv_iload hx hb dL_law_430 (lv_at hl 1 rfl) ?_
  have fin : W p l e room_1 s m #[Value.ref b] below meth c H locs (cells + 1) (slots + 6) Q (F0 m 1447 ls []) := kk H locs σ2 ls hM2 hS hREL (lv_sub hl [2, 3, 4, 5, 6] rfl)
  refine lv_icmp_eq (tgt := 437) hx hb dL_law_432 (by decide) (fun c9 => ?_) (fun c9 => absurd hy9 c9)
  refine lv_iload hx hb dL_law_437 (lv_at hl 1 rfl) ?_
  refine lv_if_ne (tgt := 454) hx hb dL_law_439 (by decide) (fun c8 => ?_) (fun c8 => ?_)
  · exact lv_goto (tgt := 1447) hx hb dL_law_454 (by decide) fin
  · refine lv_aload_n hx hb dL_law_442 rfl (lv_at hl 5 rfl) ?_
    refine lv_iconst (v := 0) hx hb dL_law_443 (by decide) ?_
    refine mw_ldJ hC hM2 hB2.2.2.2.2.2.2.2 (i := 0) vp_in_01 dL_law_444 ?_
    refine lv_iload hx hb dL_law_445 (lv_at hl 0 rfl) ?_
    refine lv_i2l (v := (a).toInt64) hx hb dL_law_447 rfl ?_
    refine W.lcmp hx hb dL_law_448 ?_
    exact lv_if_eq (tgt := 454) hx hb dL_law_449 (by decide) (fun _ => lv_goto (tgt := 1447) hx hb dL_law_454 (by decide) fin) (fun c9 => absurd ((lg_cmp_eq _ _).mpr (hv9 c8)) c9)
set_option maxHeartbeats 4000000 in
set_option maxRecDepth 100000 in
theorem lwc_7 {p : Program} {l : Launch} {e : Env} {s : State} {m : MethodId} {below : List Frame} {meth : Method} {c : Code} {D : va_G} {K : Nat → ClassId} {H : Heap} {locs : List Loc} {cells slots b L i : Nat} {xs : Nat → Int32} {Q : State → Prop} {σ : mwm} {ad : Nat → Nat} {ls : Array Slot} (hC : CF p m c cL_law 8 s #[Value.ref b] wsL_law RL s.heap.size D K) (hX : SX s.heap.size s) (hlt : l.stackTraces = false) (hk162 : (Cond.constantLong RL 162 4294967295).before #[Value.ref b] s = true) (hxs : va_X b L xs s s.heap) (hbl : b < s.heap.size) (hin : inj72 ad) (hR0 : REL K ad σ) (hM : MW s.heap.size D σ H) (hS : va_S (zA s.heap.size) s.heap H locs) (hl : lv_has ls 8 [(0, .ref b), (1, .ref (ad 0)), (2, .ref (ad 8)), (3, .ref (ad 7)), (4, .int (nI i))]) (hi : i + 4 ≤ L) (hL : L ≤ 2048) (hcc : cells + 1 ≤ 601024) (hss : slots + 6 ≤ 7293034) (kk : ∀ (H1 : Heap) (locs1 : List Loc) (σ1 : mwm) (ls1 : Array Slot), MW s.heap.size D σ1 H1 → va_S (zA s.heap.size) s.heap H1 locs1 → REL K ad σ1 → lv_has ls1 8 [(0, .ref b), (1, .ref (ad 0)), (2, .ref (ad 8)), (3, .ref (ad 7)), (4, .int (nI i))] → W p l e room_1 s m #[Value.ref b] below meth c H1 locs1 (cells + 1) (slots + 6) Q (F0 m 1447 ls1 [])) : W p l e room_1 s m #[Value.ref b] below meth c H locs cells slots Q (F0 m 457 ls []) := by
  have hx := hC.1.1
  have hb := hC.1.2.1
  have hown := hC.1.2.2.2.1
  have hbA : ¬ zA s.heap.size b := Nat.not_le.mpr hbl
  have hi1 : vp_in (nI i + 1) L := by rw [show nI i + 1 = nI (i + 1) from nI_add i 1]; exact vp_in_nI (by omega) (by omega)
  have hi2 : vp_in (nI i + 2) L := by rw [show nI i + 2 = nI (i + 2) from nI_add i 2]; exact vp_in_nI (by omega) (by omega)
  have hi3 : vp_in (nI i + 3) L := by rw [show nI i + 3 = nI (i + 3) from nI_add i 3]; exact vp_in_nI (by omega) (by omega)
  obtain ⟨gr, G, wt, ch, mem, rg, S0, S1, o, y, tx, fn, ft, fd, fk, fik, fo, fc, fl, hB, hG, hD, hR, hP⟩ := hR0
  obtain ⟨len, cd, mo, ma, e1, e2, e3, e4, e5, e6, e7, e8, e9, e10⟩ := id hP
  subst e1
  subst e4
  obtain ⟨n, rule, mv, ps, pr, c0, c1, hGR⟩ := id e10
  obtain ⟨g14a, g14b, g14c, g14d⟩ := id (hG 14 (by omega))
  have g14a : σ (ad 60) = some (cl0 (ad 61) (ad 62) (gr 14) (G 14).1) := g14a
  have g14b : σ (ad 61) = some (eJ K 121 (G 14).2.1) := g14b
  have g14c : σ (ad 62) = some (eJ K 121 (G 14).2.2.1) := g14c
  obtain ⟨g15a, g15b, g15c, g15d⟩ := id (hG 15 (by omega))
  have g15a : σ (ad 63) = some (cl0 (ad 64) (ad 65) (gr 15) (G 15).1) := g15a
  have g15b : σ (ad 64) = some (eJ K 121 (G 15).2.1) := g15b
  have g15c : σ (ad 65) = some (eJ K 121 (G 15).2.2.1) := g15c
  obtain ⟨g16a, g16b, g16c, g16d⟩ := id (hG 16 (by omega))
  have g16a : σ (ad 66) = some (cl0 (ad 67) (ad 68) (gr 16) (G 16).1) := g16a
  have g16b : σ (ad 67) = some (eJ K 121 (G 16).2.1) := g16b
  have g16c : σ (ad 68) = some (eJ K 121 (G 16).2.2.1) := g16c
  obtain ⟨g17a, g17b, g17c, g17d⟩ := id (hG 17 (by omega))
  have g17a : σ (ad 69) = some (cl0 (ad 70) (ad 71) (gr 17) (G 17).1) := g17a
  have g17b : σ (ad 70) = some (eJ K 121 (G 17).2.1) := g17b
  have g17c : σ (ad 71) = some (eJ K 121 (G 17).2.2.1) := g17c
  obtain ⟨k, o', a, y', hr, hs, hy9, hval, hsame⟩ := point_agr hGR (xs (nI i + 1).toNatClampNeg) (xs (nI i + 2).toNatClampNeg) y o
  have hv9 : k = 0 → o' (0 : Int32).toNatClampNeg = a.toInt64 := fun z => hval z
  refine lv_aload_n hx hb dL_law_457 rfl (lv_at hl 1 rfl) ?_
  refine lv_aload_n hx hb dL_law_458 rfl (lv_at hl 0 rfl) ?_
  refine lv_iload hx hb dL_law_459 (lv_at hl 4 rfl) ?_
  refine lv_iconst (v := 1) hx hb dL_law_461 (by decide) ?_
  refine lv_iadd hx hb dL_law_462 ?_
  refine va_sld hx hb hxs hbl hbA hS hi1 dL_law_463 ?_
  refine lv_aload_n hx hb dL_law_464 rfl (lv_at hl 0 rfl) ?_
  refine lv_iload hx hb dL_law_465 (lv_at hl 4 rfl) ?_
  refine lv_iconst (v := 2) hx hb dL_law_467 (by decide) ?_
  refine lv_iadd hx hb dL_law_468 ?_
  refine va_sld hx hb hxs hbl hbA hS hi2 dL_law_469 ?_
  refine lv_aload_n hx hb dL_law_470 rfl (lv_at hl 3 rfl) ?_
  refine mw_wi (mw_runSW (As := [.ref (ad 0), .int (xs (nI i + 1).toNatClampNeg), .int (xs (nI i + 2).toNatClampNeg), .ref (ad 7)]) (rest := []) hC hX hM hS (c_L_point (hc_p0 := hB.1) (hc_p3 := hB.2.2.2.2.2.2.2) (hc_p0_now := g14a) (hc_p0_now_grid := g14d) (hlt := hlt) (h := hr)) gL_law_L_point rfl rfl rfl q_L_point ⟨Nat.le_of_ble_eq_true rfl, Nat.le_of_ble_eq_true rfl⟩ rfl rfl (Nat.le_of_ble_eq_true rfl) hl.1 dL_law_471 ⟨hcc, hss⟩) hS (fun r9 H locs σ1 hp hM1 hS => ?_)
  obtain ⟨hr9, hq0, ho⟩ := hp
  replace hr9 : k = r9 := hr9.symm
  subst hr9
  have hk1 : KE ad [7] σ σ1 := fun q f hq hn => ho q f hq (hn _ (List.Mem.head _))
  have hB1 : BW K ad (nI len) ch (nI mo, nI ma) rg S0 S1 o' σ1 := ⟨hk1.at hin (by omega) (by intro t ht; simp only [List.mem_cons, List.not_mem_nil, or_false] at ht; omega) hB.1, hk1.at hin (by omega) (by intro t ht; simp only [List.mem_cons, List.not_mem_nil, or_false] at ht; omega) hB.2.1, hk1.at hin (by omega) (by intro t ht; simp only [List.mem_cons, List.not_mem_nil, or_false] at ht; omega) hB.2.2.1, hk1.at hin (by omega) (by intro t ht; simp only [List.mem_cons, List.not_mem_nil, or_false] at ht; omega) hB.2.2.2.1, hk1.at hin (by omega) (by intro t ht; simp only [List.mem_cons, List.not_mem_nil, or_false] at ht; omega) hB.2.2.2.2.1, hk1.at hin (by omega) (by intro t ht; simp only [List.mem_cons, List.not_mem_nil, or_false] at ht; omega) hB.2.2.2.2.2.1, hk1.at hin (by omega) (by intro t ht; simp only [List.mem_cons, List.not_mem_nil, or_false] at ht; omega) hB.2.2.2.2.2.2.1, hq0⟩
  have hG1 := GA_keep hk1 hin hD (by intro t ht; simp only [List.mem_cons, List.not_mem_nil, or_false] at ht; omega) hG
  have hD1 := hD
  have hR1 := RW_keep hk1 hin (by intro t ht; simp only [List.mem_cons, List.not_mem_nil, or_false] at ht; omega) hR
  refine lv_istore (lv' := [(5, .int k), (0, .ref b), (1, .ref (ad 0)), (2, .ref (ad 8)), (3, .ref (ad 7)), (4, .int (nI i))]) hx hb dL_law_474 hl (by decide) rfl (fun ls hl => ?_)
  refine lv_aload_n hx hb dL_law_476 rfl (lv_at hl 3 rfl) ?_
  refine lv_aload_n hx hb dL_law_477 rfl (lv_at hl 1 rfl) ?_
  refine lv_iload hx hb dL_law_478 (lv_at hl 5 rfl) ?_
  refine lv_iconst (v := 1) hx hb dL_law_480 (by decide) ?_
  refine lv_iadd hx hb dL_law_481 ?_
  refine va_sld hx hb hxs hbl hbA hS hi1 dL_law_482 ?_
  refine lv_aload_n hx hb dL_law_483 rfl (lv_at hl 1 rfl) ?_
  refine lv_iload hx hb dL_law_484 (lv_at hl 5 rfl) ?_
  refine lv_iconst (v := 2) hx hb dL_law_486 (by decide) ?_
  refine lv_iadd hx hb dL_law_487 ?_
  refine va_sld hx hb hxs hbl hbA hS hi2 dL_law_488 ?_
  refine mw_wi (mw_runV (As := [.int (xs (nI i + 1).toNatClampNeg), .int (xs (nI i + 2).toNatClampNeg)]) (rest := []) (ci := 6) (C := RX8) (T := TX8) (N := 19) hC hM1 hS hR1.1 rfl (c_X8_point (hc_t := hR1.1) (hc_t_now := hR1.2.2.1) (n_t_t_now := inj_ne hin (by omega) (by omega) (by omega)) (h := hs)) gL_law_X8_point rfl rfl rfl rfl q_X8_point ⟨Nat.le_of_ble_eq_true rfl, Nat.le_of_ble_eq_true rfl⟩ rfl rfl (Nat.le_of_ble_eq_true rfl) hl.1 dL_law_489 ⟨hcc, hss⟩) hS (fun r8 H locs σ2 hp hM2 hS => ?_)
  obtain ⟨hr8, hm0, ho2⟩ := hp
  replace hr8 : a = r8 := hr8.symm
  subst hr8
  have hk2 : KE ad [8] σ1 σ2 := fun q f hq hn => ho2 q f hq (hn _ (List.Mem.head _))
  have hR2 : RW K ad y' tx fn ft fd fk fik fo fc fl σ2 := ⟨hm0, hk2.at hin (by omega) (by intro t ht; simp only [List.mem_cons, List.not_mem_nil, or_false] at ht; omega) hR1.2.1, hk2.at hin (by omega) (by intro t ht; simp only [List.mem_cons, List.not_mem_nil, or_false] at ht; omega) hR1.2.2.1, hk2.at hin (by omega) (by intro t ht; simp only [List.mem_cons, List.not_mem_nil, or_false] at ht; omega) hR1.2.2.2.1, hk2.at hin (by omega) (by intro t ht; simp only [List.mem_cons, List.not_mem_nil, or_false] at ht; omega) hR1.2.2.2.2.1, hk2.at hin (by omega) (by intro t ht; simp only [List.mem_cons, List.not_mem_nil, or_false] at ht; omega) hR1.2.2.2.2.2.1, hk2.at hin (by omega) (by intro t ht; simp only [List.mem_cons, List.not_mem_nil, or_false] at ht; omega) hR1.2.2.2.2.2.2.1, hk2.at hin (by omega) (by intro t ht; simp only [List.mem_cons, List.not_mem_nil, or_false] at ht; omega) hR1.2.2.2.2.2.2.2.1, hk2.at hin (by omega) (by intro t ht; simp only [List.mem_cons, List.not_mem_nil, or_false] at ht; omega) hR1.2.2.2.2.2.2.2.2.1, hk2.at hin (by omega) (by intro t ht; simp only [List.mem_cons, List.not_mem_nil, or_false] at ht; omega) hR1.2.2.2.2.2.2.2.2.2⟩
  have hB2 := BW_keep hk2 hin (by intro t ht; simp only [List.mem_cons, List.not_mem_nil, or_false] at ht; omega) hB1
  have hG2 := GA_keep hk2 hin hD1 (by intro t ht; simp only [List.mem_cons, List.not_mem_nil, or_false] at ht; omega) hG1
  have hP2 := PR_y hP hsame
  have hREL : REL K ad σ2 := ⟨_, _, _, _, _, _, _, _, _, _, _, _, _, _, _, _, _, _, _, hB2, hG2, hD1, hR2, hP2⟩
  refine lv_istore (lv' := [(6, .int a), (5, .int k), (0, .ref b), (1, .ref (ad 0)), (2, .ref (ad 8)), (3, .ref (ad 7)), (4, .int (nI i))]) hx hb dL_law_492 hl (by decide) rfl (fun ls hl => ?_)
  refine lv_aload_n hx hb dL_law_494 rfl (lv_at hl 4 rfl) ?_
  refine mw_ci (v := y'.1) (mw_runV (As := []) (rest := []) (ci := 6) (C := RX8) (T := TX8) (N := 19) hC hM2 hS hR2.1 rfl (c_X8_thrown (hc_t := hR2.1) (h := rfl)) gL_law_X8_thrown rfl rfl rfl rfl q_X8_thrown ⟨Nat.le_of_ble_eq_true rfl, Nat.le_of_ble_eq_true rfl⟩ rfl rfl (Nat.le_of_ble_eq_true rfl) hl.1 dL_law_495 ⟨hcc, hss⟩) ?_
  refine lv_iload hx hb dL_law_498 (lv_at hl 1 rfl) ?_
  have fin : W p l e room_1 s m #[Value.ref b] below meth c H locs (cells + 1) (slots + 6) Q (F0 m 1447 ls []) := kk H locs σ2 ls hM2 hS hREL (lv_sub hl [2, 3, 4, 5, 6] rfl)
  refine lv_icmp_eq (tgt := 505) hx hb dL_law_500 (by decide) (fun c9 => ?_) (fun c9 => absurd hy9 c9)
  refine lv_iload hx hb dL_law_505 (lv_at hl 1 rfl) ?_
  refine lv_if_ne (tgt := 522) hx hb dL_law_507 (by decide) (fun c8 => ?_) (fun c8 => ?_)
  · exact lv_goto (tgt := 1447) hx hb dL_law_522 (by decide) fin
  · refine lv_aload_n hx hb dL_law_510 rfl (lv_at hl 5 rfl) ?_
    refine lv_iconst (v := 0) hx hb dL_law_511 (by decide) ?_
    refine mw_ldJ hC hM2 hB2.2.2.2.2.2.2.2 (i := 0) vp_in_01 dL_law_512 ?_
    refine lv_iload hx hb dL_law_513 (lv_at hl 0 rfl) ?_
    refine lv_i2l (v := (a).toInt64) hx hb dL_law_515 rfl ?_
    refine W.lcmp hx hb dL_law_516 ?_
    exact lv_if_eq (tgt := 522) hx hb dL_law_517 (by decide) (fun _ => lv_goto (tgt := 1447) hx hb dL_law_522 (by decide) fin) (fun c9 => absurd ((lg_cmp_eq _ _).mpr (hv9 c8)) c9)
set_option maxHeartbeats 4000000 in
set_option maxRecDepth 100000 in
theorem lwc_8 {p : Program} {l : Launch} {e : Env} {s : State} {m : MethodId} {below : List Frame} {meth : Method} {c : Code} {D : va_G} {K : Nat → ClassId} {H : Heap} {locs : List Loc} {cells slots b L i : Nat} {xs : Nat → Int32} {Q : State → Prop} {σ : mwm} {ad : Nat → Nat} {ls : Array Slot} (hC : CF p m c cL_law 8 s #[Value.ref b] wsL_law RL s.heap.size D K) (hX : SX s.heap.size s) (hlt : l.stackTraces = false) (hk162 : (Cond.constantLong RL 162 4294967295).before #[Value.ref b] s = true) (hxs : va_X b L xs s s.heap) (hbl : b < s.heap.size) (hin : inj72 ad) (hR0 : REL K ad σ) (hM : MW s.heap.size D σ H) (hS : va_S (zA s.heap.size) s.heap H locs) (hl : lv_has ls 8 [(0, .ref b), (1, .ref (ad 0)), (2, .ref (ad 8)), (3, .ref (ad 7)), (4, .int (nI i))]) (hi : i + 4 ≤ L) (hL : L ≤ 2048) (hcc : cells + 1 ≤ 601024) (hss : slots + 6 ≤ 7293034) (kk : ∀ (H1 : Heap) (locs1 : List Loc) (σ1 : mwm) (ls1 : Array Slot), MW s.heap.size D σ1 H1 → va_S (zA s.heap.size) s.heap H1 locs1 → REL K ad σ1 → lv_has ls1 8 [(0, .ref b), (1, .ref (ad 0)), (2, .ref (ad 8)), (3, .ref (ad 7)), (4, .int (nI i))] → W p l e room_1 s m #[Value.ref b] below meth c H1 locs1 (cells + 1) (slots + 6) Q (F0 m 1447 ls1 [])) : W p l e room_1 s m #[Value.ref b] below meth c H locs cells slots Q (F0 m 525 ls []) := by
  have hx := hC.1.1
  have hb := hC.1.2.1
  have hown := hC.1.2.2.2.1
  have hbA : ¬ zA s.heap.size b := Nat.not_le.mpr hbl
  have hi1 : vp_in (nI i + 1) L := by rw [show nI i + 1 = nI (i + 1) from nI_add i 1]; exact vp_in_nI (by omega) (by omega)
  have hi2 : vp_in (nI i + 2) L := by rw [show nI i + 2 = nI (i + 2) from nI_add i 2]; exact vp_in_nI (by omega) (by omega)
  have hi3 : vp_in (nI i + 3) L := by rw [show nI i + 3 = nI (i + 3) from nI_add i 3]; exact vp_in_nI (by omega) (by omega)
  obtain ⟨gr, G, wt, ch, mem, rg, S0, S1, o, y, tx, fn, ft, fd, fk, fik, fo, fc, fl, hB, hG, hD, hR, hP⟩ := hR0
  obtain ⟨len, cd, mo, ma, e1, e2, e3, e4, e5, e6, e7, e8, e9, e10⟩ := id hP
  subst e1
  subst e4
  obtain ⟨n, rule, mv, ps, pr, c0, c1, hGR⟩ := id e10
  obtain ⟨g14a, g14b, g14c, g14d⟩ := id (hG 14 (by omega))
  have g14a : σ (ad 60) = some (cl0 (ad 61) (ad 62) (gr 14) (G 14).1) := g14a
  have g14b : σ (ad 61) = some (eJ K 121 (G 14).2.1) := g14b
  have g14c : σ (ad 62) = some (eJ K 121 (G 14).2.2.1) := g14c
  obtain ⟨g15a, g15b, g15c, g15d⟩ := id (hG 15 (by omega))
  have g15a : σ (ad 63) = some (cl0 (ad 64) (ad 65) (gr 15) (G 15).1) := g15a
  have g15b : σ (ad 64) = some (eJ K 121 (G 15).2.1) := g15b
  have g15c : σ (ad 65) = some (eJ K 121 (G 15).2.2.1) := g15c
  obtain ⟨g16a, g16b, g16c, g16d⟩ := id (hG 16 (by omega))
  have g16a : σ (ad 66) = some (cl0 (ad 67) (ad 68) (gr 16) (G 16).1) := g16a
  have g16b : σ (ad 67) = some (eJ K 121 (G 16).2.1) := g16b
  have g16c : σ (ad 68) = some (eJ K 121 (G 16).2.2.1) := g16c
  obtain ⟨g17a, g17b, g17c, g17d⟩ := id (hG 17 (by omega))
  have g17a : σ (ad 69) = some (cl0 (ad 70) (ad 71) (gr 17) (G 17).1) := g17a
  have g17b : σ (ad 70) = some (eJ K 121 (G 17).2.1) := g17b
  have g17c : σ (ad 71) = some (eJ K 121 (G 17).2.2.1) := g17c
  obtain ⟨k, o', a, y', hr, hs, hy9, hval, hsame⟩ := group_agr hGR (xs (nI i + 1).toNatClampNeg) (xs (nI i + 2).toNatClampNeg) y o
  have hv9 : k = 0 → o' (0 : Int32).toNatClampNeg = a := fun z => hval z
  refine lv_aload_n hx hb dL_law_525 rfl (lv_at hl 1 rfl) ?_
  refine lv_aload_n hx hb dL_law_526 rfl (lv_at hl 0 rfl) ?_
  refine lv_iload hx hb dL_law_527 (lv_at hl 4 rfl) ?_
  refine lv_iconst (v := 1) hx hb dL_law_529 (by decide) ?_
  refine lv_iadd hx hb dL_law_530 ?_
  refine va_sld hx hb hxs hbl hbA hS hi1 dL_law_531 ?_
  refine lv_aload_n hx hb dL_law_532 rfl (lv_at hl 0 rfl) ?_
  refine lv_iload hx hb dL_law_533 (lv_at hl 4 rfl) ?_
  refine lv_iconst (v := 2) hx hb dL_law_535 (by decide) ?_
  refine lv_iadd hx hb dL_law_536 ?_
  refine va_sld hx hb hxs hbl hbA hS hi2 dL_law_537 ?_
  refine lv_aload_n hx hb dL_law_538 rfl (lv_at hl 3 rfl) ?_
  refine mw_wi (mw_runSW (As := [.ref (ad 0), .int (xs (nI i + 1).toNatClampNeg), .int (xs (nI i + 2).toNatClampNeg), .ref (ad 7)]) (rest := []) hC hX hM hS (c_L_group (hc_p0 := hB.1) (hc_p3 := hB.2.2.2.2.2.2.2) (hc_p0_now := g14a) (hc_p0_now_grid := g14d) (hlt := hlt) (h := hr)) gL_law_L_group rfl rfl rfl q_L_group ⟨Nat.le_of_ble_eq_true rfl, Nat.le_of_ble_eq_true rfl⟩ rfl rfl (Nat.le_of_ble_eq_true rfl) hl.1 dL_law_539 ⟨hcc, hss⟩) hS (fun r9 H locs σ1 hp hM1 hS => ?_)
  obtain ⟨hr9, hq0, ho⟩ := hp
  replace hr9 : k = r9 := hr9.symm
  subst hr9
  have hk1 : KE ad [7] σ σ1 := fun q f hq hn => ho q f hq (hn _ (List.Mem.head _))
  have hB1 : BW K ad (nI len) ch (nI mo, nI ma) rg S0 S1 o' σ1 := ⟨hk1.at hin (by omega) (by intro t ht; simp only [List.mem_cons, List.not_mem_nil, or_false] at ht; omega) hB.1, hk1.at hin (by omega) (by intro t ht; simp only [List.mem_cons, List.not_mem_nil, or_false] at ht; omega) hB.2.1, hk1.at hin (by omega) (by intro t ht; simp only [List.mem_cons, List.not_mem_nil, or_false] at ht; omega) hB.2.2.1, hk1.at hin (by omega) (by intro t ht; simp only [List.mem_cons, List.not_mem_nil, or_false] at ht; omega) hB.2.2.2.1, hk1.at hin (by omega) (by intro t ht; simp only [List.mem_cons, List.not_mem_nil, or_false] at ht; omega) hB.2.2.2.2.1, hk1.at hin (by omega) (by intro t ht; simp only [List.mem_cons, List.not_mem_nil, or_false] at ht; omega) hB.2.2.2.2.2.1, hk1.at hin (by omega) (by intro t ht; simp only [List.mem_cons, List.not_mem_nil, or_false] at ht; omega) hB.2.2.2.2.2.2.1, hq0⟩
  have hG1 := GA_keep hk1 hin hD (by intro t ht; simp only [List.mem_cons, List.not_mem_nil, or_false] at ht; omega) hG
  have hD1 := hD
  have hR1 := RW_keep hk1 hin (by intro t ht; simp only [List.mem_cons, List.not_mem_nil, or_false] at ht; omega) hR
  refine lv_istore (lv' := [(5, .int k), (0, .ref b), (1, .ref (ad 0)), (2, .ref (ad 8)), (3, .ref (ad 7)), (4, .int (nI i))]) hx hb dL_law_542 hl (by decide) rfl (fun ls hl => ?_)
  refine lv_aload_n hx hb dL_law_544 rfl (lv_at hl 3 rfl) ?_
  refine lv_aload_n hx hb dL_law_545 rfl (lv_at hl 1 rfl) ?_
  refine lv_iload hx hb dL_law_546 (lv_at hl 5 rfl) ?_
  refine lv_iconst (v := 1) hx hb dL_law_548 (by decide) ?_
  refine lv_iadd hx hb dL_law_549 ?_
  refine va_sld hx hb hxs hbl hbA hS hi1 dL_law_550 ?_
  refine lv_aload_n hx hb dL_law_551 rfl (lv_at hl 1 rfl) ?_
  refine lv_iload hx hb dL_law_552 (lv_at hl 5 rfl) ?_
  refine lv_iconst (v := 2) hx hb dL_law_554 (by decide) ?_
  refine lv_iadd hx hb dL_law_555 ?_
  refine va_sld hx hb hxs hbl hbA hS hi2 dL_law_556 ?_
  refine mw_wl (mw_runV (As := [.int (xs (nI i + 1).toNatClampNeg), .int (xs (nI i + 2).toNatClampNeg)]) (rest := []) (ci := 6) (C := RX8) (T := TX8) (N := 19) hC hM1 hS hR1.1 rfl (c_X8_group (hc_t := hR1.1) (hc_t_now := hR1.2.2.1) (n_t_t_now := inj_ne hin (by omega) (by omega) (by omega)) (h := hs)) gL_law_X8_group rfl rfl rfl rfl q_X8_group ⟨Nat.le_of_ble_eq_true rfl, Nat.le_of_ble_eq_true rfl⟩ rfl rfl (Nat.le_of_ble_eq_true rfl) hl.1 dL_law_557 ⟨hcc, hss⟩) hS (fun r8 H locs σ2 hp hM2 hS => ?_)
  obtain ⟨hr8, hm0, ho2⟩ := hp
  replace hr8 : a = r8 := hr8.symm
  subst hr8
  have hk2 : KE ad [8] σ1 σ2 := fun q f hq hn => ho2 q f hq (hn _ (List.Mem.head _))
  have hR2 : RW K ad y' tx fn ft fd fk fik fo fc fl σ2 := ⟨hm0, hk2.at hin (by omega) (by intro t ht; simp only [List.mem_cons, List.not_mem_nil, or_false] at ht; omega) hR1.2.1, hk2.at hin (by omega) (by intro t ht; simp only [List.mem_cons, List.not_mem_nil, or_false] at ht; omega) hR1.2.2.1, hk2.at hin (by omega) (by intro t ht; simp only [List.mem_cons, List.not_mem_nil, or_false] at ht; omega) hR1.2.2.2.1, hk2.at hin (by omega) (by intro t ht; simp only [List.mem_cons, List.not_mem_nil, or_false] at ht; omega) hR1.2.2.2.2.1, hk2.at hin (by omega) (by intro t ht; simp only [List.mem_cons, List.not_mem_nil, or_false] at ht; omega) hR1.2.2.2.2.2.1, hk2.at hin (by omega) (by intro t ht; simp only [List.mem_cons, List.not_mem_nil, or_false] at ht; omega) hR1.2.2.2.2.2.2.1, hk2.at hin (by omega) (by intro t ht; simp only [List.mem_cons, List.not_mem_nil, or_false] at ht; omega) hR1.2.2.2.2.2.2.2.1, hk2.at hin (by omega) (by intro t ht; simp only [List.mem_cons, List.not_mem_nil, or_false] at ht; omega) hR1.2.2.2.2.2.2.2.2.1, hk2.at hin (by omega) (by intro t ht; simp only [List.mem_cons, List.not_mem_nil, or_false] at ht; omega) hR1.2.2.2.2.2.2.2.2.2⟩
  have hB2 := BW_keep hk2 hin (by intro t ht; simp only [List.mem_cons, List.not_mem_nil, or_false] at ht; omega) hB1
  have hG2 := GA_keep hk2 hin hD1 (by intro t ht; simp only [List.mem_cons, List.not_mem_nil, or_false] at ht; omega) hG1
  have hP2 := PR_y hP hsame
  have hREL : REL K ad σ2 := ⟨_, _, _, _, _, _, _, _, _, _, _, _, _, _, _, _, _, _, _, hB2, hG2, hD1, hR2, hP2⟩
  refine lv_lstore (lv' := [(6, .long a), (5, .int k), (0, .ref b), (1, .ref (ad 0)), (2, .ref (ad 8)), (3, .ref (ad 7)), (4, .int (nI i))]) hx hb dL_law_560 hl (by decide) rfl (fun ls hl => ?_)
  refine lv_aload_n hx hb dL_law_562 rfl (lv_at hl 4 rfl) ?_
  refine mw_ci (v := y'.1) (mw_runV (As := []) (rest := []) (ci := 6) (C := RX8) (T := TX8) (N := 19) hC hM2 hS hR2.1 rfl (c_X8_thrown (hc_t := hR2.1) (h := rfl)) gL_law_X8_thrown rfl rfl rfl rfl q_X8_thrown ⟨Nat.le_of_ble_eq_true rfl, Nat.le_of_ble_eq_true rfl⟩ rfl rfl (Nat.le_of_ble_eq_true rfl) hl.1 dL_law_563 ⟨hcc, hss⟩) ?_
  refine lv_iload hx hb dL_law_566 (lv_at hl 1 rfl) ?_
  have fin : W p l e room_1 s m #[Value.ref b] below meth c H locs (cells + 1) (slots + 6) Q (F0 m 1447 ls []) := kk H locs σ2 ls hM2 hS hREL (lv_sub hl [2, 3, 4, 5, 6] rfl)
  refine lv_icmp_eq (tgt := 573) hx hb dL_law_568 (by decide) (fun c9 => ?_) (fun c9 => absurd hy9 c9)
  refine lv_iload hx hb dL_law_573 (lv_at hl 1 rfl) ?_
  refine lv_if_ne (tgt := 589) hx hb dL_law_575 (by decide) (fun c8 => ?_) (fun c8 => ?_)
  · exact lv_goto (tgt := 1447) hx hb dL_law_589 (by decide) fin
  · refine lv_aload_n hx hb dL_law_578 rfl (lv_at hl 5 rfl) ?_
    refine lv_iconst (v := 0) hx hb dL_law_579 (by decide) ?_
    refine mw_ldJ hC hM2 hB2.2.2.2.2.2.2.2 (i := 0) vp_in_01 dL_law_580 ?_
    refine lv_lload hx hb dL_law_581 (lv_at hl 0 rfl) ?_
    refine W.lcmp hx hb dL_law_583 ?_
    exact lv_if_eq (tgt := 589) hx hb dL_law_584 (by decide) (fun _ => lv_goto (tgt := 1447) hx hb dL_law_589 (by decide) fin) (fun c9 => absurd ((lg_cmp_eq _ _).mpr (hv9 c8)) c9)
set_option maxHeartbeats 4000000 in
set_option maxRecDepth 100000 in
theorem lwc_9 {p : Program} {l : Launch} {e : Env} {s : State} {m : MethodId} {below : List Frame} {meth : Method} {c : Code} {D : va_G} {K : Nat → ClassId} {H : Heap} {locs : List Loc} {cells slots b L i : Nat} {xs : Nat → Int32} {Q : State → Prop} {σ : mwm} {ad : Nat → Nat} {ls : Array Slot} (hC : CF p m c cL_law 8 s #[Value.ref b] wsL_law RL s.heap.size D K) (hX : SX s.heap.size s) (hlt : l.stackTraces = false) (hk162 : (Cond.constantLong RL 162 4294967295).before #[Value.ref b] s = true) (hxs : va_X b L xs s s.heap) (hbl : b < s.heap.size) (hin : inj72 ad) (hR0 : REL K ad σ) (hM : MW s.heap.size D σ H) (hS : va_S (zA s.heap.size) s.heap H locs) (hl : lv_has ls 8 [(0, .ref b), (1, .ref (ad 0)), (2, .ref (ad 8)), (3, .ref (ad 7)), (4, .int (nI i))]) (hi : i + 4 ≤ L) (hL : L ≤ 2048) (hcc : cells + 1 ≤ 601024) (hss : slots + 6 ≤ 7293034) (kk : ∀ (H1 : Heap) (locs1 : List Loc) (σ1 : mwm) (ls1 : Array Slot), MW s.heap.size D σ1 H1 → va_S (zA s.heap.size) s.heap H1 locs1 → REL K ad σ1 → lv_has ls1 8 [(0, .ref b), (1, .ref (ad 0)), (2, .ref (ad 8)), (3, .ref (ad 7)), (4, .int (nI i))] → W p l e room_1 s m #[Value.ref b] below meth c H1 locs1 (cells + 1) (slots + 6) Q (F0 m 1447 ls1 [])) : W p l e room_1 s m #[Value.ref b] below meth c H locs cells slots Q (F0 m 592 ls []) := by
  have hx := hC.1.1
  have hb := hC.1.2.1
  have hown := hC.1.2.2.2.1
  have hbA : ¬ zA s.heap.size b := Nat.not_le.mpr hbl
  have hi1 : vp_in (nI i + 1) L := by rw [show nI i + 1 = nI (i + 1) from nI_add i 1]; exact vp_in_nI (by omega) (by omega)
  have hi2 : vp_in (nI i + 2) L := by rw [show nI i + 2 = nI (i + 2) from nI_add i 2]; exact vp_in_nI (by omega) (by omega)
  have hi3 : vp_in (nI i + 3) L := by rw [show nI i + 3 = nI (i + 3) from nI_add i 3]; exact vp_in_nI (by omega) (by omega)
  obtain ⟨gr, G, wt, ch, mem, rg, S0, S1, o, y, tx, fn, ft, fd, fk, fik, fo, fc, fl, hB, hG, hD, hR, hP⟩ := hR0
  obtain ⟨len, cd, mo, ma, e1, e2, e3, e4, e5, e6, e7, e8, e9, e10⟩ := id hP
  subst e1
  subst e4
  obtain ⟨n, rule, mv, ps, pr, c0, c1, hGR⟩ := id e10
  obtain ⟨g14a, g14b, g14c, g14d⟩ := id (hG 14 (by omega))
  have g14a : σ (ad 60) = some (cl0 (ad 61) (ad 62) (gr 14) (G 14).1) := g14a
  have g14b : σ (ad 61) = some (eJ K 121 (G 14).2.1) := g14b
  have g14c : σ (ad 62) = some (eJ K 121 (G 14).2.2.1) := g14c
  obtain ⟨g15a, g15b, g15c, g15d⟩ := id (hG 15 (by omega))
  have g15a : σ (ad 63) = some (cl0 (ad 64) (ad 65) (gr 15) (G 15).1) := g15a
  have g15b : σ (ad 64) = some (eJ K 121 (G 15).2.1) := g15b
  have g15c : σ (ad 65) = some (eJ K 121 (G 15).2.2.1) := g15c
  obtain ⟨g16a, g16b, g16c, g16d⟩ := id (hG 16 (by omega))
  have g16a : σ (ad 66) = some (cl0 (ad 67) (ad 68) (gr 16) (G 16).1) := g16a
  have g16b : σ (ad 67) = some (eJ K 121 (G 16).2.1) := g16b
  have g16c : σ (ad 68) = some (eJ K 121 (G 16).2.2.1) := g16c
  obtain ⟨g17a, g17b, g17c, g17d⟩ := id (hG 17 (by omega))
  have g17a : σ (ad 69) = some (cl0 (ad 70) (ad 71) (gr 17) (G 17).1) := g17a
  have g17b : σ (ad 70) = some (eJ K 121 (G 17).2.1) := g17b
  have g17c : σ (ad 71) = some (eJ K 121 (G 17).2.2.1) := g17c
  obtain ⟨k, o', a, y', hr, hs, hy9, hval, hsame⟩ := why_agr hGR (xs (nI i + 1).toNatClampNeg) y o
  have hv9 : k = 0 → o' (0 : Int32).toNatClampNeg = a.toInt64 := fun z => hval z
  refine lv_aload_n hx hb dL_law_592 rfl (lv_at hl 1 rfl) ?_
  refine lv_aload_n hx hb dL_law_593 rfl (lv_at hl 0 rfl) ?_
  refine lv_iload hx hb dL_law_594 (lv_at hl 4 rfl) ?_
  refine lv_iconst (v := 1) hx hb dL_law_596 (by decide) ?_
  refine lv_iadd hx hb dL_law_597 ?_
  refine va_sld hx hb hxs hbl hbA hS hi1 dL_law_598 ?_
  refine lv_aload_n hx hb dL_law_599 rfl (lv_at hl 3 rfl) ?_
  refine mw_wi (mw_runSW (As := [.ref (ad 0), .int (xs (nI i + 1).toNatClampNeg), .ref (ad 7)]) (rest := []) hC hX hM hS (c_L_why (hc_p0 := hB.1) (hc_p2 := hB.2.2.2.2.2.2.2) (hc_p0_now := g14a) (hc_p0_now_before0 := g14b) (hc_p0_now_before1 := g14c) (hc_p0_now_grid := g14d) (hlt := hlt) (h := hr)) gL_law_L_why rfl rfl rfl q_L_why ⟨Nat.le_of_ble_eq_true rfl, Nat.le_of_ble_eq_true rfl⟩ rfl rfl (Nat.le_of_ble_eq_true rfl) hl.1 dL_law_600 ⟨hcc, hss⟩) hS (fun r9 H locs σ1 hp hM1 hS => ?_)
  obtain ⟨hr9, hq0, ho⟩ := hp
  replace hr9 : k = r9 := hr9.symm
  subst hr9
  have hk1 : KE ad [7] σ σ1 := fun q f hq hn => ho q f hq (hn _ (List.Mem.head _))
  have hB1 : BW K ad (nI len) ch (nI mo, nI ma) rg S0 S1 o' σ1 := ⟨hk1.at hin (by omega) (by intro t ht; simp only [List.mem_cons, List.not_mem_nil, or_false] at ht; omega) hB.1, hk1.at hin (by omega) (by intro t ht; simp only [List.mem_cons, List.not_mem_nil, or_false] at ht; omega) hB.2.1, hk1.at hin (by omega) (by intro t ht; simp only [List.mem_cons, List.not_mem_nil, or_false] at ht; omega) hB.2.2.1, hk1.at hin (by omega) (by intro t ht; simp only [List.mem_cons, List.not_mem_nil, or_false] at ht; omega) hB.2.2.2.1, hk1.at hin (by omega) (by intro t ht; simp only [List.mem_cons, List.not_mem_nil, or_false] at ht; omega) hB.2.2.2.2.1, hk1.at hin (by omega) (by intro t ht; simp only [List.mem_cons, List.not_mem_nil, or_false] at ht; omega) hB.2.2.2.2.2.1, hk1.at hin (by omega) (by intro t ht; simp only [List.mem_cons, List.not_mem_nil, or_false] at ht; omega) hB.2.2.2.2.2.2.1, hq0⟩
  have hG1 := GA_keep hk1 hin hD (by intro t ht; simp only [List.mem_cons, List.not_mem_nil, or_false] at ht; omega) hG
  have hD1 := hD
  have hR1 := RW_keep hk1 hin (by intro t ht; simp only [List.mem_cons, List.not_mem_nil, or_false] at ht; omega) hR
  refine lv_istore (lv' := [(5, .int k), (0, .ref b), (1, .ref (ad 0)), (2, .ref (ad 8)), (3, .ref (ad 7)), (4, .int (nI i))]) hx hb dL_law_603 hl (by decide) rfl (fun ls hl => ?_)
  refine lv_aload_n hx hb dL_law_605 rfl (lv_at hl 3 rfl) ?_
  refine lv_aload_n hx hb dL_law_606 rfl (lv_at hl 1 rfl) ?_
  refine lv_iload hx hb dL_law_607 (lv_at hl 5 rfl) ?_
  refine lv_iconst (v := 1) hx hb dL_law_609 (by decide) ?_
  refine lv_iadd hx hb dL_law_610 ?_
  refine va_sld hx hb hxs hbl hbA hS hi1 dL_law_611 ?_
  refine mw_wi (mw_runV (As := [.int (xs (nI i + 1).toNatClampNeg)]) (rest := []) (ci := 6) (C := RX8) (T := TX8) (N := 19) hC hM1 hS hR1.1 rfl (c_X8_why (hc_t := hR1.1) (hc_t_now := hR1.2.2.1) (n_t_t_now := inj_ne hin (by omega) (by omega) (by omega)) (h := hs)) gL_law_X8_why rfl rfl rfl rfl q_X8_why ⟨Nat.le_of_ble_eq_true rfl, Nat.le_of_ble_eq_true rfl⟩ rfl rfl (Nat.le_of_ble_eq_true rfl) hl.1 dL_law_612 ⟨hcc, hss⟩) hS (fun r8 H locs σ2 hp hM2 hS => ?_)
  obtain ⟨hr8, hm0, ho2⟩ := hp
  replace hr8 : a = r8 := hr8.symm
  subst hr8
  have hk2 : KE ad [8] σ1 σ2 := fun q f hq hn => ho2 q f hq (hn _ (List.Mem.head _))
  have hR2 : RW K ad y' tx fn ft fd fk fik fo fc fl σ2 := ⟨hm0, hk2.at hin (by omega) (by intro t ht; simp only [List.mem_cons, List.not_mem_nil, or_false] at ht; omega) hR1.2.1, hk2.at hin (by omega) (by intro t ht; simp only [List.mem_cons, List.not_mem_nil, or_false] at ht; omega) hR1.2.2.1, hk2.at hin (by omega) (by intro t ht; simp only [List.mem_cons, List.not_mem_nil, or_false] at ht; omega) hR1.2.2.2.1, hk2.at hin (by omega) (by intro t ht; simp only [List.mem_cons, List.not_mem_nil, or_false] at ht; omega) hR1.2.2.2.2.1, hk2.at hin (by omega) (by intro t ht; simp only [List.mem_cons, List.not_mem_nil, or_false] at ht; omega) hR1.2.2.2.2.2.1, hk2.at hin (by omega) (by intro t ht; simp only [List.mem_cons, List.not_mem_nil, or_false] at ht; omega) hR1.2.2.2.2.2.2.1, hk2.at hin (by omega) (by intro t ht; simp only [List.mem_cons, List.not_mem_nil, or_false] at ht; omega) hR1.2.2.2.2.2.2.2.1, hk2.at hin (by omega) (by intro t ht; simp only [List.mem_cons, List.not_mem_nil, or_false] at ht; omega) hR1.2.2.2.2.2.2.2.2.1, hk2.at hin (by omega) (by intro t ht; simp only [List.mem_cons, List.not_mem_nil, or_false] at ht; omega) hR1.2.2.2.2.2.2.2.2.2⟩
  have hB2 := BW_keep hk2 hin (by intro t ht; simp only [List.mem_cons, List.not_mem_nil, or_false] at ht; omega) hB1
  have hG2 := GA_keep hk2 hin hD1 (by intro t ht; simp only [List.mem_cons, List.not_mem_nil, or_false] at ht; omega) hG1
  have hP2 := PR_y hP hsame
  have hREL : REL K ad σ2 := ⟨_, _, _, _, _, _, _, _, _, _, _, _, _, _, _, _, _, _, _, hB2, hG2, hD1, hR2, hP2⟩
  refine lv_istore (lv' := [(6, .int a), (5, .int k), (0, .ref b), (1, .ref (ad 0)), (2, .ref (ad 8)), (3, .ref (ad 7)), (4, .int (nI i))]) hx hb dL_law_615 hl (by decide) rfl (fun ls hl => ?_)
  refine lv_aload_n hx hb dL_law_617 rfl (lv_at hl 4 rfl) ?_
  refine mw_ci (v := y'.1) (mw_runV (As := []) (rest := []) (ci := 6) (C := RX8) (T := TX8) (N := 19) hC hM2 hS hR2.1 rfl (c_X8_thrown (hc_t := hR2.1) (h := rfl)) gL_law_X8_thrown rfl rfl rfl rfl q_X8_thrown ⟨Nat.le_of_ble_eq_true rfl, Nat.le_of_ble_eq_true rfl⟩ rfl rfl (Nat.le_of_ble_eq_true rfl) hl.1 dL_law_618 ⟨hcc, hss⟩) ?_
  refine lv_iload hx hb dL_law_621 (lv_at hl 1 rfl) ?_
  have fin : W p l e room_1 s m #[Value.ref b] below meth c H locs (cells + 1) (slots + 6) Q (F0 m 1447 ls []) := kk H locs σ2 ls hM2 hS hREL (lv_sub hl [2, 3, 4, 5, 6] rfl)
  refine lv_icmp_eq (tgt := 628) hx hb dL_law_623 (by decide) (fun c9 => ?_) (fun c9 => absurd hy9 c9)
  refine lv_iload hx hb dL_law_628 (lv_at hl 1 rfl) ?_
  refine lv_if_ne (tgt := 645) hx hb dL_law_630 (by decide) (fun c8 => ?_) (fun c8 => ?_)
  · exact lv_goto (tgt := 1447) hx hb dL_law_645 (by decide) fin
  · refine lv_aload_n hx hb dL_law_633 rfl (lv_at hl 5 rfl) ?_
    refine lv_iconst (v := 0) hx hb dL_law_634 (by decide) ?_
    refine mw_ldJ hC hM2 hB2.2.2.2.2.2.2.2 (i := 0) vp_in_01 dL_law_635 ?_
    refine lv_iload hx hb dL_law_636 (lv_at hl 0 rfl) ?_
    refine lv_i2l (v := (a).toInt64) hx hb dL_law_638 rfl ?_
    refine W.lcmp hx hb dL_law_639 ?_
    exact lv_if_eq (tgt := 645) hx hb dL_law_640 (by decide) (fun _ => lv_goto (tgt := 1447) hx hb dL_law_645 (by decide) fin) (fun c9 => absurd ((lg_cmp_eq _ _).mpr (hv9 c8)) c9)
set_option maxHeartbeats 4000000 in
set_option maxRecDepth 100000 in
theorem lwc_15 {p : Program} {l : Launch} {e : Env} {s : State} {m : MethodId} {below : List Frame} {meth : Method} {c : Code} {D : va_G} {K : Nat → ClassId} {H : Heap} {locs : List Loc} {cells slots b L i : Nat} {xs : Nat → Int32} {Q : State → Prop} {σ : mwm} {ad : Nat → Nat} {ls : Array Slot} (hC : CF p m c cL_law 8 s #[Value.ref b] wsL_law RL s.heap.size D K) (hX : SX s.heap.size s) (hlt : l.stackTraces = false) (hk162 : (Cond.constantLong RL 162 4294967295).before #[Value.ref b] s = true) (hxs : va_X b L xs s s.heap) (hbl : b < s.heap.size) (hin : inj72 ad) (hR0 : REL K ad σ) (hM : MW s.heap.size D σ H) (hS : va_S (zA s.heap.size) s.heap H locs) (hl : lv_has ls 8 [(0, .ref b), (1, .ref (ad 0)), (2, .ref (ad 8)), (3, .ref (ad 7)), (4, .int (nI i))]) (hi : i + 4 ≤ L) (hL : L ≤ 2048) (hcc : cells + 1 ≤ 601024) (hss : slots + 6 ≤ 7293034) (kk : ∀ (H1 : Heap) (locs1 : List Loc) (σ1 : mwm) (ls1 : Array Slot), MW s.heap.size D σ1 H1 → va_S (zA s.heap.size) s.heap H1 locs1 → REL K ad σ1 → lv_has ls1 8 [(0, .ref b), (1, .ref (ad 0)), (2, .ref (ad 8)), (3, .ref (ad 7)), (4, .int (nI i))] → W p l e room_1 s m #[Value.ref b] below meth c H1 locs1 (cells + 1) (slots + 6) Q (F0 m 1447 ls1 [])) : W p l e room_1 s m #[Value.ref b] below meth c H locs cells slots Q (F0 m 904 ls []) := by
  have hx := hC.1.1
  have hb := hC.1.2.1
  have hown := hC.1.2.2.2.1
  have hbA : ¬ zA s.heap.size b := Nat.not_le.mpr hbl
  have hi1 : vp_in (nI i + 1) L := by rw [show nI i + 1 = nI (i + 1) from nI_add i 1]; exact vp_in_nI (by omega) (by omega)
  have hi2 : vp_in (nI i + 2) L := by rw [show nI i + 2 = nI (i + 2) from nI_add i 2]; exact vp_in_nI (by omega) (by omega)
  have hi3 : vp_in (nI i + 3) L := by rw [show nI i + 3 = nI (i + 3) from nI_add i 3]; exact vp_in_nI (by omega) (by omega)
  obtain ⟨gr, G, wt, ch, mem, rg, S0, S1, o, y, tx, fn, ft, fd, fk, fik, fo, fc, fl, hB, hG, hD, hR, hP⟩ := hR0
  obtain ⟨len, cd, mo, ma, e1, e2, e3, e4, e5, e6, e7, e8, e9, e10⟩ := id hP
  subst e1
  subst e4
  obtain ⟨n, rule, mv, ps, pr, c0, c1, hGR⟩ := id e10
  obtain ⟨g14a, g14b, g14c, g14d⟩ := id (hG 14 (by omega))
  have g14a : σ (ad 60) = some (cl0 (ad 61) (ad 62) (gr 14) (G 14).1) := g14a
  have g14b : σ (ad 61) = some (eJ K 121 (G 14).2.1) := g14b
  have g14c : σ (ad 62) = some (eJ K 121 (G 14).2.2.1) := g14c
  obtain ⟨g15a, g15b, g15c, g15d⟩ := id (hG 15 (by omega))
  have g15a : σ (ad 63) = some (cl0 (ad 64) (ad 65) (gr 15) (G 15).1) := g15a
  have g15b : σ (ad 64) = some (eJ K 121 (G 15).2.1) := g15b
  have g15c : σ (ad 65) = some (eJ K 121 (G 15).2.2.1) := g15c
  obtain ⟨g16a, g16b, g16c, g16d⟩ := id (hG 16 (by omega))
  have g16a : σ (ad 66) = some (cl0 (ad 67) (ad 68) (gr 16) (G 16).1) := g16a
  have g16b : σ (ad 67) = some (eJ K 121 (G 16).2.1) := g16b
  have g16c : σ (ad 68) = some (eJ K 121 (G 16).2.2.1) := g16c
  obtain ⟨g17a, g17b, g17c, g17d⟩ := id (hG 17 (by omega))
  have g17a : σ (ad 69) = some (cl0 (ad 70) (ad 71) (gr 17) (G 17).1) := g17a
  have g17b : σ (ad 70) = some (eJ K 121 (G 17).2.1) := g17b
  have g17c : σ (ad 71) = some (eJ K 121 (G 17).2.2.1) := g17c
  obtain ⟨k, o', a, y', hr, hs, hy9, hval, hsame⟩ := ifPlayed_agr hGR (xs (nI i + 1).toNatClampNeg) (xs (nI i + 2).toNatClampNeg) y o
  have hv9 : k = 0 → o' (0 : Int32).toNatClampNeg = a.toInt64 := fun z => hval z
  refine lv_aload_n hx hb dL_law_904 rfl (lv_at hl 1 rfl) ?_
  refine lv_aload_n hx hb dL_law_905 rfl (lv_at hl 0 rfl) ?_
  refine lv_iload hx hb dL_law_906 (lv_at hl 4 rfl) ?_
  refine lv_iconst (v := 1) hx hb dL_law_908 (by decide) ?_
  refine lv_iadd hx hb dL_law_909 ?_
  refine va_sld hx hb hxs hbl hbA hS hi1 dL_law_910 ?_
  refine lv_aload_n hx hb dL_law_911 rfl (lv_at hl 0 rfl) ?_
  refine lv_iload hx hb dL_law_912 (lv_at hl 4 rfl) ?_
  refine lv_iconst (v := 2) hx hb dL_law_914 (by decide) ?_
  refine lv_iadd hx hb dL_law_915 ?_
  refine va_sld hx hb hxs hbl hbA hS hi2 dL_law_916 ?_
  refine lv_aload_n hx hb dL_law_917 rfl (lv_at hl 3 rfl) ?_
  refine mw_wi (mw_runSW (As := [.ref (ad 0), .int (xs (nI i + 1).toNatClampNeg), .int (xs (nI i + 2).toNatClampNeg), .ref (ad 7)]) (rest := []) hC hX hM hS (c_L_ifPlayed (hc_p0 := hB.1) (hc_p3 := hB.2.2.2.2.2.2.2) (hc_p0_now := g14a) (hc_p0_now_before0 := g14b) (hc_p0_now_before1 := g14c) (hc_p0_now_grid := g14d) (hlt := hlt) (h := hr)) gL_law_L_ifPlayed rfl rfl rfl q_L_ifPlayed ⟨Nat.le_of_ble_eq_true rfl, Nat.le_of_ble_eq_true rfl⟩ rfl rfl (Nat.le_of_ble_eq_true rfl) hl.1 dL_law_918 ⟨hcc, hss⟩) hS (fun r9 H locs σ1 hp hM1 hS => ?_)
  obtain ⟨hr9, hq0, ho⟩ := hp
  replace hr9 : k = r9 := hr9.symm
  subst hr9
  have hk1 : KE ad [7] σ σ1 := fun q f hq hn => ho q f hq (hn _ (List.Mem.head _))
  have hB1 : BW K ad (nI len) ch (nI mo, nI ma) rg S0 S1 o' σ1 := ⟨hk1.at hin (by omega) (by intro t ht; simp only [List.mem_cons, List.not_mem_nil, or_false] at ht; omega) hB.1, hk1.at hin (by omega) (by intro t ht; simp only [List.mem_cons, List.not_mem_nil, or_false] at ht; omega) hB.2.1, hk1.at hin (by omega) (by intro t ht; simp only [List.mem_cons, List.not_mem_nil, or_false] at ht; omega) hB.2.2.1, hk1.at hin (by omega) (by intro t ht; simp only [List.mem_cons, List.not_mem_nil, or_false] at ht; omega) hB.2.2.2.1, hk1.at hin (by omega) (by intro t ht; simp only [List.mem_cons, List.not_mem_nil, or_false] at ht; omega) hB.2.2.2.2.1, hk1.at hin (by omega) (by intro t ht; simp only [List.mem_cons, List.not_mem_nil, or_false] at ht; omega) hB.2.2.2.2.2.1, hk1.at hin (by omega) (by intro t ht; simp only [List.mem_cons, List.not_mem_nil, or_false] at ht; omega) hB.2.2.2.2.2.2.1, hq0⟩
  have hG1 := GA_keep hk1 hin hD (by intro t ht; simp only [List.mem_cons, List.not_mem_nil, or_false] at ht; omega) hG
  have hD1 := hD
  have hR1 := RW_keep hk1 hin (by intro t ht; simp only [List.mem_cons, List.not_mem_nil, or_false] at ht; omega) hR
  refine lv_istore (lv' := [(5, .int k), (0, .ref b), (1, .ref (ad 0)), (2, .ref (ad 8)), (3, .ref (ad 7)), (4, .int (nI i))]) hx hb dL_law_921 hl (by decide) rfl (fun ls hl => ?_)
  refine lv_aload_n hx hb dL_law_923 rfl (lv_at hl 3 rfl) ?_
  refine lv_aload_n hx hb dL_law_924 rfl (lv_at hl 1 rfl) ?_
  refine lv_iload hx hb dL_law_925 (lv_at hl 5 rfl) ?_
  refine lv_iconst (v := 1) hx hb dL_law_927 (by decide) ?_
  refine lv_iadd hx hb dL_law_928 ?_
  refine va_sld hx hb hxs hbl hbA hS hi1 dL_law_929 ?_
  refine lv_aload_n hx hb dL_law_930 rfl (lv_at hl 1 rfl) ?_
  refine lv_iload hx hb dL_law_931 (lv_at hl 5 rfl) ?_
  refine lv_iconst (v := 2) hx hb dL_law_933 (by decide) ?_
  refine lv_iadd hx hb dL_law_934 ?_
  refine va_sld hx hb hxs hbl hbA hS hi2 dL_law_935 ?_
  refine mw_wi (mw_runV (As := [.int (xs (nI i + 1).toNatClampNeg), .int (xs (nI i + 2).toNatClampNeg)]) (rest := []) (ci := 6) (C := RX8) (T := TX8) (N := 19) hC hM1 hS hR1.1 rfl (c_X8_ifPlayed (hc_t := hR1.1) (hc_t_now := hR1.2.2.1) (n_t_t_now := inj_ne hin (by omega) (by omega) (by omega)) (h := hs)) gL_law_X8_ifPlayed rfl rfl rfl rfl q_X8_ifPlayed ⟨Nat.le_of_ble_eq_true rfl, Nat.le_of_ble_eq_true rfl⟩ rfl rfl (Nat.le_of_ble_eq_true rfl) hl.1 dL_law_936 ⟨hcc, hss⟩) hS (fun r8 H locs σ2 hp hM2 hS => ?_)
  obtain ⟨hr8, hm0, ho2⟩ := hp
  replace hr8 : a = r8 := hr8.symm
  subst hr8
  have hk2 : KE ad [8] σ1 σ2 := fun q f hq hn => ho2 q f hq (hn _ (List.Mem.head _))
  have hR2 : RW K ad y' tx fn ft fd fk fik fo fc fl σ2 := ⟨hm0, hk2.at hin (by omega) (by intro t ht; simp only [List.mem_cons, List.not_mem_nil, or_false] at ht; omega) hR1.2.1, hk2.at hin (by omega) (by intro t ht; simp only [List.mem_cons, List.not_mem_nil, or_false] at ht; omega) hR1.2.2.1, hk2.at hin (by omega) (by intro t ht; simp only [List.mem_cons, List.not_mem_nil, or_false] at ht; omega) hR1.2.2.2.1, hk2.at hin (by omega) (by intro t ht; simp only [List.mem_cons, List.not_mem_nil, or_false] at ht; omega) hR1.2.2.2.2.1, hk2.at hin (by omega) (by intro t ht; simp only [List.mem_cons, List.not_mem_nil, or_false] at ht; omega) hR1.2.2.2.2.2.1, hk2.at hin (by omega) (by intro t ht; simp only [List.mem_cons, List.not_mem_nil, or_false] at ht; omega) hR1.2.2.2.2.2.2.1, hk2.at hin (by omega) (by intro t ht; simp only [List.mem_cons, List.not_mem_nil, or_false] at ht; omega) hR1.2.2.2.2.2.2.2.1, hk2.at hin (by omega) (by intro t ht; simp only [List.mem_cons, List.not_mem_nil, or_false] at ht; omega) hR1.2.2.2.2.2.2.2.2.1, hk2.at hin (by omega) (by intro t ht; simp only [List.mem_cons, List.not_mem_nil, or_false] at ht; omega) hR1.2.2.2.2.2.2.2.2.2⟩
  have hB2 := BW_keep hk2 hin (by intro t ht; simp only [List.mem_cons, List.not_mem_nil, or_false] at ht; omega) hB1
  have hG2 := GA_keep hk2 hin hD1 (by intro t ht; simp only [List.mem_cons, List.not_mem_nil, or_false] at ht; omega) hG1
  have hP2 := PR_y hP hsame
  have hREL : REL K ad σ2 := ⟨_, _, _, _, _, _, _, _, _, _, _, _, _, _, _, _, _, _, _, hB2, hG2, hD1, hR2, hP2⟩
  refine lv_istore (lv' := [(6, .int a), (5, .int k), (0, .ref b), (1, .ref (ad 0)), (2, .ref (ad 8)), (3, .ref (ad 7)), (4, .int (nI i))]) hx hb dL_law_939 hl (by decide) rfl (fun ls hl => ?_)
  refine lv_aload_n hx hb dL_law_941 rfl (lv_at hl 4 rfl) ?_
  refine mw_ci (v := y'.1) (mw_runV (As := []) (rest := []) (ci := 6) (C := RX8) (T := TX8) (N := 19) hC hM2 hS hR2.1 rfl (c_X8_thrown (hc_t := hR2.1) (h := rfl)) gL_law_X8_thrown rfl rfl rfl rfl q_X8_thrown ⟨Nat.le_of_ble_eq_true rfl, Nat.le_of_ble_eq_true rfl⟩ rfl rfl (Nat.le_of_ble_eq_true rfl) hl.1 dL_law_942 ⟨hcc, hss⟩) ?_
  refine lv_iload hx hb dL_law_945 (lv_at hl 1 rfl) ?_
  have fin : W p l e room_1 s m #[Value.ref b] below meth c H locs (cells + 1) (slots + 6) Q (F0 m 1447 ls []) := kk H locs σ2 ls hM2 hS hREL (lv_sub hl [2, 3, 4, 5, 6] rfl)
  refine lv_icmp_eq (tgt := 952) hx hb dL_law_947 (by decide) (fun c9 => ?_) (fun c9 => absurd hy9 c9)
  refine lv_iload hx hb dL_law_952 (lv_at hl 1 rfl) ?_
  refine lv_if_ne (tgt := 969) hx hb dL_law_954 (by decide) (fun c8 => ?_) (fun c8 => ?_)
  · exact lv_goto (tgt := 1447) hx hb dL_law_969 (by decide) fin
  · refine lv_aload_n hx hb dL_law_957 rfl (lv_at hl 5 rfl) ?_
    refine lv_iconst (v := 0) hx hb dL_law_958 (by decide) ?_
    refine mw_ldJ hC hM2 hB2.2.2.2.2.2.2.2 (i := 0) vp_in_01 dL_law_959 ?_
    refine lv_iload hx hb dL_law_960 (lv_at hl 0 rfl) ?_
    refine lv_i2l (v := (a).toInt64) hx hb dL_law_962 rfl ?_
    refine W.lcmp hx hb dL_law_963 ?_
    exact lv_if_eq (tgt := 969) hx hb dL_law_964 (by decide) (fun _ => lv_goto (tgt := 1447) hx hb dL_law_969 (by decide) fin) (fun c9 => absurd ((lg_cmp_eq _ _).mpr (hv9 c8)) c9)
set_option maxHeartbeats 4000000 in
set_option maxRecDepth 100000 in
theorem lwc_18 {p : Program} {l : Launch} {e : Env} {s : State} {m : MethodId} {below : List Frame} {meth : Method} {c : Code} {D : va_G} {K : Nat → ClassId} {H : Heap} {locs : List Loc} {cells slots b L i : Nat} {xs : Nat → Int32} {Q : State → Prop} {σ : mwm} {ad : Nat → Nat} {ls : Array Slot} (hC : CF p m c cL_law 8 s #[Value.ref b] wsL_law RL s.heap.size D K) (hX : SX s.heap.size s) (hlt : l.stackTraces = false) (hk162 : (Cond.constantLong RL 162 4294967295).before #[Value.ref b] s = true) (hxs : va_X b L xs s s.heap) (hbl : b < s.heap.size) (hin : inj72 ad) (hR0 : REL K ad σ) (hM : MW s.heap.size D σ H) (hS : va_S (zA s.heap.size) s.heap H locs) (hl : lv_has ls 8 [(0, .ref b), (1, .ref (ad 0)), (2, .ref (ad 8)), (3, .ref (ad 7)), (4, .int (nI i))]) (hi : i + 4 ≤ L) (hL : L ≤ 2048) (hcc : cells + 1 ≤ 601024) (hss : slots + 6 ≤ 7293034) (kk : ∀ (H1 : Heap) (locs1 : List Loc) (σ1 : mwm) (ls1 : Array Slot), MW s.heap.size D σ1 H1 → va_S (zA s.heap.size) s.heap H1 locs1 → REL K ad σ1 → lv_has ls1 8 [(0, .ref b), (1, .ref (ad 0)), (2, .ref (ad 8)), (3, .ref (ad 7)), (4, .int (nI i))] → W p l e room_1 s m #[Value.ref b] below meth c H1 locs1 (cells + 1) (slots + 6) Q (F0 m 1447 ls1 [])) : W p l e room_1 s m #[Value.ref b] below meth c H locs cells slots Q (F0 m 998 ls []) := by
  have hx := hC.1.1
  have hb := hC.1.2.1
  have hown := hC.1.2.2.2.1
  have hbA : ¬ zA s.heap.size b := Nat.not_le.mpr hbl
  have hi1 : vp_in (nI i + 1) L := by rw [show nI i + 1 = nI (i + 1) from nI_add i 1]; exact vp_in_nI (by omega) (by omega)
  have hi2 : vp_in (nI i + 2) L := by rw [show nI i + 2 = nI (i + 2) from nI_add i 2]; exact vp_in_nI (by omega) (by omega)
  have hi3 : vp_in (nI i + 3) L := by rw [show nI i + 3 = nI (i + 3) from nI_add i 3]; exact vp_in_nI (by omega) (by omega)
  obtain ⟨gr, G, wt, ch, mem, rg, S0, S1, o, y, tx, fn, ft, fd, fk, fik, fo, fc, fl, hB, hG, hD, hR, hP⟩ := hR0
  obtain ⟨len, cd, mo, ma, e1, e2, e3, e4, e5, e6, e7, e8, e9, e10⟩ := id hP
  subst e1
  subst e4
  obtain ⟨n, rule, mv, ps, pr, c0, c1, hGR⟩ := id e10
  obtain ⟨g14a, g14b, g14c, g14d⟩ := id (hG 14 (by omega))
  have g14a : σ (ad 60) = some (cl0 (ad 61) (ad 62) (gr 14) (G 14).1) := g14a
  have g14b : σ (ad 61) = some (eJ K 121 (G 14).2.1) := g14b
  have g14c : σ (ad 62) = some (eJ K 121 (G 14).2.2.1) := g14c
  obtain ⟨g15a, g15b, g15c, g15d⟩ := id (hG 15 (by omega))
  have g15a : σ (ad 63) = some (cl0 (ad 64) (ad 65) (gr 15) (G 15).1) := g15a
  have g15b : σ (ad 64) = some (eJ K 121 (G 15).2.1) := g15b
  have g15c : σ (ad 65) = some (eJ K 121 (G 15).2.2.1) := g15c
  obtain ⟨g16a, g16b, g16c, g16d⟩ := id (hG 16 (by omega))
  have g16a : σ (ad 66) = some (cl0 (ad 67) (ad 68) (gr 16) (G 16).1) := g16a
  have g16b : σ (ad 67) = some (eJ K 121 (G 16).2.1) := g16b
  have g16c : σ (ad 68) = some (eJ K 121 (G 16).2.2.1) := g16c
  obtain ⟨g17a, g17b, g17c, g17d⟩ := id (hG 17 (by omega))
  have g17a : σ (ad 69) = some (cl0 (ad 70) (ad 71) (gr 17) (G 17).1) := g17a
  have g17b : σ (ad 70) = some (eJ K 121 (G 17).2.1) := g17b
  have g17c : σ (ad 71) = some (eJ K 121 (G 17).2.2.1) := g17c
  obtain ⟨k, o', a, y', fo', fc', fl', hr, hs, hy9, hval, hsame⟩ := ladder_agr hGR (xs (nI i + 1).toNatClampNeg) (xs (nI i + 2).toNatClampNeg) y o fo fc fl
  have hv9 : k = 0 → o' (0 : Int32).toNatClampNeg = a.toInt64 := fun z => hval z
  refine lv_aload_n hx hb dL_law_998 rfl (lv_at hl 1 rfl) ?_
  refine lv_aload_n hx hb dL_law_999 rfl (lv_at hl 0 rfl) ?_
  refine lv_iload hx hb dL_law_1000 (lv_at hl 4 rfl) ?_
  refine lv_iconst (v := 1) hx hb dL_law_1002 (by decide) ?_
  refine lv_iadd hx hb dL_law_1003 ?_
  refine va_sld hx hb hxs hbl hbA hS hi1 dL_law_1004 ?_
  refine lv_aload_n hx hb dL_law_1005 rfl (lv_at hl 0 rfl) ?_
  refine lv_iload hx hb dL_law_1006 (lv_at hl 4 rfl) ?_
  refine lv_iconst (v := 2) hx hb dL_law_1008 (by decide) ?_
  refine lv_iadd hx hb dL_law_1009 ?_
  refine va_sld hx hb hxs hbl hbA hS hi2 dL_law_1010 ?_
  refine lv_aload_n hx hb dL_law_1011 rfl (lv_at hl 3 rfl) ?_
  refine mw_wi (mw_runSW (As := [.ref (ad 0), .int (xs (nI i + 1).toNatClampNeg), .int (xs (nI i + 2).toNatClampNeg), .ref (ad 7)]) (rest := []) hC hX hM hS (c_L_ladder (hc_p0 := hB.1) (hc_p3 := hB.2.2.2.2.2.2.2) (hc_p0_now := g14a) (hc_p0_now_grid := g14d) (hlt := hlt) (h := hr)) gL_law_L_ladder rfl rfl rfl q_L_ladder ⟨Nat.le_of_ble_eq_true rfl, Nat.le_of_ble_eq_true rfl⟩ rfl rfl (Nat.le_of_ble_eq_true rfl) hl.1 dL_law_1012 ⟨hcc, hss⟩) hS (fun r9 H locs σ1 hp hM1 hS => ?_)
  obtain ⟨hr9, hq0, ho⟩ := hp
  replace hr9 : k = r9 := hr9.symm
  subst hr9
  have hk1 : KE ad [7] σ σ1 := fun q f hq hn => ho q f hq (hn _ (List.Mem.head _))
  have hB1 : BW K ad (nI len) ch (nI mo, nI ma) rg S0 S1 o' σ1 := ⟨hk1.at hin (by omega) (by intro t ht; simp only [List.mem_cons, List.not_mem_nil, or_false] at ht; omega) hB.1, hk1.at hin (by omega) (by intro t ht; simp only [List.mem_cons, List.not_mem_nil, or_false] at ht; omega) hB.2.1, hk1.at hin (by omega) (by intro t ht; simp only [List.mem_cons, List.not_mem_nil, or_false] at ht; omega) hB.2.2.1, hk1.at hin (by omega) (by intro t ht; simp only [List.mem_cons, List.not_mem_nil, or_false] at ht; omega) hB.2.2.2.1, hk1.at hin (by omega) (by intro t ht; simp only [List.mem_cons, List.not_mem_nil, or_false] at ht; omega) hB.2.2.2.2.1, hk1.at hin (by omega) (by intro t ht; simp only [List.mem_cons, List.not_mem_nil, or_false] at ht; omega) hB.2.2.2.2.2.1, hk1.at hin (by omega) (by intro t ht; simp only [List.mem_cons, List.not_mem_nil, or_false] at ht; omega) hB.2.2.2.2.2.2.1, hq0⟩
  have hG1 := GA_keep hk1 hin hD (by intro t ht; simp only [List.mem_cons, List.not_mem_nil, or_false] at ht; omega) hG
  have hD1 := hD
  have hR1 := RW_keep hk1 hin (by intro t ht; simp only [List.mem_cons, List.not_mem_nil, or_false] at ht; omega) hR
  refine lv_istore (lv' := [(5, .int k), (0, .ref b), (1, .ref (ad 0)), (2, .ref (ad 8)), (3, .ref (ad 7)), (4, .int (nI i))]) hx hb dL_law_1015 hl (by decide) rfl (fun ls hl => ?_)
  refine lv_aload_n hx hb dL_law_1017 rfl (lv_at hl 3 rfl) ?_
  refine lv_aload_n hx hb dL_law_1018 rfl (lv_at hl 1 rfl) ?_
  refine lv_iload hx hb dL_law_1019 (lv_at hl 5 rfl) ?_
  refine lv_iconst (v := 1) hx hb dL_law_1021 (by decide) ?_
  refine lv_iadd hx hb dL_law_1022 ?_
  refine va_sld hx hb hxs hbl hbA hS hi1 dL_law_1023 ?_
  refine lv_aload_n hx hb dL_law_1024 rfl (lv_at hl 1 rfl) ?_
  refine lv_iload hx hb dL_law_1025 (lv_at hl 5 rfl) ?_
  refine lv_iconst (v := 2) hx hb dL_law_1027 (by decide) ?_
  refine lv_iadd hx hb dL_law_1028 ?_
  refine va_sld hx hb hxs hbl hbA hS hi2 dL_law_1029 ?_
  refine mw_wi (mw_runV (As := [.int (xs (nI i + 1).toNatClampNeg), .int (xs (nI i + 2).toNatClampNeg)]) (rest := []) (ci := 6) (C := RX8) (T := TX8) (N := 19) hC hM1 hS hR1.1 rfl (c_X8_ladder (hc_t := hR1.1) (hc_t_now := hR1.2.2.1) (hc_t_owners := hR1.2.2.2.2.2.2.2.1) (hc_t_chasers := hR1.2.2.2.2.2.2.2.2.1) (hc_t_lefts := hR1.2.2.2.2.2.2.2.2.2) (n_t_t_chasers := inj_ne hin (by omega) (by omega) (by omega)) (n_t_t_lefts := inj_ne hin (by omega) (by omega) (by omega)) (n_t_t_now := inj_ne hin (by omega) (by omega) (by omega)) (n_t_t_owners := inj_ne hin (by omega) (by omega) (by omega)) (n_t_chasers_t_lefts := inj_ne hin (by omega) (by omega) (by omega)) (n_t_chasers_t_now := inj_ne hin (by omega) (by omega) (by omega)) (n_t_chasers_t_owners := inj_ne hin (by omega) (by omega) (by omega)) (n_t_lefts_t_now := inj_ne hin (by omega) (by omega) (by omega)) (n_t_lefts_t_owners := inj_ne hin (by omega) (by omega) (by omega)) (n_t_now_t_owners := inj_ne hin (by omega) (by omega) (by omega)) (h := hs)) gL_law_X8_ladder rfl rfl rfl rfl q_X8_ladder ⟨Nat.le_of_ble_eq_true rfl, Nat.le_of_ble_eq_true rfl⟩ rfl rfl (Nat.le_of_ble_eq_true rfl) hl.1 dL_law_1030 ⟨hcc, hss⟩) hS (fun r8 H locs σ2 hp hM2 hS => ?_)
  obtain ⟨hr8, hm0, hm1, hm2, hm3, ho2⟩ := hp
  replace hr8 : a = r8 := hr8.symm
  subst hr8
  have hk2 : KE ad [8, 15, 16, 17] σ1 σ2 := fun q f hq hn => ho2 q f hq (hn _ (List.Mem.head _)) (hn _ (List.Mem.tail _ (List.Mem.head _))) (hn _ (List.Mem.tail _ (List.Mem.tail _ (List.Mem.head _)))) (hn _ (List.Mem.tail _ (List.Mem.tail _ (List.Mem.tail _ (List.Mem.head _)))))
  have hR2 : RW K ad y' tx fn ft fd fk fik fo' fc' fl' σ2 := ⟨hm0, hk2.at hin (by omega) (by intro t ht; simp only [List.mem_cons, List.not_mem_nil, or_false] at ht; omega) hR1.2.1, hk2.at hin (by omega) (by intro t ht; simp only [List.mem_cons, List.not_mem_nil, or_false] at ht; omega) hR1.2.2.1, hk2.at hin (by omega) (by intro t ht; simp only [List.mem_cons, List.not_mem_nil, or_false] at ht; omega) hR1.2.2.2.1, hk2.at hin (by omega) (by intro t ht; simp only [List.mem_cons, List.not_mem_nil, or_false] at ht; omega) hR1.2.2.2.2.1, hk2.at hin (by omega) (by intro t ht; simp only [List.mem_cons, List.not_mem_nil, or_false] at ht; omega) hR1.2.2.2.2.2.1, hk2.at hin (by omega) (by intro t ht; simp only [List.mem_cons, List.not_mem_nil, or_false] at ht; omega) hR1.2.2.2.2.2.2.1, hm1, hm2, hm3⟩
  have hB2 := BW_keep hk2 hin (by intro t ht; simp only [List.mem_cons, List.not_mem_nil, or_false] at ht; omega) hB1
  have hG2 := GA_keep hk2 hin hD1 (by intro t ht; simp only [List.mem_cons, List.not_mem_nil, or_false] at ht; omega) hG1
  have hP2 := PR_y hP hsame
  have hREL : REL K ad σ2 := ⟨_, _, _, _, _, _, _, _, _, _, _, _, _, _, _, _, _, _, _, hB2, hG2, hD1, hR2, hP2⟩
  refine lv_istore (lv' := [(6, .int a), (5, .int k), (0, .ref b), (1, .ref (ad 0)), (2, .ref (ad 8)), (3, .ref (ad 7)), (4, .int (nI i))]) hx hb dL_law_1033 hl (by decide) rfl (fun ls hl => ?_)
  refine lv_aload_n hx hb dL_law_1035 rfl (lv_at hl 4 rfl) ?_
  refine mw_ci (v := y'.1) (mw_runV (As := []) (rest := []) (ci := 6) (C := RX8) (T := TX8) (N := 19) hC hM2 hS hR2.1 rfl (c_X8_thrown (hc_t := hR2.1) (h := rfl)) gL_law_X8_thrown rfl rfl rfl rfl q_X8_thrown ⟨Nat.le_of_ble_eq_true rfl, Nat.le_of_ble_eq_true rfl⟩ rfl rfl (Nat.le_of_ble_eq_true rfl) hl.1 dL_law_1036 ⟨hcc, hss⟩) ?_
  refine lv_iload hx hb dL_law_1039 (lv_at hl 1 rfl) ?_
  have fin : W p l e room_1 s m #[Value.ref b] below meth c H locs (cells + 1) (slots + 6) Q (F0 m 1447 ls []) := kk H locs σ2 ls hM2 hS hREL (lv_sub hl [2, 3, 4, 5, 6] rfl)
  refine lv_icmp_eq (tgt := 1046) hx hb dL_law_1041 (by decide) (fun c9 => ?_) (fun c9 => absurd hy9 c9)
  refine lv_iload hx hb dL_law_1046 (lv_at hl 1 rfl) ?_
  refine lv_if_ne (tgt := 1063) hx hb dL_law_1048 (by decide) (fun c8 => ?_) (fun c8 => ?_)
  · exact lv_goto (tgt := 1447) hx hb dL_law_1063 (by decide) fin
  · refine lv_aload_n hx hb dL_law_1051 rfl (lv_at hl 5 rfl) ?_
    refine lv_iconst (v := 0) hx hb dL_law_1052 (by decide) ?_
    refine mw_ldJ hC hM2 hB2.2.2.2.2.2.2.2 (i := 0) vp_in_01 dL_law_1053 ?_
    refine lv_iload hx hb dL_law_1054 (lv_at hl 0 rfl) ?_
    refine lv_i2l (v := (a).toInt64) hx hb dL_law_1056 rfl ?_
    refine W.lcmp hx hb dL_law_1057 ?_
    exact lv_if_eq (tgt := 1063) hx hb dL_law_1058 (by decide) (fun _ => lv_goto (tgt := 1447) hx hb dL_law_1063 (by decide) fin) (fun c9 => absurd ((lg_cmp_eq _ _).mpr (hv9 c8)) c9)
set_option maxHeartbeats 4000000 in
set_option maxRecDepth 100000 in
theorem lwc_19 {p : Program} {l : Launch} {e : Env} {s : State} {m : MethodId} {below : List Frame} {meth : Method} {c : Code} {D : va_G} {K : Nat → ClassId} {H : Heap} {locs : List Loc} {cells slots b L i : Nat} {xs : Nat → Int32} {Q : State → Prop} {σ : mwm} {ad : Nat → Nat} {ls : Array Slot} (hC : CF p m c cL_law 8 s #[Value.ref b] wsL_law RL s.heap.size D K) (hX : SX s.heap.size s) (hlt : l.stackTraces = false) (hk162 : (Cond.constantLong RL 162 4294967295).before #[Value.ref b] s = true) (hxs : va_X b L xs s s.heap) (hbl : b < s.heap.size) (hin : inj72 ad) (hR0 : REL K ad σ) (hM : MW s.heap.size D σ H) (hS : va_S (zA s.heap.size) s.heap H locs) (hl : lv_has ls 8 [(0, .ref b), (1, .ref (ad 0)), (2, .ref (ad 8)), (3, .ref (ad 7)), (4, .int (nI i))]) (hi : i + 4 ≤ L) (hL : L ≤ 2048) (hcc : cells + 1 ≤ 601024) (hss : slots + 6 ≤ 7293034) (kk : ∀ (H1 : Heap) (locs1 : List Loc) (σ1 : mwm) (ls1 : Array Slot), MW s.heap.size D σ1 H1 → va_S (zA s.heap.size) s.heap H1 locs1 → REL K ad σ1 → lv_has ls1 8 [(0, .ref b), (1, .ref (ad 0)), (2, .ref (ad 8)), (3, .ref (ad 7)), (4, .int (nI i))] → W p l e room_1 s m #[Value.ref b] below meth c H1 locs1 (cells + 1) (slots + 6) Q (F0 m 1447 ls1 [])) : W p l e room_1 s m #[Value.ref b] below meth c H locs cells slots Q (F0 m 1066 ls []) := by
  have hx := hC.1.1
  have hb := hC.1.2.1
  have hown := hC.1.2.2.2.1
  have hbA : ¬ zA s.heap.size b := Nat.not_le.mpr hbl
  have hi1 : vp_in (nI i + 1) L := by rw [show nI i + 1 = nI (i + 1) from nI_add i 1]; exact vp_in_nI (by omega) (by omega)
  have hi2 : vp_in (nI i + 2) L := by rw [show nI i + 2 = nI (i + 2) from nI_add i 2]; exact vp_in_nI (by omega) (by omega)
  have hi3 : vp_in (nI i + 3) L := by rw [show nI i + 3 = nI (i + 3) from nI_add i 3]; exact vp_in_nI (by omega) (by omega)
  obtain ⟨gr, G, wt, ch, mem, rg, S0, S1, o, y, tx, fn, ft, fd, fk, fik, fo, fc, fl, hB, hG, hD, hR, hP⟩ := hR0
  obtain ⟨len, cd, mo, ma, e1, e2, e3, e4, e5, e6, e7, e8, e9, e10⟩ := id hP
  subst e1
  subst e4
  obtain ⟨n, rule, mv, ps, pr, c0, c1, hGR⟩ := id e10
  obtain ⟨g14a, g14b, g14c, g14d⟩ := id (hG 14 (by omega))
  have g14a : σ (ad 60) = some (cl0 (ad 61) (ad 62) (gr 14) (G 14).1) := g14a
  have g14b : σ (ad 61) = some (eJ K 121 (G 14).2.1) := g14b
  have g14c : σ (ad 62) = some (eJ K 121 (G 14).2.2.1) := g14c
  obtain ⟨g15a, g15b, g15c, g15d⟩ := id (hG 15 (by omega))
  have g15a : σ (ad 63) = some (cl0 (ad 64) (ad 65) (gr 15) (G 15).1) := g15a
  have g15b : σ (ad 64) = some (eJ K 121 (G 15).2.1) := g15b
  have g15c : σ (ad 65) = some (eJ K 121 (G 15).2.2.1) := g15c
  obtain ⟨g16a, g16b, g16c, g16d⟩ := id (hG 16 (by omega))
  have g16a : σ (ad 66) = some (cl0 (ad 67) (ad 68) (gr 16) (G 16).1) := g16a
  have g16b : σ (ad 67) = some (eJ K 121 (G 16).2.1) := g16b
  have g16c : σ (ad 68) = some (eJ K 121 (G 16).2.2.1) := g16c
  obtain ⟨g17a, g17b, g17c, g17d⟩ := id (hG 17 (by omega))
  have g17a : σ (ad 69) = some (cl0 (ad 70) (ad 71) (gr 17) (G 17).1) := g17a
  have g17b : σ (ad 70) = some (eJ K 121 (G 17).2.1) := g17b
  have g17c : σ (ad 71) = some (eJ K 121 (G 17).2.2.1) := g17c
  obtain ⟨k, o', a, y', fo', fc', fl', hr, hs, hy9, hval, hsame⟩ := chase_agr hGR (xs (nI i + 1).toNatClampNeg) y o fo fc fl
  have hv9 : k = 0 → o' (0 : Int32).toNatClampNeg = a.toInt64 := fun z => hval z
  refine lv_aload_n hx hb dL_law_1066 rfl (lv_at hl 1 rfl) ?_
  refine lv_aload_n hx hb dL_law_1067 rfl (lv_at hl 0 rfl) ?_
  refine lv_iload hx hb dL_law_1068 (lv_at hl 4 rfl) ?_
  refine lv_iconst (v := 1) hx hb dL_law_1070 (by decide) ?_
  refine lv_iadd hx hb dL_law_1071 ?_
  refine va_sld hx hb hxs hbl hbA hS hi1 dL_law_1072 ?_
  refine lv_aload_n hx hb dL_law_1073 rfl (lv_at hl 3 rfl) ?_
  refine mw_wi (mw_runSW (As := [.ref (ad 0), .int (xs (nI i + 1).toNatClampNeg), .ref (ad 7)]) (rest := []) hC hX hM hS (c_L_chase (hc_p0 := hB.1) (hc_p2 := hB.2.2.2.2.2.2.2) (hc_p0_now := g14a) (hc_p0_now_grid := g14d) (hlt := hlt) (h := hr)) gL_law_L_chase rfl rfl rfl q_L_chase ⟨Nat.le_of_ble_eq_true rfl, Nat.le_of_ble_eq_true rfl⟩ rfl rfl (Nat.le_of_ble_eq_true rfl) hl.1 dL_law_1074 ⟨hcc, hss⟩) hS (fun r9 H locs σ1 hp hM1 hS => ?_)
  obtain ⟨hr9, hq0, ho⟩ := hp
  replace hr9 : k = r9 := hr9.symm
  subst hr9
  have hk1 : KE ad [7] σ σ1 := fun q f hq hn => ho q f hq (hn _ (List.Mem.head _))
  have hB1 : BW K ad (nI len) ch (nI mo, nI ma) rg S0 S1 o' σ1 := ⟨hk1.at hin (by omega) (by intro t ht; simp only [List.mem_cons, List.not_mem_nil, or_false] at ht; omega) hB.1, hk1.at hin (by omega) (by intro t ht; simp only [List.mem_cons, List.not_mem_nil, or_false] at ht; omega) hB.2.1, hk1.at hin (by omega) (by intro t ht; simp only [List.mem_cons, List.not_mem_nil, or_false] at ht; omega) hB.2.2.1, hk1.at hin (by omega) (by intro t ht; simp only [List.mem_cons, List.not_mem_nil, or_false] at ht; omega) hB.2.2.2.1, hk1.at hin (by omega) (by intro t ht; simp only [List.mem_cons, List.not_mem_nil, or_false] at ht; omega) hB.2.2.2.2.1, hk1.at hin (by omega) (by intro t ht; simp only [List.mem_cons, List.not_mem_nil, or_false] at ht; omega) hB.2.2.2.2.2.1, hk1.at hin (by omega) (by intro t ht; simp only [List.mem_cons, List.not_mem_nil, or_false] at ht; omega) hB.2.2.2.2.2.2.1, hq0⟩
  have hG1 := GA_keep hk1 hin hD (by intro t ht; simp only [List.mem_cons, List.not_mem_nil, or_false] at ht; omega) hG
  have hD1 := hD
  have hR1 := RW_keep hk1 hin (by intro t ht; simp only [List.mem_cons, List.not_mem_nil, or_false] at ht; omega) hR
  refine lv_istore (lv' := [(5, .int k), (0, .ref b), (1, .ref (ad 0)), (2, .ref (ad 8)), (3, .ref (ad 7)), (4, .int (nI i))]) hx hb dL_law_1077 hl (by decide) rfl (fun ls hl => ?_)
  refine lv_aload_n hx hb dL_law_1079 rfl (lv_at hl 3 rfl) ?_
  refine lv_aload_n hx hb dL_law_1080 rfl (lv_at hl 1 rfl) ?_
  refine lv_iload hx hb dL_law_1081 (lv_at hl 5 rfl) ?_
  refine lv_iconst (v := 1) hx hb dL_law_1083 (by decide) ?_
  refine lv_iadd hx hb dL_law_1084 ?_
  refine va_sld hx hb hxs hbl hbA hS hi1 dL_law_1085 ?_
  refine mw_wi (mw_runV (As := [.int (xs (nI i + 1).toNatClampNeg)]) (rest := []) (ci := 6) (C := RX8) (T := TX8) (N := 19) hC hM1 hS hR1.1 rfl (c_X8_chase (hc_t := hR1.1) (hc_t_now := hR1.2.2.1) (hc_t_owners := hR1.2.2.2.2.2.2.2.1) (hc_t_chasers := hR1.2.2.2.2.2.2.2.2.1) (hc_t_lefts := hR1.2.2.2.2.2.2.2.2.2) (n_t_t_chasers := inj_ne hin (by omega) (by omega) (by omega)) (n_t_t_lefts := inj_ne hin (by omega) (by omega) (by omega)) (n_t_t_now := inj_ne hin (by omega) (by omega) (by omega)) (n_t_t_owners := inj_ne hin (by omega) (by omega) (by omega)) (n_t_chasers_t_lefts := inj_ne hin (by omega) (by omega) (by omega)) (n_t_chasers_t_now := inj_ne hin (by omega) (by omega) (by omega)) (n_t_chasers_t_owners := inj_ne hin (by omega) (by omega) (by omega)) (n_t_lefts_t_now := inj_ne hin (by omega) (by omega) (by omega)) (n_t_lefts_t_owners := inj_ne hin (by omega) (by omega) (by omega)) (n_t_now_t_owners := inj_ne hin (by omega) (by omega) (by omega)) (h := hs)) gL_law_X8_chase rfl rfl rfl rfl q_X8_chase ⟨Nat.le_of_ble_eq_true rfl, Nat.le_of_ble_eq_true rfl⟩ rfl rfl (Nat.le_of_ble_eq_true rfl) hl.1 dL_law_1086 ⟨hcc, hss⟩) hS (fun r8 H locs σ2 hp hM2 hS => ?_)
  obtain ⟨hr8, hm0, hm1, hm2, hm3, ho2⟩ := hp
  replace hr8 : a = r8 := hr8.symm
  subst hr8
  have hk2 : KE ad [8, 15, 16, 17] σ1 σ2 := fun q f hq hn => ho2 q f hq (hn _ (List.Mem.head _)) (hn _ (List.Mem.tail _ (List.Mem.head _))) (hn _ (List.Mem.tail _ (List.Mem.tail _ (List.Mem.head _)))) (hn _ (List.Mem.tail _ (List.Mem.tail _ (List.Mem.tail _ (List.Mem.head _)))))
  have hR2 : RW K ad y' tx fn ft fd fk fik fo' fc' fl' σ2 := ⟨hm0, hk2.at hin (by omega) (by intro t ht; simp only [List.mem_cons, List.not_mem_nil, or_false] at ht; omega) hR1.2.1, hk2.at hin (by omega) (by intro t ht; simp only [List.mem_cons, List.not_mem_nil, or_false] at ht; omega) hR1.2.2.1, hk2.at hin (by omega) (by intro t ht; simp only [List.mem_cons, List.not_mem_nil, or_false] at ht; omega) hR1.2.2.2.1, hk2.at hin (by omega) (by intro t ht; simp only [List.mem_cons, List.not_mem_nil, or_false] at ht; omega) hR1.2.2.2.2.1, hk2.at hin (by omega) (by intro t ht; simp only [List.mem_cons, List.not_mem_nil, or_false] at ht; omega) hR1.2.2.2.2.2.1, hk2.at hin (by omega) (by intro t ht; simp only [List.mem_cons, List.not_mem_nil, or_false] at ht; omega) hR1.2.2.2.2.2.2.1, hm1, hm2, hm3⟩
  have hB2 := BW_keep hk2 hin (by intro t ht; simp only [List.mem_cons, List.not_mem_nil, or_false] at ht; omega) hB1
  have hG2 := GA_keep hk2 hin hD1 (by intro t ht; simp only [List.mem_cons, List.not_mem_nil, or_false] at ht; omega) hG1
  have hP2 := PR_y hP hsame
  have hREL : REL K ad σ2 := ⟨_, _, _, _, _, _, _, _, _, _, _, _, _, _, _, _, _, _, _, hB2, hG2, hD1, hR2, hP2⟩
  refine lv_istore (lv' := [(6, .int a), (5, .int k), (0, .ref b), (1, .ref (ad 0)), (2, .ref (ad 8)), (3, .ref (ad 7)), (4, .int (nI i))]) hx hb dL_law_1089 hl (by decide) rfl (fun ls hl => ?_)
  refine lv_aload_n hx hb dL_law_1091 rfl (lv_at hl 4 rfl) ?_
  refine mw_ci (v := y'.1) (mw_runV (As := []) (rest := []) (ci := 6) (C := RX8) (T := TX8) (N := 19) hC hM2 hS hR2.1 rfl (c_X8_thrown (hc_t := hR2.1) (h := rfl)) gL_law_X8_thrown rfl rfl rfl rfl q_X8_thrown ⟨Nat.le_of_ble_eq_true rfl, Nat.le_of_ble_eq_true rfl⟩ rfl rfl (Nat.le_of_ble_eq_true rfl) hl.1 dL_law_1092 ⟨hcc, hss⟩) ?_
  refine lv_iload hx hb dL_law_1095 (lv_at hl 1 rfl) ?_
  have fin : W p l e room_1 s m #[Value.ref b] below meth c H locs (cells + 1) (slots + 6) Q (F0 m 1447 ls []) := kk H locs σ2 ls hM2 hS hREL (lv_sub hl [2, 3, 4, 5, 6] rfl)
  refine lv_icmp_eq (tgt := 1102) hx hb dL_law_1097 (by decide) (fun c9 => ?_) (fun c9 => absurd hy9 c9)
  refine lv_iload hx hb dL_law_1102 (lv_at hl 1 rfl) ?_
  refine lv_if_ne (tgt := 1119) hx hb dL_law_1104 (by decide) (fun c8 => ?_) (fun c8 => ?_)
  · exact lv_goto (tgt := 1447) hx hb dL_law_1119 (by decide) fin
  · refine lv_aload_n hx hb dL_law_1107 rfl (lv_at hl 5 rfl) ?_
    refine lv_iconst (v := 0) hx hb dL_law_1108 (by decide) ?_
    refine mw_ldJ hC hM2 hB2.2.2.2.2.2.2.2 (i := 0) vp_in_01 dL_law_1109 ?_
    refine lv_iload hx hb dL_law_1110 (lv_at hl 0 rfl) ?_
    refine lv_i2l (v := (a).toInt64) hx hb dL_law_1112 rfl ?_
    refine W.lcmp hx hb dL_law_1113 ?_
    exact lv_if_eq (tgt := 1119) hx hb dL_law_1114 (by decide) (fun _ => lv_goto (tgt := 1447) hx hb dL_law_1119 (by decide) fin) (fun c9 => absurd ((lg_cmp_eq _ _).mpr (hv9 c8)) c9)
