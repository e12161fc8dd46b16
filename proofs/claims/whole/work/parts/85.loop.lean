theorem ll_le {L i : Nat} (hL : L ≤ 2048) (hi : i ≤ 4096) (h : ¬ Int32.ofNat L - 4 < nI i) : i + 4 ≤ L := by
  have h1 : (Int32.ofNat L - 4).toInt = (L : Int) - 4 := by
    rw [Int32.toInt_sub, show (Int32.ofNat L).toInt = (L : Int) from nI_toInt (by omega), show (4 : Int32).toInt = 4 from rfl]
    exact Int.bmod_eq_of_le (by omega) (by omega)
  have h2 : (nI i).toInt = (i : Int) := nI_toInt (by omega)
  rw [Int32.lt_iff_toInt_lt, h1, h2] at h
  omega
set_option maxHeartbeats 4000000 in
theorem law_loop {p : Program} {l : Launch} {e : Env} {s : State} {m : MethodId} {below : List Frame} {meth : Method} {c : Code} {D : va_G} {K : Nat → ClassId} {b L : Nat} {xs : Nat → Int32} {Q : State → Prop} {ad : Nat → Nat} (hC : CF p m c cL_law 8 s #[Value.ref b] wsL_law RL s.heap.size D K) (hX : SX s.heap.size s) (hlt : l.stackTraces = false) (hk162 : (Cond.constantLong RL 162 4294967295).before #[Value.ref b] s = true) (hxs : va_X b L xs s s.heap) (hbl : b < s.heap.size) (hin : inj72 ad) (hL : L ≤ 2048) (kend : ∀ (H1 : Heap) (ls1 : Array Slot), W p l e room_1 s m #[Value.ref b] below meth c H1 [] 601024 7293034 Q (F0 m 1453 ls1 [])) : ∀ (n i cells slots : Nat) (H : Heap) (locs : List Loc) (σ : mwm) (ls : Array Slot), i ≤ 2052 → L < i + 4 * n + 4 → cells + n ≤ 601024 → slots + 6 * n ≤ 7293034 → REL K ad σ → MW s.heap.size D σ H → va_S (zA s.heap.size) s.heap H locs → lv_has ls 8 [(0, .ref b), (1, .ref (ad 0)), (2, .ref (ad 8)), (3, .ref (ad 7)), (4, .int (nI i))] → W p l e room_1 s m #[Value.ref b] below meth c H locs cells slots Q (F0 m 23 ls []) := by
  have hx := hC.1.1
  have hb := hC.1.2.1
  have hbA : ¬ zA s.heap.size b := Nat.not_le.mpr hbl
  intro n
  induction n with
  | zero =>
    intro i cells slots H locs σ ls hi hn hc hs hR hM hS hl
    refine lv_iload hx hb dL_law_23 (lv_at hl 4 rfl) ?_
    refine lv_aload_n hx hb dL_law_25 rfl (lv_at hl 0 rfl) ?_
    refine va_slen hx hb hxs hbl hbA hS dL_law_26 ?_
    refine lv_iconst (v := 4) hx hb dL_law_27 (by decide) ?_
    refine lv_isub hx hb dL_law_28 ?_
    refine lv_icmp_gt (tgt := 1453) hx hb dL_law_29 (by decide) (fun q => ?_) (fun q => ?_)
    · exact va_forget (hS.2.2) (W.widen (k := 601024) (n := 7293034) (by omega) (by omega) (kend H ls))
    · have := ll_le hL (by omega) q
      omega
  | succ n ih =>
    intro i cells slots H locs σ ls hi hn hc hs hR hM hS hl
    refine lv_iload hx hb dL_law_23 (lv_at hl 4 rfl) ?_
    refine lv_aload_n hx hb dL_law_25 rfl (lv_at hl 0 rfl) ?_
    refine va_slen hx hb hxs hbl hbA hS dL_law_26 ?_
    refine lv_iconst (v := 4) hx hb dL_law_27 (by decide) ?_
    refine lv_isub hx hb dL_law_28 ?_
    refine lv_icmp_gt (tgt := 1453) hx hb dL_law_29 (by decide) (fun q => ?_) (fun q => ?_)
    · exact va_forget (hS.2.2) (W.widen (k := 601024) (n := 7293034) (by omega) (by omega) (kend H ls))
    have hiL : i + 4 ≤ L := ll_le hL (by omega) q
    have kk : ∀ (cells1 slots1 : Nat) (H1 : Heap) (locs1 : List Loc) (σ1 : mwm) (ls1 : Array Slot), cells1 + n ≤ 601024 → slots1 + 6 * n ≤ 7293034 → MW s.heap.size D σ1 H1 → va_S (zA s.heap.size) s.heap H1 locs1 → REL K ad σ1 → lv_has ls1 8 [(0, .ref b), (1, .ref (ad 0)), (2, .ref (ad 8)), (3, .ref (ad 7)), (4, .int (nI i))] → W p l e room_1 s m #[Value.ref b] below meth c H1 locs1 cells1 slots1 Q (F0 m 1447 ls1 []) := by
      intro cells1 slots1 H1 locs1 σ1 ls1 hc1 hs1 hM1 hS1 hR1 hl1
      refine lv_iinc (k := 4) hx hb dL_law_1447 hl1 rfl (v := nI (i + 4)) (nI_add i 4) (by decide) rfl (fun ls2 hl2 => ?_)
      refine lv_goto (tgt := 23) hx hb dL_law_1450 (by decide) ?_
      exact ih (i + 4) cells1 slots1 H1 locs1 σ1 ls2 (by omega) (by omega) hc1 hs1 hR1 hM1 hS1 (lv_sub hl2 [1, 2, 3, 4, 0] rfl)
    have kk1 := fun H1 locs1 σ1 ls1 => kk (cells + 1) (slots + 6) H1 locs1 σ1 ls1 (by omega) (by omega)
    refine lv_aload_n hx hb dL_law_32 rfl (lv_at hl 0 rfl) ?_
    refine lv_iload hx hb dL_law_33 (lv_at hl 4 rfl) ?_
    refine va_sld hx hb hxs hbl hbA hS (vp_in_nI (by omega) (by omega)) dL_law_35 ?_
    refine lv_bipush (v := 31) hx hb dL_law_36 (by decide) ?_
    refine lv_iand hx hb dL_law_38 ?_
    by_cases c0 : xs (nI i).toNatClampNeg &&& 31 = 0
    · refine lv_tableIn (tgt := 152) hx hb dL_law_39 (by rw [c0]; decide) (by rw [c0]; decide) (by rw [c0]; rfl) (by decide) ?_
      exact lwc_0 hC hX hlt hk162 hxs hbl hin hR hM hS hl hiL hL (by omega) (by omega) kk1
    by_cases c1 : xs (nI i).toNatClampNeg &&& 31 = 1
    · refine lv_tableIn (tgt := 208) hx hb dL_law_39 (by rw [c1]; decide) (by rw [c1]; decide) (by rw [c1]; rfl) (by decide) ?_
      exact lwc_1 hC hX hlt hk162 hxs hbl hin hR hM hS hl hiL hL (by omega) (by omega) kk1
    by_cases c2 : xs (nI i).toNatClampNeg &&& 31 = 2
    · refine lv_tableIn (tgt := 221) hx hb dL_law_39 (by rw [c2]; decide) (by rw [c2]; decide) (by rw [c2]; rfl) (by decide) ?_
      exact lwc_2 hC hX hlt hk162 hxs hbl hin hR hM hS hl hiL hL (by omega) (by omega) kk1
    by_cases c3 : xs (nI i).toNatClampNeg &&& 31 = 3
    · refine lv_tableIn (tgt := 234) hx hb dL_law_39 (by rw [c3]; decide) (by rw [c3]; decide) (by rw [c3]; rfl) (by decide) ?_
      exact lwc_3 hC hX hlt hk162 hxs hbl hin hR hM hS hl hiL hL (by omega) (by omega) kk1
    by_cases c4 : xs (nI i).toNatClampNeg &&& 31 = 4
    · refine lv_tableIn (tgt := 278) hx hb dL_law_39 (by rw [c4]; decide) (by rw [c4]; decide) (by rw [c4]; rfl) (by decide) ?_
      exact lwc_4 hC hX hlt hk162 hxs hbl hin hR hM hS hl hiL hL (by omega) (by omega) kk1
    by_cases c5 : xs (nI i).toNatClampNeg &&& 31 = 5
    · refine lv_tableIn (tgt := 334) hx hb dL_law_39 (by rw [c5]; decide) (by rw [c5]; decide) (by rw [c5]; rfl) (by decide) ?_
      exact lwc_5 hC hX hlt hk162 hxs hbl hin hR hM hS hl hiL hL (by omega) (by omega) kk1
    by_cases c6 : xs (nI i).toNatClampNeg &&& 31 = 6
    · refine lv_tableIn (tgt := 389) hx hb dL_law_39 (by rw [c6]; decide) (by rw [c6]; decide) (by rw [c6]; rfl) (by decide) ?_
      exact lwc_6 hC hX hlt hk162 hxs hbl hin hR hM hS hl hiL hL (by omega) (by omega) kk1
    by_cases c7 : xs (nI i).toNatClampNeg &&& 31 = 7
    · refine lv_tableIn (tgt := 457) hx hb dL_law_39 (by rw [c7]; decide) (by rw [c7]; decide) (by rw [c7]; rfl) (by decide) ?_
      exact lwc_7 hC hX hlt hk162 hxs hbl hin hR hM hS hl hiL hL (by omega) (by omega) kk1
    by_cases c8 : xs (nI i).toNatClampNeg &&& 31 = 8
    · refine lv_tableIn (tgt := 525) hx hb dL_law_39 (by rw [c8]; decide) (by rw [c8]; decide) (by rw [c8]; rfl) (by decide) ?_
      exact lwc_8 hC hX hlt hk162 hxs hbl hin hR hM hS hl hiL hL (by omega) (by omega) kk1
    by_cases c9 : xs (nI i).toNatClampNeg &&& 31 = 9
    · refine lv_tableIn (tgt := 592) hx hb dL_law_39 (by rw [c9]; decide) (by rw [c9]; decide) (by rw [c9]; rfl) (by decide) ?_
      exact lwc_9 hC hX hlt hk162 hxs hbl hin hR hM hS hl hiL hL (by omega) (by omega) kk1
    by_cases c10 : xs (nI i).toNatClampNeg &&& 31 = 10
    · refine lv_tableIn (tgt := 648) hx hb dL_law_39 (by rw [c10]; decide) (by rw [c10]; decide) (by rw [c10]; rfl) (by decide) ?_
      exact lwc_10 hC hX hlt hk162 hxs hbl hin hR hM hS hl hiL hL (by omega) (by omega) kk1
    by_cases c11 : xs (nI i).toNatClampNeg &&& 31 = 11
    · refine lv_tableIn (tgt := 704) hx hb dL_law_39 (by rw [c11]; decide) (by rw [c11]; decide) (by rw [c11]; rfl) (by decide) ?_
      exact lwc_11 hC hX hlt hk162 hxs hbl hin hR hM hS hl hiL hL (by omega) (by omega) kk1
    by_cases c12 : xs (nI i).toNatClampNeg &&& 31 = 12
    · refine lv_tableIn (tgt := 760) hx hb dL_law_39 (by rw [c12]; decide) (by rw [c12]; decide) (by rw [c12]; rfl) (by decide) ?_
      exact lwc_12 hC hX hlt hk162 hxs hbl hin hR hM hS hl hiL hL (by omega) (by omega) kk1
    by_cases c13 : xs (nI i).toNatClampNeg &&& 31 = 13
    · refine lv_tableIn (tgt := 804) hx hb dL_law_39 (by rw [c13]; decide) (by rw [c13]; decide) (by rw [c13]; rfl) (by decide) ?_
      exact lwc_13 hC hX hlt hk162 hxs hbl hin hR hM hS hl hiL hL (by omega) (by omega) kk1
    by_cases c14 : xs (nI i).toNatClampNeg &&& 31 = 14
    · refine lv_tableIn (tgt := 860) hx hb dL_law_39 (by rw [c14]; decide) (by rw [c14]; decide) (by rw [c14]; rfl) (by decide) ?_
      exact lwc_14 hC hX hlt hk162 hxs hbl hin hR hM hS hl hiL hL (by omega) (by omega) kk1
    by_cases c15 : xs (nI i).toNatClampNeg &&& 31 = 15
    · refine lv_tableIn (tgt := 904) hx hb dL_law_39 (by rw [c15]; decide) (by rw [c15]; decide) (by rw [c15]; rfl) (by decide) ?_
      exact lwc_15 hC hX hlt hk162 hxs hbl hin hR hM hS hl hiL hL (by omega) (by omega) kk1
    by_cases c16 : xs (nI i).toNatClampNeg &&& 31 = 16
    · refine lv_tableIn (tgt := 972) hx hb dL_law_39 (by rw [c16]; decide) (by rw [c16]; decide) (by rw [c16]; rfl) (by decide) ?_
      exact lwc_16 hC hX hlt hk162 hxs hbl hin hR hM hS hl hiL hL (by omega) (by omega) kk1
    by_cases c17 : xs (nI i).toNatClampNeg &&& 31 = 17
    · refine lv_tableIn (tgt := 985) hx hb dL_law_39 (by rw [c17]; decide) (by rw [c17]; decide) (by rw [c17]; rfl) (by decide) ?_
      exact lwc_17 hC hX hlt hk162 hxs hbl hin hR hM hS hl hiL hL (by omega) (by omega) kk1
    by_cases c18 : xs (nI i).toNatClampNeg &&& 31 = 18
    · refine lv_tableIn (tgt := 998) hx hb dL_law_39 (by rw [c18]; decide) (by rw [c18]; decide) (by rw [c18]; rfl) (by decide) ?_
      exact lwc_18 hC hX hlt hk162 hxs hbl hin hR hM hS hl hiL hL (by omega) (by omega) kk1
    by_cases c19 : xs (nI i).toNatClampNeg &&& 31 = 19
    · refine lv_tableIn (tgt := 1066) hx hb dL_law_39 (by rw [c19]; decide) (by rw [c19]; decide) (by rw [c19]; rfl) (by decide) ?_
      exact lwc_19 hC hX hlt hk162 hxs hbl hin hR hM hS hl hiL hL (by omega) (by omega) kk1
    by_cases c20 : xs (nI i).toNatClampNeg &&& 31 = 20
    · refine lv_tableIn (tgt := 1122) hx hb dL_law_39 (by rw [c20]; decide) (by rw [c20]; decide) (by rw [c20]; rfl) (by decide) ?_
      exact lwc_20 hC hX hlt hk162 hxs hbl hin hR hM hS hl hiL hL (by omega) (by omega) kk1
    by_cases c21 : xs (nI i).toNatClampNeg &&& 31 = 21
    · refine lv_tableIn (tgt := 1135) hx hb dL_law_39 (by rw [c21]; decide) (by rw [c21]; decide) (by rw [c21]; rfl) (by decide) ?_
      exact lwc_21 hC hX hlt hk162 hxs hbl hin hR hM hS hl hiL hL (by omega) (by omega) kk1
    by_cases c22 : xs (nI i).toNatClampNeg &&& 31 = 22
    · refine lv_tableIn (tgt := 1235) hx hb dL_law_39 (by rw [c22]; decide) (by rw [c22]; decide) (by rw [c22]; rfl) (by decide) ?_
      exact lwc_22 hC hX hlt hk162 hxs hbl hin hR hM hS hl hiL hL (by omega) (by omega) kk1
    by_cases c23 : xs (nI i).toNatClampNeg &&& 31 = 23
    · refine lv_tableIn (tgt := 1335) hx hb dL_law_39 (by rw [c23]; decide) (by rw [c23]; decide) (by rw [c23]; rfl) (by decide) ?_
      exact lwc_23 hC hX hlt hk162 hxs hbl hin hR hM hS hl hiL hL (by omega) (by omega) kk1
    by_cases c24 : xs (nI i).toNatClampNeg &&& 31 = 24
    · refine lv_tableIn (tgt := 1391) hx hb dL_law_39 (by rw [c24]; decide) (by rw [c24]; decide) (by rw [c24]; rfl) (by decide) ?_
      exact lwc_24 hC hX hlt hk162 hxs hbl hin hR hM hS hl hiL hL (by omega) (by omega) kk1
    refine lv_tableOut (tgt := 1447) hx hb dL_law_39 (by have t0 := lv_neT (a := 0) c0 rfl; have t1 := lv_neT (a := 1) c1 rfl; have t2 := lv_neT (a := 2) c2 rfl; have t3 := lv_neT (a := 3) c3 rfl; have t4 := lv_neT (a := 4) c4 rfl; have t5 := lv_neT (a := 5) c5 rfl; have t6 := lv_neT (a := 6) c6 rfl; have t7 := lv_neT (a := 7) c7 rfl; have t8 := lv_neT (a := 8) c8 rfl; have t9 := lv_neT (a := 9) c9 rfl; have t10 := lv_neT (a := 10) c10 rfl; have t11 := lv_neT (a := 11) c11 rfl; have t12 := lv_neT (a := 12) c12 rfl; have t13 := lv_neT (a := 13) c13 rfl; have t14 := lv_neT (a := 14) c14 rfl; have t15 := lv_neT (a := 15) c15 rfl; have t16 := lv_neT (a := 16) c16 rfl; have t17 := lv_neT (a := 17) c17 rfl; have t18 := lv_neT (a := 18) c18 rfl; have t19 := lv_neT (a := 19) c19 rfl; have t20 := lv_neT (a := 20) c20 rfl; have t21 := lv_neT (a := 21) c21 rfl; have t22 := lv_neT (a := 22) c22 rfl; have t23 := lv_neT (a := 23) c23 rfl; have t24 := lv_neT (a := 24) c24 rfl; omega) (by decide) ?_
    exact kk cells slots H locs σ ls (by omega) (by omega) hM hS hR hl
