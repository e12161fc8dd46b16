theorem nI_div {a b : Nat} (ha : a < 2147483648) (hb : b < 2147483648) : nI a / nI b = nI (a / b) := by
  have hd : a / b ≤ a := Nat.div_le_self a b
  apply Int32.toInt_inj.mp
  rw [Int32.toInt_div_of_ne_right _ _ (nI_ne_m1 hb), nI_toInt ha, nI_toInt hb, nI_toInt (by omega)]
  exact (Int.ofNat_tdiv a b).symm
theorem nL_ne_m1 {c : Nat} (hc : c < 9223372036854775808) : ¬ nL c = -1 := by
  intro h
  have := congrArg Int64.toInt h
  rw [nL_toInt hc] at this
  have e : (-1 : Int64).toInt = -1 := by decide
  rw [e] at this
  omega
theorem nL_div {a b : Nat} (ha : a < 9223372036854775808) (hb : b < 9223372036854775808) : nL a / nL b = nL (a / b) := by
  have hd : a / b ≤ a := Nat.div_le_self a b
  apply Int64.toInt_inj.mp
  rw [Int64.toInt_div_of_ne_right _ _ (nL_ne_m1 hb), nL_toInt ha, nL_toInt hb, nL_toInt (by omega)]
  exact (Int.ofNat_tdiv a b).symm
theorem mod_mul (a b : Nat) : a - a / b * b = a % b := by
  have := Nat.div_add_mod a b
  rw [Nat.mul_comm] at this
  omega
theorem nI_mod {a b : Nat} (ha : a < 2147483648) (hb : b < 2147483648) : nI a - nI a / nI b * nI b = nI (a % b) := by
  rw [nI_div ha hb, nI_mul, nI_sub (Nat.div_mul_le_self a b), mod_mul]
theorem nL_mod {a b : Nat} (ha : a < 9223372036854775808) (hb : b < 9223372036854775808) : nL a - nL a / nL b * nL b = nL (a % b) := by
  rw [nL_div ha hb, nL_mul, nL_sub (Nat.div_mul_le_self a b), mod_mul]
theorem tn_inj {a b : Int64} (h : tn a = tn b) : a = b := by
  apply Int64.toBitVec_inj.mp
  exact BitVec.eq_of_toNat_eq h
theorem tn_nL {a : Nat} (h : a < 18446744073709551616) : tn (nL a) = a := by
  show (BitVec.ofNat 64 a).toNat = a
  rw [BitVec.toNat_ofNat]
  omega
theorem sh33 (v : Int64) : ∃ q, q < 2147483648 ∧ (ushrL v 33).toInt32 = nI q := by
  have h := tn_ushr v (y := 33) (k := 33) (by omega) rfl
  have hv := tn_lt v
  refine ⟨tn v / 2 ^ 33, by omega, ?_⟩
  have e : ushrL v 33 = nL (tn v / 2 ^ 33) := tn_inj (by rw [h, tn_nL (by omega)])
  rw [e, nL_I]
theorem r16 (v : Int64) : ((ushrL v 33).toInt32 - (ushrL v 33).toInt32 / 16 * 16 ≤ 0) ↔ ((ushrL v 33).toInt32 - (ushrL v 33).toInt32 / 16 * 16 = 0) := by
  obtain ⟨q, q1, q2⟩ := sh33 v
  have e : nI q - nI q / 16 * 16 = nI (q % 16) := nI_mod (b := 16) q1 (by omega)
  rw [q2, e]
  constructor
  · intro z
    have := (nI_le_iff (a := q % 16) (b := 0) (by omega) (by omega)).mp z
    have e0 : q % 16 = 0 := by omega
    rw [e0]
    rfl
  · intro z
    rw [z]
    decide
section SIM
variable {n rule mv ps pr c0 c1 : Nat} {w : GSt} {b0 b1 : Nat → Int64} {g : RSt} {f : Nat → Int64}
theorem sim_end (h : GR n rule mv ps pr c0 c1 w b0 b1 g f) :
    ∃ r, (bnd ((fX0_captivesOf w 0) + (fX0_captivesOf w 1)) fun v8 => (fX0_groupsOf w g 0).bind fun r9 => (fX0_groupsOf w g 1).bind fun r10 => some (((10000 * v8) + (100 * (r9 + r10))) + (fJ13_bitCount_95d88 (fX0_stonesOf w 0)))) = some r ∧
      (bnd (((f (5 : Int32).toNatClampNeg) + (f (6 : Int32).toNatClampNeg)).toInt32) fun v14 => (fX8_groupsOf f 0 false).bind fun r15 => (fX8_groupsOf f 1 false).bind fun r16 => (fX8_stonesOf f 0).bind fun r17 => (fX8_bits r17).bind fun r18 => some (((10000 * v14) + (100 * (r15 + r16))) + r18)) = some r := by
  have hw := h.weq
  have hf := h.fs
  have G0 : fX0_groupsOf w g 0 = some (nI (gsum n (b0 mv) (fun _ => 1) 49 (b0 mv))) := groupsOf_eq h (c := 0) (by omega)
  have G1 : fX0_groupsOf w g 1 = some (nI (gsum n (b1 mv) (fun _ => 1) 49 (b1 mv))) := groupsOf_eq h (c := 1) (by omega)
  have M0 : fX8_groupsOf f 0 false = some (nI (gsum n (b0 mv) (fun _ => 1) 49 (b0 mv))) := mgroupsOf_eq h (c := 0) (by omega) false
  have M1 : fX8_groupsOf f 1 false = some (nI (gsum n (b1 mv) (fun _ => 1) 49 (b1 mv))) := mgroupsOf_eq h (c := 1) (by omega) false
  have e0 : fX8_stonesOf f 0 = some (b0 mv) := h.s0
  have w0 : fX0_stonesOf w 0 = b0 mv := h.wc (c := 0) (by omega)
  have k0 : fX0_captivesOf w 0 = nI c0 := by
    unfold fX0_captivesOf
    rw [if_pos rfl, hw]
  have k1 : fX0_captivesOf w 1 = nI c1 := by
    unfold fX0_captivesOf
    rw [if_neg (by decide), hw]
  have hs : sb (b0 mv) (mA n) := (h.pos (c := 0) (by omega)).1
  refine ⟨((10000 * nI (c0 + c1)) + (100 * (nI (gsum n (b0 mv) (fun _ => 1) 49 (b0 mv)) + nI (gsum n (b1 mv) (fun _ => 1) 49 (b1 mv))))) + nI (cn (b0 mv) 49), ?_, ?_⟩
  · unfold bnd
    dsimp only
    rw [G0, Option.bind_some, G1, Option.bind_some, k0, k1, nI_add, w0, bc49 h.okn hs]
  · unfold bnd
    dsimp only
    rw [M0, Option.bind_some, M1, Option.bind_some, e0, Option.bind_some, bits_eq, Option.bind_some, c5n, c6n, hf.2.2.1, hf.2.2.2.1, nL_add, nL_I]
theorem s_end {W W' : GSt} {T0 T1 B0 B1 : Nat → Int64} {P : Int64} {m i fa fb : Nat} {x : Int64} {v : MSt} {F0 F1 : Nat → Int64} {y : MSt} (h : GR n rule mv ps pr c0 c1 w b0 b1 (gridOf n) f) (hmi : nI m ≤ nI i) : ∃ r, fX7_simulate_51 W W' T0 T1 B0 B1 (gridOf n) P (nI m) (fa + 1) (nI (n * n)) x (nI i) w b0 b1 = some (Sum.inr (r, w, b0, b1)) ∧ fX8_simulate_45 v F0 F1 P (nI m) (fb + 1) x (nI i) y f = some (r, y, f) := by
  obtain ⟨r, r1, r2⟩ := sim_end h
  refine ⟨r, ?_, ?_⟩
  · rw [fX7_simulate_51, if_pos hmi]
    unfold bnd at r1 ⊢
    dsimp only at r1 ⊢
    obtain ⟨x1, x2, r1⟩ := ob_some r1
    obtain ⟨x3, x4, r1⟩ := ob_some r1
    rw [x2, Option.bind_some, x4, Option.bind_some, Option.some.inj r1]
  · rw [fX8_simulate_45, if_pos hmi]
    rw [if_pos (show inB 5 250 = true by decide), if_pos (show inB 6 250 = true by decide)]
    unfold bnd at r2 ⊢
    dsimp only at r2 ⊢
    obtain ⟨x1, x2, r2⟩ := ob_some r2
    obtain ⟨x3, x4, r2⟩ := ob_some r2
    obtain ⟨x5, x6, r2⟩ := ob_some r2
    obtain ⟨x7, x8, r2⟩ := ob_some r2
    rw [x2, Option.bind_some, x4, Option.bind_some, x6, Option.bind_some, x8, Option.bind_some, Option.some.inj r2]
theorem sC_pass {W W' : GSt} {T0 T1 B0 B1 : Nat → Int64} {P : Int64} {m i fa : Nat} {x X : Int64} {r : Bool} {w' : GSt} {d0 d1 : Nat → Int64} {pts : Int32} (hX : x * 6364136223846793005 + 1442695040888963407 = X) (hmi : ¬ nI m ≤ nI i) (q : (ushrL X 33).toInt32 - (ushrL X 33).toInt32 / 16 * 16 = 0) (hp : fX0_passIfAllowed w b0 b1 = some (r, w', d0, d1)) :
    fX7_simulate_51 W W' T0 T1 B0 B1 g P (nI m) (fa + 1) pts x (nI i) w b0 b1 = fX7_simulate_51 W W' T0 T1 B0 B1 g P (nI m) fa pts X (nI (i + 1)) w' d0 d1 := by
  rw [fX7_simulate_51, if_neg hmi, hX]
  clear hX
  unfold bnd
  dsimp only
  rw [if_pos q, hp, Option.bind_some, nI_succ]
theorem sC_play {W W' : GSt} {T0 T1 B0 B1 : Nat → Int64} {P : Int64} {m i fa : Nat} {x X : Int64} {r : Bool} {w' : GSt} {d0 d1 : Nat → Int64} {pts : Int32} (hX : x * 6364136223846793005 + 1442695040888963407 = X) (hmi : ¬ nI m ≤ nI i) (q : ¬ (ushrL X 33).toInt32 - (ushrL X 33).toInt32 / 16 * 16 = 0) (h0 : ¬ pts ≤ 0) (h1 : ¬ pts = 0) (hp : fX0_layIfAllowed w b0 b1 g ((((ushrL X 33).toInt32) / 16) - (((ushrL X 33).toInt32) / 16) / pts * pts) = some (r, w', d0, d1)) :
    fX7_simulate_51 W W' T0 T1 B0 B1 g P (nI m) (fa + 1) pts x (nI i) w b0 b1 = fX7_simulate_51 W W' T0 T1 B0 B1 g P (nI m) fa pts X (nI (i + 1)) w' d0 d1 := by
  rw [fX7_simulate_51, if_neg hmi, hX]
  clear hX
  unfold bnd
  dsimp only
  rw [if_neg q, if_neg h0, if_neg h1, hp, Option.bind_some, nI_succ]
theorem sM_pass {P : Int64} {v : MSt} {F0 F1 f' : Nat → Int64} {m i fb : Nat} {x X : Int64} {y : MSt} {r : Int32} (h3 : f 3 = nL mv) (hX : x * 6364136223846793005 + 1442695040888963407 = X) (hmi : ¬ nI m ≤ nI i) (q : (ushrL X 33).toInt32 - (ushrL X 33).toInt32 / 16 * 16 = 0) (hm : mv < 120) (hp : fX8_passOn f = some (r, f')) :
    fX8_simulate_45 v F0 F1 P (nI m) (fb + 1) x (nI i) y f = fX8_simulate_45 v F0 F1 P (nI m) fb X (nI (i + 1)) y f' := by
  rw [fX8_simulate_45, if_neg hmi, hX]
  clear hX
  unfold bnd
  dsimp only
  rw [if_pos ((r16 X).mpr q), moves_eq h3, Option.bind_some, if_neg (show ¬ (120 : Int32) ≤ nI mv from nI_ge (b := 120) hm (by omega)), hp, Option.bind_some, nI_succ]
theorem sM_no {P : Int64} {v : MSt} {F0 F1 : Nat → Int64} {m i fb : Nat} {x X : Int64} {y : MSt} (h3 : f 3 = nL mv) (hX : x * 6364136223846793005 + 1442695040888963407 = X) (hmi : ¬ nI m ≤ nI i) (q : (ushrL X 33).toInt32 - (ushrL X 33).toInt32 / 16 * 16 = 0) (hm : 120 ≤ mv) (hm2 : mv < 1000) :
    fX8_simulate_45 v F0 F1 P (nI m) (fb + 1) x (nI i) y f = fX8_simulate_45 v F0 F1 P (nI m) fb X (nI (i + 1)) y f := by
  rw [fX8_simulate_45, if_neg hmi, hX]
  clear hX
  unfold bnd
  dsimp only
  rw [if_pos ((r16 X).mpr q), moves_eq h3, Option.bind_some, if_pos (show (120 : Int32) ≤ nI mv from nI_le (a := 120) hm (by omega)), nI_succ]
theorem sM_play {P : Int64} {v : MSt} {F0 F1 f' : Nat → Int64} {m i fb : Nat} {x X : Int64} {y y' : MSt} {r : Bool} {pts : Int32} (h3 : fX8_points f = some pts) (hX : x * 6364136223846793005 + 1442695040888963407 = X) (hmi : ¬ nI m ≤ nI i) (q : ¬ (ushrL X 33).toInt32 - (ushrL X 33).toInt32 / 16 * 16 = 0) (h1 : ¬ pts = 0) (hp : fX8_plays y f ((((ushrL X 33).toInt32) / 16) - (((ushrL X 33).toInt32) / 16) / pts * pts) = some (r, y', f')) :
    fX8_simulate_45 v F0 F1 P (nI m) (fb + 1) x (nI i) y f = fX8_simulate_45 v F0 F1 P (nI m) fb X (nI (i + 1)) y' f' := by
  rw [fX8_simulate_45, if_neg hmi, hX]
  clear hX
  unfold bnd
  dsimp only
  rw [if_neg (fun z => q ((r16 X).mp z)), h3, Option.bind_some, if_neg h1, hp, Option.bind_some, nI_succ]
theorem nxt_ex (x : Int64) : ∃ X, x * 6364136223846793005 + 1442695040888963407 = X := ⟨_, rfl⟩
theorem sim_loop (hn : okN n) {W W' : GSt} {T0 T1 B0 B1 : Nat → Int64} {P : Int64} {v : MSt} {F0 F1 : Nat → Int64} {m : Nat} (hm : m ≤ 100) : ∀ (d fa fb i : Nat) (x : Int64) (y : MSt) (f : Nat → Int64) {rule mv ps pr c0 c1 : Nat} {w : GSt} {b0 b1 : Nat → Int64}, i + d = m → d + 1 ≤ fa → d + 1 ≤ fb → GR n rule mv ps pr c0 c1 w b0 b1 (gridOf n) f →
    ∃ r w' b0' b1' y' f', fX7_simulate_51 W W' T0 T1 B0 B1 (gridOf n) P (nI m) fa (nI (n * n)) x (nI i) w b0 b1 = some (Sum.inr (r, w', b0', b1')) ∧ fX8_simulate_45 v F0 F1 P (nI m) fb x (nI i) y f = some (r, y', f') ∧ keepM y y' := by
  have hsq := okN_sq hn
  have hp : ¬ nI (n * n) ≤ 0 := fun z => by
    have := (nI_le_iff (a := n * n) (b := 0) (by omega) (by omega)).mp z
    omega
  have hp0 : ¬ nI (n * n) = 0 := fun z => by
    have := (nI_eq0 (c := n * n) (by omega)).mp z
    omega
  intro d
  induction d with
  | zero =>
    intro fa fb i x y f rule mv ps pr c0 c1 w b0 b1 hi hfa hfb h
    obtain ⟨fa, rfl⟩ : ∃ z, fa = z + 1 := ⟨fa - 1, by omega⟩
    obtain ⟨fb, rfl⟩ : ∃ z, fb = z + 1 := ⟨fb - 1, by omega⟩
    have hmi : nI m ≤ nI i := nI_le (by omega) (by omega)
    obtain ⟨r, r1, r2⟩ := s_end (W := W) (W' := W') (T0 := T0) (T1 := T1) (B0 := B0) (B1 := B1) (P := P) (x := x) (fa := fa) (fb := fb) (v := v) (F0 := F0) (F1 := F1) (y := y) h hmi
    exact ⟨r, w, b0, b1, y, f, r1, r2, keepM_refl y⟩
  | succ d ih =>
    intro fa fb i x y f rule mv ps pr c0 c1 w b0 b1 hi hfa hfb h
    obtain ⟨fa, rfl⟩ : ∃ z, fa = z + 1 := ⟨fa - 1, by omega⟩
    obtain ⟨fb, rfl⟩ : ∃ z, fb = z + 1 := ⟨fb - 1, by omega⟩
    have hmi : ¬ nI m ≤ nI i := nI_ge (by omega) (by omega)
    have hmv := h.mvl
    obtain ⟨X, hX⟩ := nxt_ex x
    by_cases q : (ushrL X 33).toInt32 - (ushrL X 33).toInt32 / 16 * 16 = 0
    · by_cases z : mv < 120
      · obtain ⟨w', b0', b1', f', l1, l2, l3, l4⟩ := pass_GR h z
        obtain ⟨r, w2, d0, d1, y', f2, s1, s2, s3⟩ := ih fa fb (i + 1) X y f' (by omega) (by omega) (by omega) l4
        exact ⟨r, w2, d0, d1, y', f2, (sC_pass hX hmi q l1).trans s1, (sM_pass h.f3 hX hmi q z l3).trans s2, s3⟩
      · obtain ⟨r, w2, d0, d1, y', f2, s1, s2, s3⟩ := ih fa fb (i + 1) X y f (by omega) (by omega) (by omega) h
        exact ⟨r, w2, d0, d1, y', f2, (sC_pass hX hmi q (pass_no h z)).trans s1, (sM_no h.f3 hX hmi q (by omega) (by omega)).trans s2, s3⟩
    · obtain ⟨r0, y1, f1, w1, e0, e1, p1, p2, p3, rule', m', ps', pr', q0, q1, p4⟩ := plays_eq h ((((ushrL X 33).toInt32) / 16) - (((ushrL X 33).toInt32) / 16) / nI (n * n) * nI (n * n)) y
      obtain ⟨r, w2, d0, d1, y', f2, s1, s2, s3⟩ := ih fa fb (i + 1) X y1 f1 (by omega) (by omega) (by omega) p4
      exact ⟨r, w2, d0, d1, y', f2, (sC_play hX hmi q hp hp0 p3).trans s1, (sM_play (points_eq h.f0) hX hmi q hp0 p1).trans s2, keepM_trans p2.1 s3⟩
theorem simC_top (FS : Nat → Int32 → Int64 → Int32 → GSt → (Nat → Int64) → (Nat → Int64) → Option (String ⊕ (Int32 × GSt × (Nat → Int64) × (Nat → Int64)))) {p1 pts : Int32} {p0 : Int64} {W' : GSt} {T0 T1 H0 H1 : Nat → Int64} {r} (h1 : ¬ p1 < 1) (h2 : p1 ≤ 100) (e1 : fX0_copyFrom W' w T0 T1 b0 b1 = some (w, H0, H1)) (hs : FS 5000 pts p0 0 w H0 H1 = some r) :
    (if p1 < 1 then (some (Sum.inl "java/lang/IllegalArgumentException")) else (if p1 ≤ 100 then ((fX0_copyFrom W' w T0 T1 b0 b1).bind fun r3 => FS 5000 pts p0 0 r3.1 r3.2.1 r3.2.2) else (some (Sum.inl "java/lang/IllegalArgumentException")))) = some r := by
  rw [if_neg h1, if_pos h2, e1, Option.bind_some]
  exact hs
theorem simM_top (FS : Nat → Int64 → Int32 → MSt → (Nat → Int64) → Option (Int32 × MSt × (Nat → Int64))) {y : MSt} {p1 : Int32} {p0 : Int64} {tr k' : Nat → Int64} {r} (q' : fX8_in p1.toInt64 1 100 = true) (d1 : fX8_copyState 250 250 f tr 0 0 = some k') (hs : FS 5000 p0 0 (setM y 0) k' = some r) :
    (if (fX8_in p1.toInt64 1 100) = true then (bnd (fX8_refused y 0) fun r33 => if r33.1 = true then (some (((0 : Int32), r33.2, tr))) else ((fX8_copyState 250 250 f tr 0 0).bind fun r38 => FS 5000 p0 0 r33.2 r38)) else (bnd (fX8_refused y 1) fun r2 => if r2.1 = true then (some (((0 : Int32), r2.2, tr))) else ((fX8_copyState 250 250 f tr 0 0).bind fun r7 => FS 5000 p0 0 r2.2 r7))) = some r := by
  unfold bnd
  rw [if_pos q', refused0]
  dsimp only
  rw [if_neg (by decide), d1, Option.bind_some]
  exact hs
theorem simM_bad (FS : Nat → Int64 → Int32 → MSt → (Nat → Int64) → Option (Int32 × MSt × (Nat → Int64))) {y : MSt} {p1 : Int32} {p0 : Int64} {tr : Nat → Int64} (q' : ¬ fX8_in p1.toInt64 1 100 = true) :
    (if (fX8_in p1.toInt64 1 100) = true then (bnd (fX8_refused y 0) fun r33 => if r33.1 = true then (some (((0 : Int32), r33.2, tr))) else ((fX8_copyState 250 250 f tr 0 0).bind fun r38 => FS 5000 p0 0 r33.2 r38)) else (bnd (fX8_refused y 1) fun r2 => if r2.1 = true then (some (((0 : Int32), r2.2, tr))) else ((fX8_copyState 250 250 f tr 0 0).bind fun r7 => FS 5000 p0 0 r2.2 r7))) = some (0, setM y 1, tr) := by
  unfold bnd
  rw [if_neg q', refused1]
  dsimp only
  rw [if_pos rfl]
theorem simC_bad (FS : Nat → Int32 → Int64 → Int32 → GSt → (Nat → Int64) → (Nat → Int64) → Option (String ⊕ (Int32 × GSt × (Nat → Int64) × (Nat → Int64)))) {p1 pts : Int32} {p0 : Int64} {W' : GSt} {T0 T1 : Nat → Int64} (h : p1 < 1 ∨ ¬ p1 ≤ 100) :
    (if p1 < 1 then (some (Sum.inl "java/lang/IllegalArgumentException")) else (if p1 ≤ 100 then ((fX0_copyFrom W' w T0 T1 b0 b1).bind fun r3 => FS 5000 pts p0 0 r3.1 r3.2.1 r3.2.2) else (some (Sum.inl "java/lang/IllegalArgumentException")))) = some (Sum.inl "java/lang/IllegalArgumentException") := by
  by_cases c : p1 < 1
  · rw [if_pos c]
  · rw [if_neg c, if_neg (h.resolve_left c)]
theorem fLsim_val {out : Nat → Int64} {W' : GSt} {T0 T1 : Nat → Int64} {p0 : Int64} {p1 r : Int32} {w' : GSt} {d0 d1 : Nat → Int64} (h : fX7_simulate w W' T0 T1 b0 b1 g p0 p1 = some (Sum.inr (r, w', d0, d1))) : fL_simulate out w W' T0 T1 b0 b1 g p0 p1 = some (0, vp_updL out 0 r.toInt64, w', d0, d1) := by
  unfold fL_simulate
  rw [h]
  rfl
theorem fLsim_ex {out : Nat → Int64} {W' : GSt} {T0 T1 : Nat → Int64} {p0 : Int64} {p1 : Int32} (h : fX7_simulate w W' T0 T1 b0 b1 g p0 p1 = some (Sum.inl "java/lang/IllegalArgumentException")) : fL_simulate out w W' T0 T1 b0 b1 g p0 p1 = some (1, out, W', T0, T1) := by
  unfold fL_simulate
  rw [h]
  rfl
theorem simulate_act (h : GR n rule mv ps pr c0 c1 w b0 b1 g f) (p0 : Int64) (p1 : Int32) (y : MSt) (out : Nat → Int64) (W' : GSt) (T0 T1 tr : Nat → Int64) :
    ∃ v s, fL_simulate out w W' T0 T1 b0 b1 g p0 p1 = some v ∧ fX8_simulate y f tr p0 p1 = some s ∧ s.2.1.1 = v.1 ∧ (v.1 = 0 → v.2.1 0 = s.1.toInt64) ∧ sameM y s.2.1 := by
  have hin := in_eq p1 1 100 (by decide) (by decide)
  by_cases q : (1 : Int) ≤ p1.toInt ∧ p1.toInt ≤ 100
  · have q' : fX8_in p1.toInt64 1 100 = true := by
      show fX8_in p1.toInt64 (nL 1) (nL 100) = true
      rw [hin]
      exact decide_eq_true q
    have hp := of_toInt (p := p1) (by omega)
    obtain ⟨m, hm3, hm7, e⟩ : ∃ m, 1 ≤ m ∧ m ≤ 100 ∧ p1 = nI m := ⟨p1.toInt.toNat, by omega, by omega, hp.1⟩
    subst e
    obtain ⟨H0, H1, e1, e2⟩ := copyFrom_eq (w' := W') (t0 := T0) (t1 := T1) h
    obtain ⟨k', d1, d2, d3⟩ := copyS_eq (N0 := 250) (N2 := 250) (o0 := 0) (o2 := 0) f tr (by omega) (by omega) (by decide) (by decide)
    have d1' : fX8_copyState 250 250 f tr 0 0 = some k' := d1
    have e3 : GR n rule mv ps pr c0 c1 w H0 H1 (gridOf n) k' := by
      rw [← h.grid]
      refine GR_congr e2 ?_
      intro i hi
      have := d2 i hi
      rw [Nat.zero_add] at this
      exact this
    obtain ⟨r, w', b0', b1', y', f', s1, s2, s3⟩ := sim_loop h.okn (W := w) (W' := W') (T0 := T0) (T1 := T1) (B0 := b0) (B1 := b1) (P := p0) (v := y) (F0 := f) (F1 := tr) hm7 m 5000 5000 0 p0 (setM y 0) k' (by omega) (by omega) (by omega) e3
    have e0 : nI 0 = (0 : Int32) := rfl
    rw [e0] at s1 s2
    rw [← h.grid] at s1
    refine ⟨(0, vp_updL out 0 r.toInt64, w', b0', b1'), (r, y', f'), ?_, ?_, s3.1, fun _ => updL_at out 0 _, s3.2⟩
    · refine fLsim_val ?_
      unfold fX7_simulate
      rw [show g.2.1 = nI (n * n) by rw [h.grid]; exact grid_points h.okn]
      exact simC_top (fX7_simulate_51 w W' T0 T1 b0 b1 g p0 (nI m)) (fun z => by have := (nI_lt_iff (a := m) (b := 1) (by omega) (by omega)).mp z; omega) (nI_le (b := 100) hm7 (by omega)) e1 s1
    · unfold fX8_simulate
      exact simM_top (fX8_simulate_45 y f tr p0 (nI m)) q' d1' s2
  · refine ⟨(1, out, W', T0, T1), (0, setM y 1, tr), ?_, ?_, rfl, fun z => absurd z ne1, setM_same y 1⟩
    · refine fLsim_ex ?_
      unfold fX7_simulate
      refine simC_bad (fX7_simulate_51 w W' T0 T1 b0 b1 g p0 p1) ?_
      by_cases c : p1 < 1
      · exact .inl c
      · refine .inr (fun z => q ?_)
        rw [Int32.lt_iff_toInt_lt] at c
        rw [Int32.le_iff_toInt_le] at z
        have e3 : (1 : Int32).toInt = 1 := by decide
        have e7 : (100 : Int32).toInt = 100 := by decide
        rw [e3] at c
        rw [e7] at z
        omega
    · have q' : ¬ fX8_in p1.toInt64 1 100 = true := by
        show ¬ fX8_in p1.toInt64 (nL 1) (nL 100) = true
        rw [hin]
        intro z
        exact q (of_decide_eq_true z)
      unfold fX8_simulate
      exact simM_bad (fX8_simulate_45 y f tr p0 p1) q'
end SIM
