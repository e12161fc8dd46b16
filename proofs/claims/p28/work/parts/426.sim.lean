theorem nI_div {a b : Nat} (ha : a < 2147483648) (hb : b < 2147483648) : nI a / nI b = nI (a / b) := by
  have hd : a / b ≤ a := Nat.div_le_self a b
  apply Int32.toInt_inj.mp
  rw [Int32.toInt_div_of_ne_right _ _ (nI_ne_m1 hb), nI_toInt ha, nI_toInt hb, nI_toInt (by omega)]
  exact (Int.ofNat_tdiv a b).symm
theorem nL_ne_m1 {c : Nat} (hc : c < 9223372036854775808) : ¬ nL c = -1 := by
  intro h
  have := congrArg Int64.toInt h
  rw [nL_toInt hc] at this
  have e : (-1 : Int64).toInt = -1 := by decide
  rw [e] at this
  omega
theorem nL_div {a b : Nat} (ha : a < 9223372036854775808) (hb : b < 9223372036854775808) : nL a / nL b = nL (a / b) := by
  have hd : a / b ≤ a := Nat.div_le_self a b
  apply Int64.toInt_inj.mp
  rw [Int64.toInt_div_of_ne_right _ _ (nL_ne_m1 hb), nL_toInt ha, nL_toInt hb, nL_toInt (by omega)]
  exact (Int.ofNat_tdiv a b).symm
theorem mod_mul (a b : Nat) : a - a / b * b = a % b := by
  have := Nat.div_add_mod a b
  rw [Nat.mul_comm] at this
  omega
theorem nI_mod {a b : Nat} (ha : a < 2147483648) (hb : b < 2147483648) : nI a - nI a / nI b * nI b = nI (a % b) := by
  rw [nI_div ha hb, nI_mul, nI_sub (Nat.div_mul_le_self a b), mod_mul]
theorem nL_mod {a b : Nat} (ha : a < 9223372036854775808) (hb : b < 9223372036854775808) : nL a - nL a / nL b * nL b = nL (a % b) := by
  rw [nL_div ha hb, nL_mul, nL_sub (Nat.div_mul_le_self a b), mod_mul]
theorem tn_inj {a b : Int64} (h : tn a = tn b) : a = b := by
  apply Int64.toBitVec_inj.mp
  exact BitVec.eq_of_toNat_eq h
theorem tn_nL {a : Nat} (h : a < 18446744073709551616) : tn (nL a) = a := by
  show (BitVec.ofNat 64 a).toNat = a
  rw [BitVec.toNat_ofNat]
  omega
theorem sh33 (v : Int64) : ∃ q, q < 2147483648 ∧ (ushrL v 33).toInt32 = nI q := by
  have h := tn_ushr v (y := 33) (k := 33) (by omega) rfl
  have hv := tn_lt v
  refine ⟨tn v / 2 ^ 33, by omega, ?_⟩
  have e : ushrL v 33 = nL (tn v / 2 ^ 33) := tn_inj (by rw [h, tn_nL (by omega)])
  rw [e, nL_I]
theorem r16 (v : Int64) : ((ushrL v 33).toInt32 - (ushrL v 33).toInt32 / 16 * 16 ≤ 0) ↔ ((ushrL v 33).toInt32 - (ushrL v 33).toInt32 / 16 * 16 = 0) := by
  obtain ⟨q, q1, q2⟩ := sh33 v
  have e : nI q - nI q / 16 * 16 = nI (q % 16) := nI_mod (b := 16) q1 (by omega)
  rw [q2, e]
  constructor
  · intro z
    have := (nI_le_iff (a := q % 16) (b := 0) (by omega) (by omega)).mp z
    have e0 : q % 16 = 0 := by omega
    rw [e0]
    rfl
  · intro z
    rw [z]
    decide
section SIM
variable {n rule mv ps pr c0 c1 : Nat} {w : GSt} {b0 b1 : Nat → Int64} {g : RSt}
theorem sim_end (h : GR n rule mv ps pr c0 c1 w b0 b1 g) :
    ∃ r, (bnd ((fX0_captivesOf w 0) + (fX0_captivesOf w 1)) fun v8 => (fX0_groupsOf w g 0).bind fun r9 => (fX0_groupsOf w g 1).bind fun r10 => some (((10000 * v8) + (100 * (r9 + r10))) + (fJ13_bitCount_95d88 (fX0_stonesOf w 0)))) = some r := by
  have G0 : fX0_groupsOf w g 0 = some (nI (gsum n (b0 mv) (fun _ => 1) 49 (b0 mv))) := groupsOf_eq h (c := 0) (by omega)
  have G1 : fX0_groupsOf w g 1 = some (nI (gsum n (b1 mv) (fun _ => 1) 49 (b1 mv))) := groupsOf_eq h (c := 1) (by omega)
  unfold bnd
  dsimp only
  rw [G0, Option.bind_some, G1, Option.bind_some]
  exact ⟨_, rfl⟩
theorem s_end {W W' : GSt} {T0 T1 B0 B1 : Nat → Int64} {P : Int64} {m i fa : Nat} {x : Int64} (h : GR n rule mv ps pr c0 c1 w b0 b1 (gridOf n)) (hmi : nI m ≤ nI i) : ∃ r, fX7_simulate_51 W W' T0 T1 B0 B1 (gridOf n) P (nI m) (fa + 1) (nI (n * n)) x (nI i) w b0 b1 = some (Sum.inr (r, w, b0, b1)) := by
  obtain ⟨r, r1⟩ := sim_end h
  refine ⟨r, ?_⟩
  rw [fX7_simulate_51, if_pos hmi]
  unfold bnd at r1 ⊢
  dsimp only at r1 ⊢
  obtain ⟨x1, x2, r1⟩ := ob_some r1
  obtain ⟨x3, x4, r1⟩ := ob_some r1
  rw [x2, Option.bind_some, x4, Option.bind_some, Option.some.inj r1]
theorem sC_pass {W W' : GSt} {T0 T1 B0 B1 : Nat → Int64} {P : Int64} {m i fa : Nat} {x X : Int64} {r : Bool} {w' : GSt} {d0 d1 : Nat → Int64} {pts : Int32} (hX : x * 6364136223846793005 + 1442695040888963407 = X) (hmi : ¬ nI m ≤ nI i) (q : (ushrL X 33).toInt32 - (ushrL X 33).toInt32 / 16 * 16 = 0) (hp : fX0_passIfAllowed w b0 b1 = some (r, w', d0, d1)) :
    fX7_simulate_51 W W' T0 T1 B0 B1 g P (nI m) (fa + 1) pts x (nI i) w b0 b1 = fX7_simulate_51 W W' T0 T1 B0 B1 g P (nI m) fa pts X (nI (i + 1)) w' d0 d1 := by
  rw [fX7_simulate_51, if_neg hmi, hX]
  clear hX
  unfold bnd
  dsimp only
  rw [if_pos q, hp, Option.bind_some, nI_succ]
theorem sC_play {W W' : GSt} {T0 T1 B0 B1 : Nat → Int64} {P : Int64} {m i fa : Nat} {x X : Int64} {r : Bool} {w' : GSt} {d0 d1 : Nat → Int64} {pts : Int32} (hX : x * 6364136223846793005 + 1442695040888963407 = X) (hmi : ¬ nI m ≤ nI i) (q : ¬ (ushrL X 33).toInt32 - (ushrL X 33).toInt32 / 16 * 16 = 0) (h0 : ¬ pts ≤ 0) (h1 : ¬ pts = 0) (hp : fX0_layIfAllowed w b0 b1 g ((((ushrL X 33).toInt32) / 16) - (((ushrL X 33).toInt32) / 16) / pts * pts) = some (r, w', d0, d1)) :
    fX7_simulate_51 W W' T0 T1 B0 B1 g P (nI m) (fa + 1) pts x (nI i) w b0 b1 = fX7_simulate_51 W W' T0 T1 B0 B1 g P (nI m) fa pts X (nI (i + 1)) w' d0 d1 := by
  rw [fX7_simulate_51, if_neg hmi, hX]
  clear hX
  unfold bnd
  dsimp only
  rw [if_neg q, if_neg h0, if_neg h1, hp, Option.bind_some, nI_succ]
theorem nxt_ex (x : Int64) : ∃ X, x * 6364136223846793005 + 1442695040888963407 = X := ⟨_, rfl⟩
theorem lay_try (h : GR n rule mv ps pr c0 c1 w b0 b1 g) (p : Int32) : ∃ r w' b0' b1' rule' mv' ps' pr' q0 q1, fX0_layIfAllowed w b0 b1 g p = some (r, w', b0', b1') ∧ GR n rule' mv' ps' pr' q0 q1 w' b0' b1' g := by
  unfold fX0_layIfAllowed
  by_cases q : fX2_has g p = true
  · rw [if_pos q]
    rw [h.grid] at q
    obtain ⟨k, hk, rfl⟩ := hasG_pt h.okn q
    rw [reason_eq h hk, Option.bind_some]
    by_cases z : why n rule mv b0 b1 k = 0
    · obtain ⟨z1, z2, z3⟩ := why_0 z
      obtain ⟨w', b0', b1', l1, l2, -⟩ := play_GR h hk z1 z2 z3
      rw [if_pos (by rw [z]; rfl), l1, Option.bind_some]
      exact ⟨_, _, _, _, _, _, _, _, _, _, rfl, l2⟩
    · have := why_le (n := n) (rule := rule) (mv := mv) (b0 := b0) (b1 := b1) k
      rw [if_neg (fun y => z ((nI_eq0 (by omega)).mp y))]
      exact ⟨_, _, _, _, _, _, _, _, _, _, rfl, h⟩
  · rw [if_neg q]
    exact ⟨_, _, _, _, _, _, _, _, _, _, rfl, h⟩
theorem sim_loop (hn : okN n) {W W' : GSt} {T0 T1 B0 B1 : Nat → Int64} {P : Int64} {m : Nat} (hm : m ≤ 100) : ∀ (d fa i : Nat) (x : Int64) {rule mv ps pr c0 c1 : Nat} {w : GSt} {b0 b1 : Nat → Int64}, i + d = m → d + 1 ≤ fa → GR n rule mv ps pr c0 c1 w b0 b1 (gridOf n) →
    ∃ r w' b0' b1', fX7_simulate_51 W W' T0 T1 B0 B1 (gridOf n) P (nI m) fa (nI (n * n)) x (nI i) w b0 b1 = some (Sum.inr (r, w', b0', b1')) := by
  have hsq := okN_sq hn
  have hp : ¬ nI (n * n) ≤ 0 := fun z => by
    have := (nI_le_iff (a := n * n) (b := 0) (by omega) (by omega)).mp z
    omega
  have hp0 : ¬ nI (n * n) = 0 := fun z => by
    have := (nI_eq0 (c := n * n) (by omega)).mp z
    omega
  intro d
  induction d with
  | zero =>
    intro fa i x rule mv ps pr c0 c1 w b0 b1 hi hfa h
    obtain ⟨fa, rfl⟩ : ∃ z, fa = z + 1 := ⟨fa - 1, by omega⟩
    have hmi : nI m ≤ nI i := nI_le (by omega) (by omega)
    obtain ⟨r, r1⟩ := s_end (W := W) (W' := W') (T0 := T0) (T1 := T1) (B0 := B0) (B1 := B1) (P := P) (x := x) (fa := fa) h hmi
    exact ⟨r, w, b0, b1, r1⟩
  | succ d ih =>
    intro fa i x rule mv ps pr c0 c1 w b0 b1 hi hfa h
    obtain ⟨fa, rfl⟩ : ∃ z, fa = z + 1 := ⟨fa - 1, by omega⟩
    have hmi : ¬ nI m ≤ nI i := nI_ge (by omega) (by omega)
    have hmv := h.mvl
    obtain ⟨X, hX⟩ := nxt_ex x
    by_cases q : (ushrL X 33).toInt32 - (ushrL X 33).toInt32 / 16 * 16 = 0
    · by_cases z : mv < 120
      · obtain ⟨w', b0', b1', l1, l2, l4⟩ := pass_GR h z
        obtain ⟨r, w2, d0, d1, s1⟩ := ih fa (i + 1) X (by omega) (by omega) l4
        exact ⟨r, w2, d0, d1, (sC_pass hX hmi q l1).trans s1⟩
      · obtain ⟨r, w2, d0, d1, s1⟩ := ih fa (i + 1) X (by omega) (by omega) h
        exact ⟨r, w2, d0, d1, (sC_pass hX hmi q (pass_no h z)).trans s1⟩
    · obtain ⟨r0, w1, e0, e1, rule', m', ps', pr', q0, q1, p3, p4⟩ := lay_try h ((((ushrL X 33).toInt32) / 16) - (((ushrL X 33).toInt32) / 16) / nI (n * n) * nI (n * n))
      obtain ⟨r, w2, d0, d1, s1⟩ := ih fa (i + 1) X (by omega) (by omega) p4
      exact ⟨r, w2, d0, d1, (sC_play hX hmi q hp hp0 p3).trans s1⟩
theorem simC_top (FS : Nat → Int32 → Int64 → Int32 → GSt → (Nat → Int64) → (Nat → Int64) → Option (String ⊕ (Int32 × GSt × (Nat → Int64) × (Nat → Int64)))) {p1 pts : Int32} {p0 : Int64} {W' : GSt} {T0 T1 H0 H1 : Nat → Int64} {r} (h1 : ¬ p1 < 1) (h2 : p1 ≤ 100) (e1 : fX0_copyFrom W' w T0 T1 b0 b1 = some (w, H0, H1)) (hs : FS 5000 pts p0 0 w H0 H1 = some r) :
    (if p1 < 1 then (some (Sum.inl "java/lang/IllegalArgumentException")) else (if p1 ≤ 100 then ((fX0_copyFrom W' w T0 T1 b0 b1).bind fun r3 => FS 5000 pts p0 0 r3.1 r3.2.1 r3.2.2) else (some (Sum.inl "java/lang/IllegalArgumentException")))) = some r := by
  rw [if_neg h1, if_pos h2, e1, Option.bind_some]
  exact hs
theorem simC_bad (FS : Nat → Int32 → Int64 → Int32 → GSt → (Nat → Int64) → (Nat → Int64) → Option (String ⊕ (Int32 × GSt × (Nat → Int64) × (Nat → Int64)))) {p1 pts : Int32} {p0 : Int64} {W' : GSt} {T0 T1 : Nat → Int64} (h : p1 < 1 ∨ ¬ p1 ≤ 100) :
    (if p1 < 1 then (some (Sum.inl "java/lang/IllegalArgumentException")) else (if p1 ≤ 100 then ((fX0_copyFrom W' w T0 T1 b0 b1).bind fun r3 => FS 5000 pts p0 0 r3.1 r3.2.1 r3.2.2) else (some (Sum.inl "java/lang/IllegalArgumentException")))) = some (Sum.inl "java/lang/IllegalArgumentException") := by
  by_cases c : p1 < 1
  · rw [if_pos c]
  · rw [if_neg c, if_neg (h.resolve_left c)]
theorem simulate_ok (h : GR n rule mv ps pr c0 c1 w b0 b1 g) (p0 : Int64) {m : Nat} (h1 : 1 ≤ m) (h2 : m ≤ 100) (W' : GSt) (T0 T1 : Nat → Int64) :
    ∃ r w' b0' b1', fX7_simulate w W' T0 T1 b0 b1 g p0 (nI m) = some (Sum.inr (r, w', b0', b1')) := by
  obtain ⟨H0, H1, e1, -, e2⟩ := copyFrom_eq (w' := W') (t0 := T0) (t1 := T1) h
  have e3 : GR n rule mv ps pr c0 c1 w H0 H1 (gridOf n) := by
    rw [← h.grid]
    exact e2
  obtain ⟨r, w', b0', b1', s1⟩ := sim_loop h.okn (W := w) (W' := W') (T0 := T0) (T1 := T1) (B0 := b0) (B1 := b1) (P := p0) h2 m 5000 0 p0 (by omega) (by omega) e3
  have e0 : nI 0 = (0 : Int32) := rfl
  rw [e0] at s1
  rw [← h.grid] at s1
  refine ⟨r, w', b0', b1', ?_⟩
  unfold fX7_simulate
  rw [show g.2.1 = nI (n * n) by rw [h.grid]; exact grid_points h.okn]
  exact simC_top (fX7_simulate_51 w W' T0 T1 b0 b1 g p0 (nI m)) (fun z => by have := (nI_lt_iff (a := m) (b := 1) (by omega) (by omega)).mp z; omega) (nI_le (b := 100) h2 (by omega)) e1 s1
end SIM
