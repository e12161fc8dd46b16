section SCR
theorem cfe_loop {P : Int64} {bh : Nat} (hb : bh ≤ 3) : ∀ (d fu i t : Nat), i + d = bh → d + 1 ≤ fu → t < 9223372036854775808 → fX5_commandFromEnd_5 P (nI bh) fu (nL t) (nI i) = some (nI (t / 10000 ^ d % 10000)) := by
  intro d
  induction d with
  | zero =>
    intro fu i t hi hf ht
    obtain ⟨fu, rfl⟩ : ∃ z, fu = z + 1 := ⟨fu - 1, by omega⟩
    have e : nL t - nL t / 10000 * 10000 = nL (t % 10000) := nL_mod (b := 10000) ht (by omega)
    rw [fX5_commandFromEnd_5]
    rw [if_pos (nI_le (by omega) (by omega)), e, nL_I, Nat.pow_zero, Nat.div_one]
  | succ d ih =>
    intro fu i t hi hf ht
    obtain ⟨fu, rfl⟩ : ∃ z, fu = z + 1 := ⟨fu - 1, by omega⟩
    have e : nL t / 10000 = nL (t / 10000) := nL_div (b := 10000) ht (by omega)
    have := ih fu (i + 1) (t / 10000) (by omega) (by omega) (by omega)
    rw [nI_succ] at this
    rw [fX5_commandFromEnd_5]
    rw [if_neg (nI_ge (by omega) (by omega)), if_neg (show ¬ (4 : Int32) ≤ nI i from nI_ge (b := 4) (by omega) (by omega)), e, this, Nat.div_div_eq_div_mul, ← Nat.pow_succ']
theorem cin_loop {P : Int64} : ∀ (d fu i t : Nat), i + d = 5 → d + 1 ≤ fu → t < 9223372036854775808 → ∃ c, fX7_commandsIn_11 P fu (nI (1 + i)) (nL t) (nI i) = some (nI c) ∧ 1 + i ≤ c ∧ c ≤ 6 ∧ ∀ j, j < d → (c ≤ 1 + i + j ↔ t / 10000 ^ j = 0) := by
  intro d
  induction d with
  | zero =>
    intro fu i t hi hf ht
    obtain ⟨fu, rfl⟩ : ∃ z, fu = z + 1 := ⟨fu - 1, by omega⟩
    refine ⟨1 + i, ?_, by omega, by omega, fun j hj => by omega⟩
    rw [fX7_commandsIn_11]
    rw [if_pos (show (5 : Int32) ≤ nI i from nI_le (a := 5) (by omega) (by omega))]
  | succ d ih =>
    intro fu i t hi hf ht
    obtain ⟨fu, rfl⟩ : ∃ z, fu = z + 1 := ⟨fu - 1, by omega⟩
    have e : nL t / 10000 = nL (t / 10000) := nL_div (b := 10000) ht (by omega)
    by_cases z : t = 0
    · subst z
      refine ⟨1 + i, ?_, by omega, by omega, fun j hj => ⟨fun _ => Nat.zero_div _, fun _ => by omega⟩⟩
      rw [fX7_commandsIn_11]
      rw [if_neg (show ¬ (5 : Int32) ≤ nI i from nI_ge (b := 5) (by omega) (by omega)), if_pos (show nL 0 = 0 from rfl)]
    · obtain ⟨c, c1, c2, c3, c4⟩ := ih fu (i + 1) (t / 10000) (by omega) (by omega) (by omega)
      refine ⟨c, ?_, by omega, c3, ?_⟩
      · rw [fX7_commandsIn_11]
        rw [if_neg (show ¬ (5 : Int32) ≤ nI i from nI_ge (b := 5) (by omega) (by omega)), if_neg (show ¬ nL t = 0 from fun q => z (nL_inj (b := 0) ht (by omega) q)), e, ← nI_succ, ← nI_succ, show 1 + i + 1 = 1 + (i + 1) by omega]
        exact c1
      · intro j hj
        cases j with
        | zero =>
          rw [Nat.pow_zero, Nat.div_one]
          exact ⟨fun q => by omega, fun q => absurd q z⟩
        | succ j =>
          have := c4 j (by omega)
          rw [Nat.pow_succ', ← Nat.div_div_eq_div_mul, ← this]
          omega
theorem cin_eq {s m : Nat} (hs : s < 9223372036854775808) (h1 : 1 ≤ m) (h4 : m ≤ 4) : ∃ c, fX7_commandsIn (nL s) = some (nI c) ∧ c ≤ 6 ∧ (c ≤ m ↔ s < 10000 ^ m) := by
  have e : nL s / 10000 = nL (s / 10000) := nL_div (b := 10000) hs (by omega)
  obtain ⟨c, c1, c2, c3, c4⟩ := cin_loop (P := nL s) 5 5000 0 (s / 10000) (by omega) (by omega) (by omega)
  refine ⟨c, ?_, c3, ?_⟩
  · unfold fX7_commandsIn
    rw [e]
    exact c1
  · have := c4 (m - 1) (by omega)
    rw [Nat.div_div_eq_div_mul, ← Nat.pow_succ', show (m - 1).succ = m by omega, show 1 + 0 + (m - 1) = m by omega] at this
    rw [this]
    have hp : 0 < 10000 ^ m := Nat.pow_pos (by omega)
    exact Nat.div_eq_zero_iff_lt hp
theorem pow4 : ∀ i, i ≤ 4 → 10000 ^ i ≤ 10000000000000000 ∧ 0 < 10000 ^ i := by
  intro i hi
  rcases (show i = 0 ∨ i = 1 ∨ i = 2 ∨ i = 3 ∨ i = 4 by omega) with e | e | e | e | e
  all_goals subst e
  all_goals decide
theorem rs_go {v : MSt} {f t a1 a2 : Nat → Int64} {a3 : Nat → Int32} {p0 : Int32} {p1 : Int64} {L : Nat} (hL : L ≤ 4) (hp : ∀ i, i < L → ¬ p0 ≤ nI i) (y : MSt) (g1 g2 g3 : Nat → Int64) (g4 : Nat → Int32) (fu : Nat) : ∀ (d i : Nat), i + d = L → fX8_runScript_6 v f t a1 a2 a3 p0 p1 (fu + d) (nL (10000 ^ i)) (nI i) y g1 g2 g3 g4 = fX8_runScript_6 v f t a1 a2 a3 p0 p1 fu (nL (10000 ^ L)) (nI L) y g1 g2 g3 g4 := by
  intro d
  induction d with
  | zero =>
    intro i hi
    have : i = L := by omega
    subst this
    rfl
  | succ d ih =>
    intro i hi
    have e : nL (10000 ^ i) * 10000 = nL (10000 ^ (i + 1)) := by
      rw [show (10000 : Int64) = nL 10000 from rfl, nL_mul, Nat.pow_succ]
    have := ih (i + 1) (by omega)
    rw [nI_succ] at this
    rw [← this, ← Nat.add_assoc, fX8_runScript_6]
    rw [if_neg (hp i (by omega)), if_neg (show ¬ (4 : Int32) ≤ nI i from nI_ge (b := 4) (by omega) (by omega)), e]
theorem in_L {s m : Nat} (hs : s < 9223372036854775808) (hm : m < 9223372036854775808) : fX8_in (nL s) 0 (nL m) = decide (s ≤ m) := by
  unfold fX8_in
  rw [if_neg (show ¬ nL s < 0 from fun z => by have := (nL_lt_iff (a := s) (b := 0) hs (by omega)).mp z; omega)]
  by_cases c : m < s
  · rw [if_pos ((nL_lt_iff hm hs).mpr c), decide_eq_false (by omega)]
  · rw [if_neg (fun z => c ((nL_lt_iff hm hs).mp z)), decide_eq_true (by omega)]
theorem of_toL {p : Int64} (h : ¬ p < 0) : ∃ s, s < 9223372036854775808 ∧ p = nL s := by
  rw [Int64.lt_iff_toInt_lt, Int64.toInt_zero] at h
  have h2 := Int64.toInt_lt p
  refine ⟨p.toInt.toNat, by omega, ?_⟩
  apply Int64.toInt_inj.mp
  rw [nL_toInt (by omega)]
  omega
end SCR
section SCRIPT
variable {n rule mv ps pr c0 c1 : Nat} {w : GSt} {b0 b1 : Nat → Int64} {g : RSt} {f : Nat → Int64}
theorem rs_run {m s : Nat} (hm : m ≤ 4) (hs : s < 9223372036854775808) {W W' : GSt} {T0 T1 B0 B1 : Nat → Int64} {v : MSt} {F0 F1 a1 a2 : Nat → Int64} {a3 : Nat → Int32} {k0 : Int64 → Int32 → MSt → (Nat → Int64) → (Nat → Int64) → (Nat → Int64) → (Nat → Int32) → Option (Int32 × MSt × (Nat → Int64) × (Nat → Int64) × (Nat → Int64) × (Nat → Int32))} :
    ∀ (d fa fb i : Nat) (y : MSt) (f fo fc : Nat → Int64) (fl : Nat → Int32) {n rule mv ps pr c0 c1 : Nat} {w : GSt} {b0 b1 : Nat → Int64}, i + d = m → d + 1 ≤ fa → d + 1 ≤ fb → GR n rule mv ps pr c0 c1 w b0 b1 g f →
    ∃ r w' b0' b1' y' f' fo' fc' fl', fX7_runScript_58 W W' T0 T1 B0 B1 g (nI m) (nL s) fa (nI i) w b0 b1 = some (Sum.inr (r, w', b0', b1')) ∧ fX8_runScript_86 v F0 F1 a1 a2 a3 (nI m) (nL s) k0 fb (nL (10000 ^ d)) (nI i) y f fo fc fl = some (r, y', f', fo', fc', fl') ∧ keepM y y' := by
  intro d
  induction d with
  | zero =>
    intro fa fb i y f fo fc fl n rule mv ps pr c0 c1 w b0 b1 hi hfa hfb h
    obtain ⟨fa, rfl⟩ : ∃ z, fa = z + 1 := ⟨fa - 1, by omega⟩
    obtain ⟨fb, rfl⟩ : ∃ z, fb = z + 1 := ⟨fb - 1, by omega⟩
    refine ⟨-1, w, b0, b1, y, f, fo, fc, fl, ?_, ?_, keepM_refl y⟩
    · rw [fX7_runScript_58]
      rw [if_pos (nI_le (by omega) (by omega))]
    · rw [fX8_runScript_86]
      rw [if_pos (nI_le (by omega) (by omega))]
  | succ d ih =>
    intro fa fb i y f fo fc fl n rule mv ps pr c0 c1 w b0 b1 hi hfa hfb h
    obtain ⟨fa, rfl⟩ : ∃ z, fa = z + 1 := ⟨fa - 1, by omega⟩
    obtain ⟨fb, rfl⟩ : ∃ z, fb = z + 1 := ⟨fb - 1, by omega⟩
    have hpw := pow4 (d + 1) (by omega)
    have hpd := pow4 d (by omega)
    have e1 : nL (10000 ^ (d + 1)) / 10000 = nL (10000 ^ d) := by
      have := nL_div (a := 10000 ^ (d + 1)) (b := 10000) (by omega) (by omega)
      rw [Nat.pow_succ, Nat.mul_div_cancel _ (show 0 < 10000 by omega)] at this
      rw [Nat.pow_succ]
      exact this
    have e2 : ¬ nL (10000 ^ d) = 0 := fun z => by
      have := nL_inj (b := 0) (by omega) (by omega) z
      omega
    have hsd : s / 10000 ^ d < 9223372036854775808 := Nat.lt_of_le_of_lt (Nat.div_le_self _ _) hs
    have e3 : nL s / nL (10000 ^ d) = nL (s / 10000 ^ d) := nL_div hs (by omega)
    have e4 : nL (s / 10000 ^ d) - nL (s / 10000 ^ d) / 10000 * 10000 = nL (s / 10000 ^ d % 10000) := nL_mod (b := 10000) hsd (by omega)
    have hb : (nI m - 1) - nI i = nI d := by
      rw [show nI m - 1 = nI (m - 1) from nI_sub (a := m) (b := 1) (by omega), nI_sub (by omega)]
      congr 1
      omega
    have hc : fX5_commandFromEnd (nL s) (nI d) = some (nI (s / 10000 ^ d % 10000)) := cfe_loop (bh := d) (by omega) d 5000 0 s (by omega) (by omega) hs
    have hv : s / 10000 ^ d % 10000 < 10000 := Nat.mod_lt _ (by omega)
    generalize hq : s / 10000 ^ d % 10000 = q at hv hc e4
    have e5 : nI q / 1000 = nI (q / 1000) := nI_div (b := 1000) (by omega) (by omega)
    have e6 : nI q - nI (q / 1000) * 1000 = nI (q % 1000) := by
      have := nI_mod (a := q) (b := 1000) (by omega) (by omega)
      rw [← e5]
      exact this
    obtain ⟨r0, w1, d0, d1, y1, f1, o1, k1, l1, p1, p2, p3, n', rule', m', ps', pr', q0, q1, p4⟩ := cmd_eq h hv y fo fc fl
    cases r0 with
    | true =>
      obtain ⟨r, w', b0', b1', y', f', fo', fc', fl', s1, s2, s3⟩ := ih fa fb (i + 1) y1 f1 o1 k1 l1 (by omega) (by omega) (by omega) p4
      rw [nI_succ] at s1 s2
      refine ⟨r, w', b0', b1', y', f', fo', fc', fl', ?_, ?_, keepM_trans p3 s3⟩
      · rw [fX7_runScript_58]
        rw [if_neg (nI_ge (by omega) (by omega)), hb, hc, Option.bind_some, p1, Option.bind_some]
        exact s1
      · rw [fX8_runScript_86]
        unfold bnd
        dsimp only
        rw [if_neg (nI_ge (by omega) (by omega)), e1, if_neg e2, e3, e4, nL_I, e5, e6, p2, Option.bind_some]
        exact s2
    | false =>
      refine ⟨nI i, w1, d0, d1, y1, f1, o1, k1, l1, ?_, ?_, p3⟩
      · rw [fX7_runScript_58]
        rw [if_neg (nI_ge (by omega) (by omega)), hb, hc, Option.bind_some, p1, Option.bind_some]
        rfl
      · rw [fX8_runScript_86]
        unfold bnd
        dsimp only
        rw [if_neg (nI_ge (by omega) (by omega)), e1, if_neg e2, e3, e4, nL_I, e5, e6, p2, Option.bind_some]
        rfl
theorem runScript_act (h : GR n rule mv ps pr c0 c1 w b0 b1 g f) (p0 : Int32) (p1 : Int64) (y : MSt) (out : Nat → Int64) (W' : GSt) (T0 T1 tr fo fc : Nat → Int64) (fl : Nat → Int32) :
    ∃ v s, fL_runScript out w W' T0 T1 b0 b1 g p0 p1 = some v ∧ fX8_runScript y f tr fo fc fl p0 p1 = some s ∧ s.2.1.1 = v.1 ∧ (v.1 = 0 → v.2.1 0 = s.1.toInt64) ∧ sameM y s.2.1 := by
  have hin := in_eq p0 1 4 (by decide) (by decide)
  have go : ∀ L, L ≤ 4 → (∀ i, i < L → ¬ p0 ≤ nI i) → fX8_runScript y f tr fo fc fl p0 p1 = fX8_runScript_6 y f tr fo fc fl p0 p1 (4999 - L + 1) (nL (10000 ^ L)) (nI L) y tr fo fc fl := by
    intro L hL hp
    have := rs_go (v := y) (f := f) (t := tr) (a1 := fo) (a2 := fc) (a3 := fl) (p0 := p0) (p1 := p1) hL hp y tr fo fc fl (4999 - L + 1) L 0 (by omega)
    rw [show 4999 - L + 1 + L = 5000 by omega] at this
    unfold fX8_runScript
    exact this
  have bad : ∀ L, L ≤ 4 → (∀ i, i < L → ¬ p0 ≤ nI i) → (p0 ≤ nI L ∨ L = 4) → ((¬ fX8_in p0.toInt64 1 4 = true) ∨ (¬ fX8_in p1 0 (nL (10000 ^ L) - 1) = true)) → fX8_runScript y f tr fo fc fl p0 p1 = some (0, setM y 1, tr, fo, fc, fl) := by
    intro L hL hp hs hb
    rw [go L hL hp, fX8_runScript_6]
    unfold bnd
    dsimp only
    rw [refused1]
    dsimp only
    have core : (if fX8_in p0.toInt64 1 4 = true then (if fX8_in p1 0 (nL (10000 ^ L) - 1) = true then none else some ((0 : Int32), setM y 1, tr, fo, fc, fl)) else some (0, setM y 1, tr, fo, fc, fl)) = some (0, setM y 1, tr, fo, fc, fl) := by
      rcases hb with hb | hb
      · rw [if_neg hb]
      · rw [if_neg hb]
        split <;> rfl
    by_cases c : p0 ≤ nI L
    · rw [if_pos c]
      by_cases d : fX8_in p0.toInt64 1 4 = true
      · rw [if_pos d, if_neg (hb.resolve_left (fun z => z d)), if_pos rfl]
      · rw [if_neg d, if_pos rfl]
    · have e4 : L = 4 := hs.resolve_left c
      subst e4
      rw [if_neg c, if_pos (show (4 : Int32) ≤ nI 4 by decide)]
      by_cases d : fX8_in p0.toInt64 1 4 = true
      · rw [if_pos d, if_neg (hb.resolve_left (fun z => z d)), if_pos rfl]
      · rw [if_neg d, if_pos rfl]
  have bad' : fX8_runScript y f tr fo fc fl p0 p1 = some (0, setM y 1, tr, fo, fc, fl) → fX7_runScript w W' T0 T1 b0 b1 g p0 p1 = some (Sum.inl "java/lang/IllegalArgumentException") → ∃ v s, fL_runScript out w W' T0 T1 b0 b1 g p0 p1 = some v ∧ fX8_runScript y f tr fo fc fl p0 p1 = some s ∧ s.2.1.1 = v.1 ∧ (v.1 = 0 → v.2.1 0 = s.1.toInt64) ∧ sameM y s.2.1 := by
    intro h1 h2
    refine ⟨(1, out, W', T0, T1), _, ?_, h1, rfl, fun z => absurd z ne1, setM_same y 1⟩
    unfold fL_runScript
    rw [h2]
    rfl
  have e1 : (1 : Int32).toInt = 1 := by decide
  have e4 : (4 : Int32).toInt = 4 := by decide
  by_cases q : (1 : Int) ≤ p0.toInt ∧ p0.toInt ≤ 4
  · have q' : fX8_in p0.toInt64 1 4 = true := by
      show fX8_in p0.toInt64 (nL 1) (nL 4) = true
      rw [hin]
      exact decide_eq_true q
    have hp := of_toInt (p := p0) (by omega)
    obtain ⟨m, hm1, hm4, e⟩ : ∃ m, 1 ≤ m ∧ m ≤ 4 ∧ p0 = nI m := ⟨p0.toInt.toNat, by omega, by omega, hp.1⟩
    subst e
    have hm := pow4 m hm4
    have hgo : ∀ i, i < m → ¬ nI m ≤ nI i := fun i hi => nI_ge hi (by omega)
    have x1 : ¬ nI m < 1 := fun z => by have := (nI_lt_iff (a := m) (b := 1) (by omega) (by omega)).mp z; omega
    have x2 : nI m ≤ 4 := nI_le (b := 4) hm4 (by omega)
    have esub : nL (10000 ^ m) - 1 = nL (10000 ^ m - 1) := nL_sub (a := 10000 ^ m) (b := 1) (by omega)
    by_cases ps0 : p1 < 0
    · refine bad' (bad m hm4 hgo (.inl (nI_le (Nat.le_refl _) (by omega))) (.inr ?_)) ?_
      · unfold fX8_in
        rw [if_pos ps0]
        decide
      · unfold fX7_runScript
        rw [if_neg x1, if_pos x2, if_pos ps0]
    · obtain ⟨s, hs, es⟩ := of_toL ps0
      subst es
      obtain ⟨c, k1, k2, k3⟩ := cin_eq hs hm1 hm4
      by_cases z : s < 10000 ^ m
      · obtain ⟨H0, H1, g1, g2⟩ := copyFrom_eq (w' := W') (t0 := T0) (t1 := T1) h
        obtain ⟨t', d1, d2, d3⟩ := copyS_eq (N0 := 250) (N2 := 250) (o0 := 0) (o2 := 0) f tr (by omega) (by omega) (by decide) (by decide)
        have d1' : fX8_copyState 250 250 f tr 0 0 = some t' := d1
        have g3 : GR n rule mv ps pr c0 c1 w H0 H1 g t' := by
          refine GR_congr g2 ?_
          intro i hi
          have := d2 i hi
          rw [Nat.zero_add] at this
          exact this
        obtain ⟨r, w', b0', b1', y', f', fo', fc', fl', s1, s2, s3⟩ := rs_run (g := g) hm4 hs (W := w) (W' := W') (T0 := T0) (T1 := T1) (B0 := b0) (B1 := b1) (v := y) (F0 := f) (F1 := tr) (a1 := fo) (a2 := fc) (a3 := fl) (k0 := fX8_runScript_6 y f tr fo fc fl (nI m) (nL s) (4999 - m)) m 5000 5000 0 (setM y 0) t' fo fc fl (by omega) (by omega) (by omega) g3
        refine ⟨(0, vp_updL out 0 r.toInt64, w', b0', b1'), (r, y', f', fo', fc', fl'), ?_, ?_, s3.1, fun _ => updL_at out 0 _, s3.2⟩
        · unfold fL_runScript fX7_runScript
          rw [if_neg x1, if_pos x2, if_neg ps0, k1, Option.bind_some, if_pos (nI_le (k3.mpr z) (by omega)), g1, Option.bind_some]
          have s1' : fX7_runScript_58 w W' T0 T1 b0 b1 g (nI m) (nL s) 5000 0 w H0 H1 = some (Sum.inr (r, w', b0', b1')) := s1
          rw [s1']
          rfl
        · rw [go m hm4 hgo, fX8_runScript_6]
          unfold bnd
          dsimp only
          rw [if_pos (nI_le (Nat.le_refl _) (by omega)), if_pos q', esub, in_L hs (by omega), if_pos (decide_eq_true (by omega)), refused0]
          dsimp only
          rw [if_neg (by decide), d1', Option.bind_some]
          exact s2
      · refine bad' (bad m hm4 hgo (.inl (nI_le (Nat.le_refl _) (by omega))) (.inr ?_)) ?_
        · rw [esub, in_L hs (by omega)]
          intro t
          have := of_decide_eq_true t
          omega
        · unfold fX7_runScript
          rw [if_neg x1, if_pos x2, if_neg ps0, k1, Option.bind_some, if_neg (fun t => z (k3.mp ((nI_le_iff (by omega) (by omega)).mp t)))]
  · have q' : ¬ fX8_in p0.toInt64 1 4 = true := by
      show ¬ fX8_in p0.toInt64 (nL 1) (nL 4) = true
      rw [hin]
      intro z
      exact q (of_decide_eq_true z)
    have hcl : fX7_runScript w W' T0 T1 b0 b1 g p0 p1 = some (Sum.inl "java/lang/IllegalArgumentException") := by
      unfold fX7_runScript
      by_cases c : p0 < 1
      · rw [if_pos c]
      · rw [if_neg c, if_neg (show ¬ p0 ≤ 4 from fun z => ?_)]
        apply q
        rw [Int32.lt_iff_toInt_lt, e1] at c
        rw [Int32.le_iff_toInt_le, e4] at z
        omega
    by_cases c : p0 ≤ 0
    · exact bad' (bad 0 (by omega) (fun i hi => by omega) (.inl c) (.inl q')) hcl
    · refine bad' (bad 4 (by omega) ?_ (.inr rfl) (.inl q')) hcl
      intro i hi z
      apply q
      rw [Int32.le_iff_toInt_le, Int32.toInt_zero] at c
      rw [Int32.le_iff_toInt_le, nI_toInt (by omega)] at z
      omega
end SCRIPT
