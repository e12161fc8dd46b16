section COPY
variable {n rule mv ps pr c0 c1 : Nat} {w : GSt} {b0 b1 : Nat → Int64} {g : RSt} {f : Nat → Int64}
theorem GR_congr {f' : Nat → Int64} (h : GR n rule mv ps pr c0 c1 w b0 b1 g f) (q : ∀ i, i < 250 → f' i = f i) : GR n rule mv ps pr c0 c1 w b0 b1 g f' := by
  obtain ⟨hn, hg, hr, hm, hps, hpr, hc0, hc1, hw, f0, f1, f2, f3, f4, f5, f6, f7, hb, hp⟩ := h
  refine ⟨hn, hg, hr, hm, hps, hpr, hc0, hc1, hw, ?_, ?_, ?_, ?_, ?_, ?_, ?_, ?_, ?_, hp⟩
  · rw [q 0 (by omega)]; exact f0
  · rw [q 1 (by omega)]; exact f1
  · rw [q 2 (by omega)]; exact f2
  · rw [q 3 (by omega)]; exact f3
  · rw [q 4 (by omega)]; exact f4
  · rw [q 5 (by omega)]; exact f5
  · rw [q 6 (by omega)]; exact f6
  · rw [q 7 (by omega)]; exact f7
  · intro i hi
    rw [q _ (by omega), q _ (by omega)]
    exact hb i hi
theorem GR_hist {d0 d1 : Nat → Int64} (h : GR n rule mv ps pr c0 c1 w b0 b1 g f) (q : ∀ i, i ≤ mv → d0 i = b0 i ∧ d1 i = b1 i) : GR n rule mv ps pr c0 c1 w d0 d1 g f := by
  obtain ⟨hn, hg, hr, hm, hps, hpr, hc0, hc1, hw, f0, f1, f2, f3, f4, f5, f6, f7, hb, hp⟩ := h
  have e := q mv (Nat.le_refl _)
  refine ⟨hn, hg, hr, hm, hps, hpr, hc0, hc1, ?_, f0, f1, f2, f3, f4, f5, f6, f7, ?_, ?_⟩
  · rw [e.1, e.2]; exact hw
  · intro i hi
    rw [(q i hi).1, (q i hi).2]
    exact hb i hi
  · rw [e.1, e.2]; exact hp
theorem copyS_loop {N0 N2 o0 o2 : Nat} (f0 f2 : Nat → Int64) (h0 : o0 + 250 ≤ N0) (h2 : o2 + 250 ≤ N2) (hN0 : N0 < 2147483648) (hN2 : N2 < 2147483648) : ∀ (d fu k : Nat) (y : Nat → Int64), k + d = 250 → d + 1 ≤ fu → (∀ i, i < k → y (o2 + i) = f0 (o0 + i)) → (∀ j, j < o2 ∨ o2 + k ≤ j → y j = f2 j) →
    ∃ y', fX8_copyState_3 N0 N2 f0 f2 (nI o0) (nI o2) fu (nI k) y = some y' ∧ (∀ i, i < 250 → y' (o2 + i) = f0 (o0 + i)) ∧ ∀ j, j < o2 ∨ o2 + 250 ≤ j → y' j = f2 j := by
  intro d
  induction d with
  | zero =>
    intro fu k y hk hf h1 h3
    obtain ⟨fu, rfl⟩ : ∃ f, fu = f + 1 := ⟨fu - 1, by omega⟩
    have hk' : k = 250 := by omega
    subst hk'
    refine ⟨y, ?_, h1, h3⟩
    unfold fX8_copyState_3
    rw [if_pos (show (250 : Int32) ≤ nI 250 by decide)]
  | succ d ih =>
    intro fu k y hk hf h1 h3
    obtain ⟨fu, rfl⟩ : ∃ f, fu = f + 1 := ⟨fu - 1, by omega⟩
    obtain ⟨y', y1, y2⟩ := ih fu (k + 1) (vp_updL y (o2 + k) (f0 (o0 + k))) (by omega) (by omega) (by
      intro i hi
      by_cases c : i = k
      · subst c
        rw [updL_at]
      · rw [updL_ne (by omega)]
        exact h1 i (by omega)) (by
      intro j hj
      rw [updL_ne (by omega)]
      exact h3 j (by omega))
    refine ⟨y', ?_, y2⟩
    unfold fX8_copyState_3
    rw [if_neg (show ¬ (250 : Int32) ≤ nI k from nI_ge (b := 250) (by omega) (by decide)), nI_add, nI_add, if_pos (inB_nI (by omega) hN0), if_pos (inB_nI (by omega) hN2), nI_clamp (by omega), nI_clamp (by omega), ← nI_succ]
    exact y1
theorem copyS_eq {N0 N2 o0 o2 : Nat} (f0 f2 : Nat → Int64) (h0 : o0 + 250 ≤ N0) (h2 : o2 + 250 ≤ N2) (hN0 : N0 < 2147483648) (hN2 : N2 < 2147483648) :
    ∃ y', fX8_copyState N0 N2 f0 f2 (nI o0) (nI o2) = some y' ∧ (∀ i, i < 250 → y' (o2 + i) = f0 (o0 + i)) ∧ ∀ j, j < o2 ∨ o2 + 250 ≤ j → y' j = f2 j :=
  copyS_loop f0 f2 h0 h2 hN0 hN2 250 5000 0 f2 rfl (by omega) (fun i hi => by omega) (fun j _ => rfl)
theorem cF2_loop {w w' y : GSt} {t0 t1 p0 p1 : Nat → Int64} {k0 : Int32 → GSt → (Nat → Int64) → (Nat → Int64) → Option (GSt × (Nat → Int64) × (Nat → Int64))} {m : Nat} (hy : y.2.1 = nI m) (hm : m ≤ 120) (G0 : Nat → Int64) : ∀ (d fu k : Nat) (G1 : Nat → Int64), k + d = m + 1 → d + 1 ≤ fu → (∀ i, i < k → G1 i = p1 i) →
    ∃ G', fX0_copyFrom_120 w w' t0 t1 p0 p1 k0 fu (nI k) y G0 G1 = some (y, G0, G') ∧ ∀ i, i ≤ m → G' i = p1 i := by
  intro d
  induction d with
  | zero =>
    intro fu k G1 hk hf h1
    obtain ⟨fu, rfl⟩ : ∃ f, fu = f + 1 := ⟨fu - 1, by omega⟩
    refine ⟨G1, ?_, fun i hi => h1 i (by omega)⟩
    unfold fX0_copyFrom_120
    rw [hy, if_pos (nI_lt (by omega) (by omega))]
  | succ d ih =>
    intro fu k G1 hk hf h1
    obtain ⟨fu, rfl⟩ : ∃ f, fu = f + 1 := ⟨fu - 1, by omega⟩
    have h121 : ¬ (121 : Int32) ≤ nI k := nI_ge (a := k) (b := 121) (by omega) (by decide)
    obtain ⟨G', g1, g2⟩ := ih fu (k + 1) (vp_updL G1 k (p1 k)) (by omega) (by omega) (by
      intro i hi
      by_cases c : i = k
      · subst c
        rw [updL_at]
      · rw [updL_ne c]
        exact h1 i (by omega))
    refine ⟨G', ?_, g2⟩
    unfold fX0_copyFrom_120
    rw [hy, if_neg (nI_nlt (by omega) (by omega)), if_neg h121, if_neg h121, if_pos (inB_nI (by omega) (by decide)), if_pos (inB_nI (by omega) (by decide)), nI_clamp (by omega), ← nI_succ]
    exact g1
theorem cF1_loop {w w' y : GSt} {t0 t1 p0 p1 : Nat → Int64} {m : Nat} (hy : y.2.1 = nI m) (hm : m ≤ 120) (G1 : Nat → Int64) : ∀ (d fu k : Nat) (G0 : Nat → Int64), k + d = m + 1 → d + 1 ≤ fu → (∀ i, i < k → G0 i = p0 i) →
    ∃ H0 H1, fX0_copyFrom_74 w w' t0 t1 p0 p1 fu (nI k) y G0 G1 = some (y, H0, H1) ∧ ∀ i, i ≤ m → H0 i = p0 i ∧ H1 i = p1 i := by
  intro d
  induction d with
  | zero =>
    intro fu k G0 hk hf h1
    obtain ⟨fu, rfl⟩ : ∃ f, fu = f + 1 := ⟨fu - 1, by omega⟩
    obtain ⟨G', g1, g2⟩ := cF2_loop (w := w) (w' := w') (t0 := t0) (t1 := t1) (p0 := p0) (p1 := p1) (k0 := fX0_copyFrom_74 w w' t0 t1 p0 p1 fu) hy hm G0 (m + 1) 5000 0 G1 (by omega) (by omega) (fun i hi => by omega)
    refine ⟨G0, G', ?_, fun i hi => ⟨h1 i (by omega), g2 i hi⟩⟩
    unfold fX0_copyFrom_74
    rw [hy, if_pos (nI_lt (by omega) (by omega))]
    exact g1
  | succ d ih =>
    intro fu k G0 hk hf h1
    obtain ⟨fu, rfl⟩ : ∃ f, fu = f + 1 := ⟨fu - 1, by omega⟩
    have h121 : ¬ (121 : Int32) ≤ nI k := nI_ge (a := k) (b := 121) (by omega) (by decide)
    obtain ⟨H0, H1, g1, g2⟩ := ih fu (k + 1) (vp_updL G0 k (p0 k)) (by omega) (by omega) (by
      intro i hi
      by_cases c : i = k
      · subst c
        rw [updL_at]
      · rw [updL_ne c]
        exact h1 i (by omega))
    refine ⟨H0, H1, ?_, g2⟩
    unfold fX0_copyFrom_74
    rw [hy, if_neg (nI_nlt (by omega) (by omega)), if_neg h121, if_neg h121, if_pos (inB_nI (by omega) (by decide)), if_pos (inB_nI (by omega) (by decide)), nI_clamp (by omega), ← nI_succ]
    exact g1
/-- the class copies a game -/
theorem copyFrom_eq {w' : GSt} {t0 t1 : Nat → Int64} (h : GR n rule mv ps pr c0 c1 w b0 b1 g f) : ∃ H0 H1, fX0_copyFrom w' w t0 t1 b0 b1 = some (w, H0, H1) ∧ GR n rule mv ps pr c0 c1 w H0 H1 g f := by
  have hw : w.2.1 = nI mv := by
    have := h.2.2.2.2.2.2.2.2.1
    rw [this]
  obtain ⟨H0, H1, g1, g2⟩ := cF1_loop (w := w') (w' := w) (y := w) (t0 := t0) (t1 := t1) (p0 := b0) (p1 := b1) hw h.mvl t1 (mv + 1) 5000 0 t0 (by omega) (by have := h.mvl; omega) (fun i hi => by omega)
  exact ⟨H0, H1, g1, GR_hist h g2⟩
end COPY
