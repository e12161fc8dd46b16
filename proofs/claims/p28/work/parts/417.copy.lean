section COPY
variable {n rule mv ps pr c0 c1 : Nat} {w : GSt} {b0 b1 : Nat → Int64} {g : RSt}

theorem GR_hist {d0 d1 : Nat → Int64} (h : GR n rule mv ps pr c0 c1 w b0 b1 g) (q : ∀ i, i ≤ mv → d0 i = b0 i ∧ d1 i = b1 i) : GR n rule mv ps pr c0 c1 w d0 d1 g := by
  have hm := q mv (Nat.le_refl _)
  obtain ⟨hn, hg, hr, hmv, hps, hpr, hc0, hc1, hw, hct, hp⟩ := h
  refine ⟨hn, hg, hr, hmv, hps, hpr, hc0, hc1, ?_, ?_, ?_⟩
  · rw [hm.1, hm.2]; exact hw
  · rw [hm.1, hm.2]; exact hct
  · rw [hm.1, hm.2]; exact hp
theorem cF2_loop {w w' y : GSt} {t0 t1 p0 p1 : Nat → Int64} {k0 : Int32 → GSt → (Nat → Int64) → (Nat → Int64) → Option (GSt × (Nat → Int64) × (Nat → Int64))} {m : Nat} (hy : y.2.1 = nI m) (hm : m ≤ 120) (G0 : Nat → Int64) : ∀ (d fu k : Nat) (G1 : Nat → Int64), k + d = m + 1 → d + 1 ≤ fu → (∀ i, i < k → G1 i = p1 i) →
    ∃ G', fX0_copyFrom_120 w w' t0 t1 p0 p1 k0 fu (nI k) y G0 G1 = some (y, G0, G') ∧ ∀ i, i ≤ m → G' i = p1 i := by
  intro d
  induction d with
  | zero =>
    intro fu k G1 hk hf h1
    obtain ⟨fu, rfl⟩ : ∃ f, fu = f + 1 := ⟨fu - 1, by omega⟩
    refine ⟨G1, ?_, fun i hi => h1 i (by omega)⟩
    unfold fX0_copyFrom_120
    rw [hy, if_pos (nI_lt (by omega) (by omega))]
  | succ d ih =>
    intro fu k G1 hk hf h1
    obtain ⟨fu, rfl⟩ : ∃ f, fu = f + 1 := ⟨fu - 1, by omega⟩
    have h121 : ¬ (121 : Int32) ≤ nI k := nI_ge (a := k) (b := 121) (by omega) (by decide)
    obtain ⟨G', g1, g2⟩ := ih fu (k + 1) (vp_updL G1 k (p1 k)) (by omega) (by omega) (by
      intro i hi
      by_cases c : i = k
      · subst c
        rw [updL_at]
      · rw [updL_ne c]
        exact h1 i (by omega))
    refine ⟨G', ?_, g2⟩
    unfold fX0_copyFrom_120
    rw [hy, if_neg (nI_nlt (by omega) (by omega)), if_neg h121, if_neg h121, if_pos (inB_nI (by omega) (by decide)), if_pos (inB_nI (by omega) (by decide)), nI_clamp (by omega), ← nI_succ]
    exact g1
theorem cF1_loop {w w' y : GSt} {t0 t1 p0 p1 : Nat → Int64} {m : Nat} (hy : y.2.1 = nI m) (hm : m ≤ 120) (G1 : Nat → Int64) : ∀ (d fu k : Nat) (G0 : Nat → Int64), k + d = m + 1 → d + 1 ≤ fu → (∀ i, i < k → G0 i = p0 i) →
    ∃ H0 H1, fX0_copyFrom_74 w w' t0 t1 p0 p1 fu (nI k) y G0 G1 = some (y, H0, H1) ∧ ∀ i, i ≤ m → H0 i = p0 i ∧ H1 i = p1 i := by
  intro d
  induction d with
  | zero =>
    intro fu k G0 hk hf h1
    obtain ⟨fu, rfl⟩ : ∃ f, fu = f + 1 := ⟨fu - 1, by omega⟩
    obtain ⟨G', g1, g2⟩ := cF2_loop (w := w) (w' := w') (t0 := t0) (t1 := t1) (p0 := p0) (p1 := p1) (k0 := fX0_copyFrom_74 w w' t0 t1 p0 p1 fu) hy hm G0 (m + 1) 5000 0 G1 (by omega) (by omega) (fun i hi => by omega)
    refine ⟨G0, G', ?_, fun i hi => ⟨h1 i (by omega), g2 i hi⟩⟩
    unfold fX0_copyFrom_74
    rw [hy, if_pos (nI_lt (by omega) (by omega))]
    exact g1
  | succ d ih =>
    intro fu k G0 hk hf h1
    obtain ⟨fu, rfl⟩ : ∃ f, fu = f + 1 := ⟨fu - 1, by omega⟩
    have h121 : ¬ (121 : Int32) ≤ nI k := nI_ge (a := k) (b := 121) (by omega) (by decide)
    obtain ⟨H0, H1, g1, g2⟩ := ih fu (k + 1) (vp_updL G0 k (p0 k)) (by omega) (by omega) (by
      intro i hi
      by_cases c : i = k
      · subst c
        rw [updL_at]
      · rw [updL_ne c]
        exact h1 i (by omega))
    refine ⟨H0, H1, ?_, g2⟩
    unfold fX0_copyFrom_74
    rw [hy, if_neg (nI_nlt (by omega) (by omega)), if_neg h121, if_neg h121, if_pos (inB_nI (by omega) (by decide)), if_pos (inB_nI (by omega) (by decide)), nI_clamp (by omega), ← nI_succ]
    exact g1
/-- the class copies a game -/
theorem copyFrom_eq {w' : GSt} {t0 t1 : Nat → Int64} (h : GR n rule mv ps pr c0 c1 w b0 b1 g) : ∃ H0 H1, fX0_copyFrom w' w t0 t1 b0 b1 = some (w, H0, H1) ∧ (∀ i, i ≤ mv → H0 i = b0 i ∧ H1 i = b1 i) ∧ GR n rule mv ps pr c0 c1 w H0 H1 g := by
  have hw : w.2.1 = nI mv := by rw [show w = _ from h.2.2.2.2.2.2.2.2.1]
  obtain ⟨H0, H1, e1, e2⟩ := cF1_loop (w := w') (w' := w) (y := w) (t0 := t0) (t1 := t1) (p0 := b0) (p1 := b1) hw h.mvl t1 (mv + 1) 5000 0 t0 (by omega) (by have := h.mvl; omega) (fun i hi => by omega)
  exact ⟨H0, H1, e1, e2, GR_hist h e2⟩
end COPY
