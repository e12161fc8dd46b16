section BOARD
variable {n rule mv ps pr c0 c1 : Nat} {w : GSt} {b0 b1 : Nat → Int64} {g : RSt} {f : Nat → Int64}
theorem clear_loop (f : Nat → Int64) (p : Int32) : ∀ (d fu k : Nat) (y : Nat → Int64), k + d = 250 → d + 1 ≤ fu → y 1 = f 1 → (∀ i, i < k → ¬ i = 1 → y i = 0) →
    ∃ y', fX8_clear_2 f p fu (nI k) y = some y' ∧ y' 0 = p.toInt64 ∧ y' 1 = f 1 ∧ ∀ i, 2 ≤ i → i < 250 → y' i = 0 := by
  intro d
  induction d with
  | zero =>
    intro fu k y hk hf h1 h2
    obtain ⟨fu, rfl⟩ : ∃ f, fu = f + 1 := ⟨fu - 1, by omega⟩
    have hk' : k = 250 := by omega
    subst hk'
    refine ⟨vp_updL y 0 p.toInt64, ?_, updL_at _ _ _, ?_, ?_⟩
    · unfold fX8_clear_2
      rw [if_pos (show (250 : Int32) ≤ nI 250 by decide), if_pos (by decide), c0n]
    · rw [updL_ne (by omega)]; exact h1
    · intro i i1 i2
      rw [updL_ne (by omega)]
      exact h2 i i2 (by omega)
  | succ d ih =>
    intro fu k y hk hf h1 h2
    obtain ⟨fu, rfl⟩ : ∃ f, fu = f + 1 := ⟨fu - 1, by omega⟩
    unfold fX8_clear_2
    rw [if_neg (show ¬ (250 : Int32) ≤ nI k from nI_ge (b := 250) (by omega) (by decide)), if_pos (inB_nI (by omega) (by decide)), if_pos (inB_nI (by omega) (by decide)), if_pos (inB_nI (by omega) (by decide)), nI_clamp (by omega), ← nI_succ]
    by_cases c : k = 1
    · subst c
      rw [if_pos (show nI 1 = 1 from rfl)]
      refine ih fu 2 _ (by omega) (by omega) ?_ ?_
      · rw [updL_at]; exact h1
      · intro i i1 i2
        rw [updL_ne i2]
        exact h2 i (by omega) i2
    · have c' : ¬ nI k = 1 := fun q => c (nI_inj (b := 1) (by omega) (by omega) q)
      rw [if_neg c']
      refine ih fu (k + 1) _ (by omega) (by omega) ?_ ?_
      · rw [updL_ne (by omega)]; exact h1
      · intro i i1 i2
        by_cases e : i = k
        · subst e
          rw [updL_at]
        · rw [updL_ne e]
          exact h2 i (by omega) i2
theorem clear_eq (f : Nat → Int64) (p : Int32) : ∃ y', fX8_clear f p = some y' ∧ y' 0 = p.toInt64 ∧ y' 1 = f 1 ∧ ∀ i, 2 ≤ i → i < 250 → y' i = 0 :=
  clear_loop f p 250 5000 0 f rfl (by omega) rfl (fun i hi => by omega)
theorem pos_empty (n : Nat) : posOK n 0 0 := ⟨sb_zero _, sb_zero _, rfl, sb_zero _, sb_zero _⟩
/-- an empty board of m rows under rule r -/
theorem empty_GR {m r : Nat} (hm : okN m) (hr : r < 2) {d0 d1 y : Nat → Int64} (h0 : d0 0 = 0) (h1 : d1 0 = 0) (y0 : y 0 = nL m) (y1 : y 1 = nL r) (y2 : ∀ i, 2 ≤ i → i < 250 → y i = 0) :
    GR m r 0 0 0 0 0 (nI r, 0, 0, 0, 0, 0, 0, 0) d0 d1 (gridOf m) y := by
  refine ⟨hm, rfl, hr, by omega, by omega, by omega, by omega, by omega, ?_, y0, y1, ?_, ?_, ?_, ?_, ?_, ?_, ?_, ?_⟩
  · rw [h0, h1]; rfl
  · rw [y2 2 (by omega) (by omega)]; rfl
  · rw [y2 3 (by omega) (by omega)]; rfl
  · rw [y2 4 (by omega) (by omega)]; rfl
  · rw [y2 5 (by omega) (by omega)]; rfl
  · rw [y2 6 (by omega) (by omega)]; rfl
  · rw [y2 7 (by omega) (by omega)]; rfl
  · intro i hi
    have e : i = 0 := by omega
    subst e
    rw [h0, h1, y2 8 (by omega) (by omega), y2 9 (by omega) (by omega)]
    exact ⟨rfl, rfl⟩
  · rw [h0, h1]; exact pos_empty m
/-- a new board: the class lays it out, the reference clears -/
theorem board_GR (h : GR n rule mv ps pr c0 c1 w b0 b1 g f) {m : Nat} (hm : okN m) (a0 a1 : Nat → Int64) :
    ∃ w' d0 d1 y, fX0_layOut w a0 a1 (nI m) = some (w', d0, d1, gridOf m) ∧ fX8_clear f (nI m) = some y ∧ GR m rule 0 0 0 0 0 w' d0 d1 (gridOf m) y := by
  obtain ⟨y, y1, y2, y3, y4⟩ := clear_eq f (nI m)
  have hm7 := okN_le hm
  obtain ⟨hn, hg, hr, hmv, hps, hpr, hc0, hc1, hw, f0, f1, f2, f3, f4, f5, f6, f7, hb, hp⟩ := h
  have hw1 : w.1 = nI rule := by rw [hw]
  refine ⟨(nI rule, 0, 0, 0, 0, 0, 0, 0), vp_updL a0 0 0, vp_updL a1 0 0, y, ?_, y1, ?_⟩
  · unfold fX0_layOut
    rw [init_grid hm, Option.bind_some, keep_eq (m := 0) a0 a1 rfl (by omega), Option.bind_some, hw1]
  · exact empty_GR hm hr (updL_at _ _ _) (updL_at _ _ _) (by rw [y2]; exact nI_L (by omega)) (by rw [y3]; exact f1) y4
/-- the rule is set -/
theorem set_GR (h : GR n rule mv ps pr c0 c1 w b0 b1 g f) {r : Nat} (hr2 : r < 2) :
    ∃ y, fX8_ruleOn f (nI r) = some (nI rule, y) ∧ GR n r mv ps pr c0 c1 (nI r, w.2.1, w.2.2.1, w.2.2.2.1, w.2.2.2.2.1, w.2.2.2.2.2.1, w.2.2.2.2.2.2.1, w.2.2.2.2.2.2.2) b0 b1 g y := by
  obtain ⟨hn, hg, hr, hm, hps, hpr, hc0, hc1, hw, f0, f1, f2, f3, f4, f5, f6, f7, hb, hp⟩ := h
  refine ⟨vp_updL f 1 (nL r), ?_, hn, hg, hr2, hm, hps, hpr, hc0, hc1, ?_, ?_, ?_, ?_, ?_, ?_, ?_, ?_, ?_, ?_, hp⟩
  · unfold fX8_ruleOn bnd
    dsimp only
    rw [if_pos (by decide), if_pos (by decide), c1n, f1, nL_I, nI_L (by omega)]
  · rw [hw]
  · rw [updL_ne (by omega)]; exact f0
  · rw [updL_at]
  · rw [updL_ne (by omega)]; exact f2
  · rw [updL_ne (by omega)]; exact f3
  · rw [updL_ne (by omega)]; exact f4
  · rw [updL_ne (by omega)]; exact f5
  · rw [updL_ne (by omega)]; exact f6
  · rw [updL_ne (by omega)]; exact f7
  · intro i hi
    rw [updL_ne (by omega), updL_ne (by omega)]
    exact hb i hi
theorem GR.rul (h : GR n rule mv ps pr c0 c1 w b0 b1 g f) : w.1 = nI rule := by
  have := h.2.2.2.2.2.2.2.2.1
  rw [this]
end BOARD
