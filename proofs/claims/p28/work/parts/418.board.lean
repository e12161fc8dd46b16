section BOARD
variable {n rule mv ps pr c0 c1 : Nat} {w : GSt} {b0 b1 : Nat → Int64} {g : RSt}
theorem pos_empty (n : Nat) : posOK n 0 0 := ⟨sb_zero _, sb_zero _, rfl, sb_zero _, sb_zero _⟩
/-- an empty board of m rows under rule r -/
theorem empty_GR {m r : Nat} (hm : okN m) (hr : r < 2) {d0 d1 : Nat → Int64} (h0 : d0 0 = 0) (h1 : d1 0 = 0) :
    GR m r 0 0 0 0 0 (nI r, 0, 0, 0, 0, 0, 0, 0) d0 d1 (gridOf m) := by
  refine ⟨hm, rfl, hr, by omega, by omega, by omega, by omega, by omega, ?_, ?_, ?_⟩
  · rw [h0, h1]; rfl
  · rw [h0, h1, cn_zero]
  · rw [h0, h1]; exact pos_empty m
/-- a new board -/
theorem board_GR (h : GR n rule mv ps pr c0 c1 w b0 b1 g) {m : Nat} (hm : okN m) (a0 a1 : Nat → Int64) :
    ∃ w' d0 d1, fX0_layOut w a0 a1 (nI m) = some (w', d0, d1, gridOf m) ∧ GR m rule 0 0 0 0 0 w' d0 d1 (gridOf m) := by
  have hm7 := okN_le hm
  obtain ⟨hn, hg, hr, hmv, hps, hpr, hc0, hc1, hw, hct, hp⟩ := h
  have hw1 : w.1 = nI rule := by rw [hw]
  refine ⟨(nI rule, 0, 0, 0, 0, 0, 0, 0), vp_updL a0 0 0, vp_updL a1 0 0, ?_, ?_⟩
  · unfold fX0_layOut
    rw [init_grid hm, Option.bind_some, keep_eq (m := 0) a0 a1 rfl (by omega), Option.bind_some, hw1]
  · exact empty_GR hm hr (updL_at _ _ _) (updL_at _ _ _)
/-- the rule is set -/
theorem set_GR (h : GR n rule mv ps pr c0 c1 w b0 b1 g) {r : Nat} (hr2 : r < 2) :
    GR n r mv ps pr c0 c1 (nI r, w.2.1, w.2.2.1, w.2.2.2.1, w.2.2.2.2.1, w.2.2.2.2.2.1, w.2.2.2.2.2.2.1, w.2.2.2.2.2.2.2) b0 b1 g := by
  obtain ⟨hn, hg, hr, hm, hps, hpr, hc0, hc1, hw, hct, hp⟩ := h
  exact ⟨hn, hg, hr2, hm, hps, hpr, hc0, hc1, by rw [hw], hct, hp⟩
theorem GR.rul (h : GR n rule mv ps pr c0 c1 w b0 b1 g) : w.1 = nI rule := by
  have := h.2.2.2.2.2.2.2.2.1
  rw [this]
end BOARD
