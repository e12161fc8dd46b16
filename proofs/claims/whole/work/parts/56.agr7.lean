section AGR7
variable {n rule mv ps pr c0 c1 : Nat} {w : GSt} {b0 b1 : Nat → Int64} {g : RSt} {f : Nat → Int64}
theorem about_agr (h : GR n rule mv ps pr c0 c1 w b0 b1 g f) (p0 : Int32) (y : MSt) (o : Nat → Int64) : agr y (fL_about o w g p0) (fX8_about y f p0) := by
  have hn := h.okn
  have hg := h.grid
  have hin := in0_iff p0 (m := 7) (by omega)
  have hw := h.weq
  have hf := h.fs
  have ht := h.turn
  have hpr : pr ≤ 120 := by have := h.2.2.2.2.2.1; have := h.mvl; omega
  have hg0 : g.1 = nI n := by rw [hg]; exact grid_rows hn
  have w1 : w.1 = nI rule := by rw [hw]
  have w2 : w.2.1 = nI mv := by rw [hw]
  have w3 : w.2.2.1 = nI ps := by rw [hw]
  have w4 : w.2.2.2.1 = nI pr := by rw [hw]
  have G0 := groupsOf_eq h (c := 0) (by omega)
  have G1 := groupsOf_eq h (c := 1) (by omega)
  have M0 := mgroupsOf_eq h (c := 0) (by omega)
  have M1 := mgroupsOf_eq h (c := 1) (by omega)
  have O := oneOf_eq h
  by_cases q : fX8_in p0.toInt64 0 (nL 7) = true
  · obtain ⟨v, v1, v2⟩ := hin.mp q
    subst v2
    have q' : fX8_in (nI v).toInt64 0 7 = true := q
    have key : ∀ a : Int32, fX7_about w g (nI v) = some (Sum.inr a) → fX8_about y f (nI v) = some (a, setM y 0) → agr y (fL_about o w g (nI v)) (fX8_about y f (nI v)) := by
      intro a k1 k2
      refine agr_val (a := a) (o := o) (y' := setM y 0) ?_ k2 rfl (setM_same y 0)
      unfold fL_about
      rw [k1]
      rfl
    rcases (show v = 0 ∨ v = 1 ∨ v = 2 ∨ v = 3 ∨ v = 4 ∨ v = 5 ∨ v = 6 ∨ v = 7 by omega) with e | e | e | e | e | e | e | e
    all_goals subst e
    · refine key (nI n) ?_ ?_
      · unfold fX7_about
        rw [if_pos (by decide), hg0]
      · unfold fX8_about bnd
        dsimp only
        rw [if_pos q', refused0]
        dsimp only
        rw [if_neg (by decide), if_pos (by decide), if_pos (by decide), rows_eq h.f0]
    · refine key (nI mv) ?_ ?_
      · unfold fX7_about
        rw [if_neg (by decide), if_pos (by decide), w2]
      · unfold fX8_about bnd
        dsimp only
        rw [if_pos q', refused0]
        dsimp only
        rw [if_neg (by decide), if_neg (by decide), if_pos (by decide), moves_eq h.f3, Option.bind_some]
    · refine key (nI (mv % 2)) ?_ ?_
      · unfold fX7_about
        rw [if_neg (by decide), if_neg (by decide), if_pos (by decide), ht.1]
      · unfold fX8_about bnd
        dsimp only
        rw [if_pos q', refused0]
        dsimp only
        rw [if_neg (by decide), if_neg (by decide), if_neg (by decide), if_pos (by decide), ht.2, Option.bind_some]
    · refine key (nI ps) ?_ ?_
      · unfold fX7_about
        rw [if_neg (by decide), if_neg (by decide), if_neg (by decide), if_pos (by decide), w3]
      · unfold fX8_about bnd
        dsimp only
        rw [if_pos q', refused0]
        dsimp only
        rw [if_neg (by decide), if_neg (by decide), if_neg (by decide), if_neg (by decide), if_pos (by decide), if_pos (by decide), c4n, hf.2.1, nL_I]
    · sorry
    · sorry
    · sorry
    · refine key (nI rule) ?_ ?_
      · unfold fX7_about
        rw [if_neg (by decide), if_neg (by decide), if_neg (by decide), if_neg (by decide), if_neg (by decide), if_neg (by decide), if_neg (by decide), if_pos (by decide), w1]
      · unfold fX8_about bnd
        dsimp only
        rw [if_pos q', refused0]
        dsimp only
        rw [if_neg (by decide), if_neg (by decide), if_neg (by decide), if_neg (by decide), if_neg (by decide), if_neg (by decide), if_neg (by decide), if_neg (by decide), if_pos (by decide), c1n, hf.1, nL_I]
  · sorry
end AGR7
