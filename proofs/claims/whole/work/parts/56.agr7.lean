section AGR7
theorem nL_lt_iff {a b : Nat} (ha : a < 9223372036854775808) (hb : b < 9223372036854775808) : nL a < nL b ↔ a < b := by
  rw [Int64.lt_iff_toInt_lt, nL_toInt ha, nL_toInt hb]
  omega
theorem nL_le_iff {a b : Nat} (ha : a < 9223372036854775808) (hb : b < 9223372036854775808) : nL a ≤ nL b ↔ a ≤ b := by
  rw [Int64.le_iff_toInt_le, nL_toInt ha, nL_toInt hb]
  omega
variable {n rule mv ps pr c0 c1 : Nat} {w : GSt} {b0 b1 : Nat → Int64} {g : RSt} {f : Nat → Int64}
theorem about_agr (h : GR n rule mv ps pr c0 c1 w b0 b1 g f) (p0 : Int32) (y : MSt) (o : Nat → Int64) : agr y (fL_about o w g p0) (fX8_about y f p0) := by
  have hn := h.okn
  have hg := h.grid
  have hin := in0_iff p0 (m := 7) (by omega)
  have hw := h.weq
  have hf := h.fs
  have ht := h.turn
  have hpr : pr ≤ 120 := by have := h.2.2.2.2.2.1; have := h.mvl; omega
  have hg0 : g.1 = nI n := by rw [hg]; exact grid_rows hn
  have w1 : w.1 = nI rule := by rw [hw]
  have w2 : w.2.1 = nI mv := by rw [hw]
  have w3 : w.2.2.1 = nI ps := by rw [hw]
  have w4 : w.2.2.2.1 = nI pr := by rw [hw]
  have G0 : fX0_groupsOf w g 0 = some (nI (gsum n (b0 mv) (fun _ => 1) 49 (b0 mv))) := groupsOf_eq h (c := 0) (by omega)
  have G1 : fX0_groupsOf w g 1 = some (nI (gsum n (b1 mv) (fun _ => 1) 49 (b1 mv))) := groupsOf_eq h (c := 1) (by omega)
  have M0 : fX8_groupsOf f 0 false = _ := mgroupsOf_eq h (c := 0) (by omega) false
  have M1 : fX8_groupsOf f 1 false = _ := mgroupsOf_eq h (c := 1) (by omega) false
  have N0 : fX8_groupsOf f 0 true = _ := mgroupsOf_eq h (c := 0) (by omega) true
  have N1 : fX8_groupsOf f 1 true = _ := mgroupsOf_eq h (c := 1) (by omega) true
  have O := oneOf_eq h
  by_cases q : fX8_in p0.toInt64 0 (nL 7) = true
  · obtain ⟨v, v1, v2⟩ := hin.mp q
    subst v2
    have q' : fX8_in (nI v).toInt64 0 7 = true := q
    have key : ∀ a : Int32, fX7_about w g (nI v) = some (Sum.inr a) → fX8_about y f (nI v) = some (a, setM y 0) → agr y (fL_about o w g (nI v)) (fX8_about y f (nI v)) := by
      intro a k1 k2
      refine agr_val (a := a) (o := o) (y' := setM y 0) ?_ k2 rfl (setM_same y 0)
      unfold fL_about
      rw [k1]
      rfl
    rcases (show v = 0 ∨ v = 1 ∨ v = 2 ∨ v = 3 ∨ v = 4 ∨ v = 5 ∨ v = 6 ∨ v = 7 by omega) with e | e | e | e | e | e | e | e
    all_goals subst e
    · refine key (nI n) ?_ ?_
      · unfold fX7_about
        rw [if_pos (by decide), hg0]
      · unfold fX8_about bnd
        dsimp only
        rw [if_pos q', refused0]
        dsimp only
        rw [if_neg (by decide), if_pos (by decide), if_pos (by decide), rows_eq h.f0]
    · refine key (nI mv) ?_ ?_
      · unfold fX7_about
        rw [if_neg (by decide), if_pos (by decide), w2]
      · unfold fX8_about bnd
        dsimp only
        rw [if_pos q', refused0]
        dsimp only
        rw [if_neg (by decide), if_neg (by decide), if_pos (by decide), moves_eq h.f3, Option.bind_some]
    · refine key (nI (mv % 2)) ?_ ?_
      · unfold fX7_about
        rw [if_neg (by decide), if_neg (by decide), if_pos (by decide), ht.1]
      · unfold fX8_about bnd
        dsimp only
        rw [if_pos q', refused0]
        dsimp only
        rw [if_neg (by decide), if_neg (by decide), if_neg (by decide), if_pos (by decide), ht.2, Option.bind_some]
    · refine key (nI ps) ?_ ?_
      · unfold fX7_about
        rw [if_neg (by decide), if_neg (by decide), if_neg (by decide), if_pos (by decide), w3]
      · unfold fX8_about bnd
        dsimp only
        rw [if_pos q', refused0]
        dsimp only
        rw [if_neg (by decide), if_neg (by decide), if_neg (by decide), if_neg (by decide), if_pos (by decide), if_pos (by decide), c4n, hf.2.1, nL_I]
    · have e7 : (f 7 < 2) ↔ pr < 2 := by
        rw [hf.2.2.2.2]
        exact nL_lt_iff (a := pr) (b := 2) (by omega) (by omega)
      have e8 : (nI pr < 2) ↔ pr < 2 := nI_lt_iff (a := pr) (b := 2) (by omega) (by omega)
      by_cases d : pr < 2
      · refine key 0 ?_ ?_
        · unfold fX7_about
          rw [if_neg (by decide), if_neg (by decide), if_neg (by decide), if_neg (by decide), if_pos (by decide), w4, if_pos (e8.mpr d)]
        · unfold fX8_about bnd
          dsimp only
          rw [if_pos q', refused0]
          dsimp only
          rw [if_neg (by decide), if_neg (by decide), if_neg (by decide), if_neg (by decide), if_neg (by decide), if_pos (by decide), if_pos (by decide), c7n, if_pos (e7.mpr d)]
      · refine key 1 ?_ ?_
        · unfold fX7_about
          rw [if_neg (by decide), if_neg (by decide), if_neg (by decide), if_neg (by decide), if_pos (by decide), w4, if_neg (fun z => d (e8.mp z))]
        · unfold fX8_about bnd
          dsimp only
          rw [if_pos q', refused0]
          dsimp only
          rw [if_neg (by decide), if_neg (by decide), if_neg (by decide), if_neg (by decide), if_neg (by decide), if_pos (by decide), if_pos (by decide), c7n, if_neg (fun z => d (e7.mp z))]
    · refine key (nI (gsum n (b0 mv) (fun _ => 1) 49 (b0 mv)) + nI (gsum n (b1 mv) (fun _ => 1) 49 (b1 mv))) ?_ ?_
      · unfold fX7_about
        rw [if_neg (by decide), if_neg (by decide), if_neg (by decide), if_neg (by decide), if_neg (by decide), if_pos (by decide), G0, Option.bind_some, G1, Option.bind_some]
      · unfold fX8_about bnd
        dsimp only
        rw [if_pos q', refused0]
        dsimp only
        rw [if_neg (by decide), if_neg (by decide), if_neg (by decide), if_neg (by decide), if_neg (by decide), if_neg (by decide), if_pos (by decide), M0, Option.bind_some, M1, Option.bind_some]
        rfl
    · refine key (nI (gsum n (b0 mv) (oneL n (b0 mv) (b1 mv)) 49 (b0 mv)) + nI (gsum n (b1 mv) (oneL n (b1 mv) (b0 mv)) 49 (b1 mv))) ?_ ?_
      · unfold fX7_about
        rw [if_neg (by decide), if_neg (by decide), if_neg (by decide), if_neg (by decide), if_neg (by decide), if_neg (by decide), if_pos (by decide), O, Option.bind_some]
      · unfold fX8_about bnd
        dsimp only
        rw [if_pos q', refused0]
        dsimp only
        rw [if_neg (by decide), if_neg (by decide), if_neg (by decide), if_neg (by decide), if_neg (by decide), if_neg (by decide), if_neg (by decide), if_pos (by decide), N0, Option.bind_some, N1, Option.bind_some]
        rfl
    · refine key (nI rule) ?_ ?_
      · unfold fX7_about
        rw [if_neg (by decide), if_neg (by decide), if_neg (by decide), if_neg (by decide), if_neg (by decide), if_neg (by decide), if_neg (by decide), if_pos (by decide), w1]
      · unfold fX8_about bnd
        dsimp only
        rw [if_pos q', refused0]
        dsimp only
        rw [if_neg (by decide), if_neg (by decide), if_neg (by decide), if_neg (by decide), if_neg (by decide), if_neg (by decide), if_neg (by decide), if_neg (by decide), if_pos (by decide), c1n, hf.1, nL_I]
  · have z : ∀ v, v ≤ 7 → ¬ p0 = nI v := fun v hv e => q (hin.mpr ⟨v, hv, e⟩)
    refine agr_ex (k := 1) (a := 0) (o := o) (y' := setM y 1) (by decide) ?_ ?_ rfl (setM_same y 1)
    · unfold fL_about fX7_about
      rw [if_neg (show ¬ p0 = 0 from z 0 (by omega)), if_neg (show ¬ p0 = 1 from z 1 (by omega)), if_neg (show ¬ p0 = 2 from z 2 (by omega)), if_neg (show ¬ p0 = 3 from z 3 (by omega)), if_neg (show ¬ p0 = 4 from z 4 (by omega)), if_neg (show ¬ p0 = 5 from z 5 (by omega)), if_neg (show ¬ p0 = 6 from z 6 (by omega)), if_neg (show ¬ p0 = 7 from z 7 (by omega))]
      rfl
    · unfold fX8_about bnd
      dsimp only
      rw [if_neg (show ¬ fX8_in p0.toInt64 0 7 = true from q), refused1]
      dsimp only
      rw [if_pos rfl]
end AGR7
