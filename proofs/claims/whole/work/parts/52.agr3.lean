/-- the same for answers that are longs -/
def agrL (y : MSt) (r : Option (Int32 × (Nat → Int64))) (s : Option (Int64 × MSt)) : Prop := ∃ k o a y', r = some (k, o) ∧ s = some (a, y') ∧ y'.1 = k ∧ (k = 0 → o 0 = a) ∧ sameM y y'
section AGR3
variable {n rule mv ps pr c0 c1 : Nat} {w : GSt} {b0 b1 : Nat → Int64} {g : RSt} {f : Nat → Int64}
theorem agrL_val {y y' : MSt} {a : Int64} {o : Nat → Int64} {r : Option (Int32 × (Nat → Int64))} {s : Option (Int64 × MSt)} (hr : r = some (0, vp_updL o 0 a)) (hs : s = some (a, y')) (h1 : y'.1 = 0) (h2 : sameM y y') : agrL y r s :=
  ⟨0, _, a, y', hr, hs, h1, fun _ => updL_at _ _ _, h2⟩
theorem agrL_ex {y y' : MSt} {k : Int32} {a : Int64} {o : Nat → Int64} {r : Option (Int32 × (Nat → Int64))} {s : Option (Int64 × MSt)} (hk : ¬ k = 0) (hr : r = some (k, o)) (hs : s = some (a, y')) (h1 : y'.1 = k) (h2 : sameM y y') : agrL y r s :=
  ⟨k, o, a, y', hr, hs, h1, fun z => absurd z hk, h2⟩
theorem isCol_c (c : Int32) : fX7_isColour c = true ↔ c = 0 ∨ c = 1 := by
  unfold fX7_isColour
  by_cases h : c = 0
  · rw [if_pos h]
    exact ⟨fun _ => .inl h, fun _ => rfl⟩
  · rw [if_neg h]
    by_cases q : c = 1
    · rw [if_pos q]
      exact ⟨fun _ => .inr q, fun _ => rfl⟩
    · rw [if_neg q]
      exact ⟨fun z => absurd z (by decide), fun z => absurd z (fun z => z.elim h q)⟩
theorem isCol_m (c : Int32) : fX8_isColour c = true ↔ c = 0 ∨ c = 1 := by
  have := in0_iff c (m := 1) (by omega)
  show fX8_in c.toInt64 0 (nL 1) = true ↔ _
  rw [this]
  constructor
  · intro ⟨v, v1, v2⟩
    rcases (show v = 0 ∨ v = 1 by omega) with e | e
    · subst e; exact .inl v2
    · subst e; exact .inr v2
  · rintro (e | e)
    · exact ⟨0, by omega, e⟩
    · exact ⟨1, by omega, e⟩
theorem stones_agr (h : GR n rule mv ps pr c0 c1 w b0 b1 g f) (p0 : Int32) (y : MSt) (o : Nat → Int64) : agrL y (fL_stones o w p0) (fX8_stones y f p0) := by
  by_cases q : p0 = 0 ∨ p0 = 1
  · obtain ⟨c, hc, e⟩ : ∃ c, c < 2 ∧ p0 = nI c := by
      rcases q with e | e
      · exact ⟨0, by omega, e⟩
      · exact ⟨1, by omega, e⟩
    subst e
    refine agrL_val (a := sOf b0 b1 mv c) (o := o) (y' := setM y 0) ?_ ?_ rfl (setM_same y 0)
    · unfold fL_stones fX7_stones
      rw [if_pos ((isCol_c _).mpr q), h.wc hc]
      rfl
    · unfold fX8_stones bnd
      dsimp only
      rw [if_pos ((isCol_m _).mpr q), refused0]
      dsimp only
      rw [if_neg (by decide), h.sc hc, Option.bind_some]
  · refine agrL_ex (k := 1) (a := 0) (o := o) (y' := setM y 1) (by decide) ?_ ?_ rfl (setM_same y 1)
    · unfold fL_stones fX7_stones
      rw [if_neg (fun z => q ((isCol_c _).mp z))]
      rfl
    · unfold fX8_stones bnd
      dsimp only
      rw [if_neg (fun z => q ((isCol_m _).mp z)), refused1]
      dsimp only
      rw [if_pos rfl]
end AGR3
