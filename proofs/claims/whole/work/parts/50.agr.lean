/-- the class's call by the law and the reference's call agree -/
def agr (y : MSt) (r : Option (Int32 × (Nat → Int64))) (s : Option (Int32 × MSt)) : Prop := ∃ k o a y', r = some (k, o) ∧ s = some (a, y') ∧ y'.1 = k ∧ (k = 0 → o 0 = a.toInt64) ∧ sameM y y'
section AGR
variable {n rule mv ps pr c0 c1 : Nat} {w : GSt} {b0 b1 : Nat → Int64} {g : RSt} {f : Nat → Int64}
theorem agr_val {y y' : MSt} {a : Int32} {o : Nat → Int64} {r : Option (Int32 × (Nat → Int64))} {s : Option (Int32 × MSt)} (hr : r = some (0, vp_updL o 0 a.toInt64)) (hs : s = some (a, y')) (h1 : y'.1 = 0) (h2 : sameM y y') : agr y r s :=
  ⟨0, _, a, y', hr, hs, h1, fun _ => updL_at _ _ _, h2⟩
theorem agr_ex {y y' : MSt} {k a : Int32} {o : Nat → Int64} {r : Option (Int32 × (Nat → Int64))} {s : Option (Int32 × MSt)} (hk : ¬ k = 0) (hr : r = some (k, o)) (hs : s = some (a, y')) (h1 : y'.1 = k) (h2 : sameM y y') : agr y r s :=
  ⟨k, o, a, y', hr, hs, h1, fun z => absurd z hk, h2⟩
theorem setM_same (y : MSt) (k : Int32) : sameM y (setM y k) := ⟨rfl, rfl⟩
theorem tried_same (n : Nat) (b0 b1 : Nat → Int64) (mv k : Nat) (y : MSt) : sameM y (tried n b0 b1 mv k (setM y 0)) := (keepM_tried n b0 b1 mv k (setM y 0)).2
theorem tried_ref (n : Nat) (b0 b1 : Nat → Int64) (mv k : Nat) (y : MSt) : (tried n b0 b1 mv k (setM y 0)).1 = 0 := (keepM_tried n b0 b1 mv k (setM y 0)).1
theorem why_agr (h : GR n rule mv ps pr c0 c1 w b0 b1 g f) (p0 : Int32) (y : MSt) (o : Nat → Int64) : agr y (fL_why o w b0 b1 g p0) (fX8_why y f p0) := by
  have hn := h.okn
  by_cases q : fX2_has (gridOf n) p0 = true
  · obtain ⟨k, k1, k2⟩ := hasG_pt hn q
    subst k2
    refine agr_val (a := nI (why n rule mv b0 b1 k)) (o := o) ?_ ?_ (tried_ref n b0 b1 mv k y) (tried_same n b0 b1 mv k y)
    · have hr := reason_eq h k1
      rw [h.grid] at hr ⊢
      unfold fL_why fX7_why
      rw [if_pos q, hr]
      rfl
    · unfold fX8_why bnd
      dsimp only
      rw [isPoint_eq hn h.f0, Option.bind_some, if_pos q, refused0]
      dsimp only
      rw [if_neg (by decide), whyNot_eq h k1, Option.bind_some]
  · refine agr_ex (k := 1) (a := 0) (o := o) (y' := setM y 1) (by decide) ?_ ?_ rfl (setM_same y 1)
    · rw [h.grid]
      unfold fL_why fX7_why
      rw [if_neg q]
      rfl
    · unfold fX8_why bnd
      dsimp only
      rw [isPoint_eq hn h.f0, Option.bind_some, if_neg q, refused1]
      dsimp only
      rw [if_pos rfl]
end AGR
