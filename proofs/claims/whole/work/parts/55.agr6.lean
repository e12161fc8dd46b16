section AGR6
variable {n rule mv ps pr c0 c1 : Nat} {w : GSt} {b0 b1 : Nat → Int64} {g : RSt} {f : Nat → Int64}
theorem lead_eqs (h : GR n rule mv ps pr c0 c1 w b0 b1 g f) (y : MSt) : ∃ v, fX8_lead y f = some (v, setM y 0) ∧ fX0_areaOf w g 0 = some (nI (cn (b0 mv) 49 + cn (enc n (b0 mv) (b1 mv)) 49)) ∧ fX0_areaOf w g 1 = some (nI (cn (b1 mv) 49 + cn (enc n (b1 mv) (b0 mv)) 49)) ∧ v = nI (cn (b0 mv) 49 + cn (enc n (b0 mv) (b1 mv)) 49) - nI (cn (b1 mv) 49 + cn (enc n (b1 mv) (b0 mv)) 49) := by
  have a0 : fX8_area f 0 = some (nI (cn (b0 mv) 49 + cn (enc n (b0 mv) (b1 mv)) 49)) := area_eq h (c := 0) (by omega)
  have a1 : fX8_area f 1 = some (nI (cn (b1 mv) 49 + cn (enc n (b1 mv) (b0 mv)) 49)) := area_eq h (c := 1) (by omega)
  refine ⟨_, ?_, areaOf_eq h (c := 0) (by omega), areaOf_eq h (c := 1) (by omega), rfl⟩
  unfold fX8_lead
  rw [a0, Option.bind_some, a1, Option.bind_some]
  rfl
end AGR6
