section AGR5
variable {n rule mv ps pr c0 c1 : Nat} {w : GSt} {b0 b1 : Nat → Int64} {g : RSt}
theorem GR.weq (h : GR n rule mv ps pr c0 c1 w b0 b1 g) : w = (nI rule, nI mv, nI ps, nI pr, b0 mv, b1 mv, nI c0, nI c1) := h.2.2.2.2.2.2.2.2.1
theorem GR.cnt (h : GR n rule mv ps pr c0 c1 w b0 b1 g) : cn (b0 mv) 49 + cn (b1 mv) 49 + c0 + c1 + ps = mv := h.2.2.2.2.2.2.2.2.2.1
theorem groupsOf_eq (h : GR n rule mv ps pr c0 c1 w b0 b1 g) {c : Nat} (hc : c < 2) : fX0_groupsOf w g (nI c) = some (nI (gsum n (sOf b0 b1 mv c) (fun _ => 1) 49 (sOf b0 b1 mv c))) := by
  unfold fX0_groupsOf
  rw [h.wc hc, h.grid, groups_eq h.okn (h.pos hc).1, Option.bind_some]
theorem oneOf_eq (h : GR n rule mv ps pr c0 c1 w b0 b1 g) : fX0_groupsWithOneLiberty w g = some (nI (gsum n (b0 mv) (oneL n (b0 mv) (b1 mv)) 49 (b0 mv)) + nI (gsum n (b1 mv) (oneL n (b1 mv) (b0 mv)) 49 (b1 mv))) := by
  have hp := h.pos (c := 0) (by omega)
  have h0 : sb (b0 mv) (mA n) := hp.1
  have h1 : sb (b1 mv) (mA n) := hp.2.1
  have hg := h.grid
  have hn := h.okn
  unfold fX0_groupsWithOneLiberty
  rw [h.weq, hg]
  dsimp only
  rw [one_eq hn h0, Option.bind_some, one_eq hn h1, Option.bind_some]
end AGR5
