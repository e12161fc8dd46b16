section AGR5
variable {n rule mv ps pr c0 c1 : Nat} {w : GSt} {b0 b1 : Nat → Int64} {g : RSt} {f : Nat → Int64}
theorem GR.weq (h : GR n rule mv ps pr c0 c1 w b0 b1 g f) : w = (nI rule, nI mv, nI ps, nI pr, b0 mv, b1 mv, nI c0, nI c1) := h.2.2.2.2.2.2.2.2.1
theorem GR.fs (h : GR n rule mv ps pr c0 c1 w b0 b1 g f) : f 1 = nL rule ∧ f 4 = nL ps ∧ f 5 = nL c0 ∧ f 6 = nL c1 ∧ f 7 = nL pr := by
  obtain ⟨hn, hg, hr, hm, hps, hpr, hc0, hc1, hw, f0, f1, f2, f3, f4, f5, f6, f7, hb, hp⟩ := h
  exact ⟨f1, f4, f5, f6, f7⟩
theorem groupsOf_eq (h : GR n rule mv ps pr c0 c1 w b0 b1 g f) {c : Nat} (hc : c < 2) : fX0_groupsOf w g (nI c) = some (nI (gsum n (sOf b0 b1 mv c) (fun _ => 1) 49 (sOf b0 b1 mv c))) := by
  unfold fX0_groupsOf
  rw [h.wc hc, h.grid, groups_eq h.okn (h.pos hc).1, Option.bind_some]
theorem mgroupsOf_eq (h : GR n rule mv ps pr c0 c1 w b0 b1 g f) {c : Nat} (hc : c < 2) (fl : Bool) : fX8_groupsOf f (nI c) fl = some (nI (gsum n (sOf b0 b1 mv c) (gval n (sOf b0 b1 mv c) (sOf b0 b1 mv (1 - c)) fl) 49 (sOf b0 b1 mv c))) := by
  unfold fX8_groupsOf
  rw [if_pos (by decide), h.sc hc, Option.bind_some, other_nI hc, h.sc (c := 1 - c) (by omega), Option.bind_some, rows_eq h.f0, mgroups_eq h.okn (h.pos hc).1 fl, Option.bind_some]
theorem oneOf_eq (h : GR n rule mv ps pr c0 c1 w b0 b1 g f) : fX0_groupsWithOneLiberty w g = some (nI (gsum n (b0 mv) (oneL n (b0 mv) (b1 mv)) 49 (b0 mv)) + nI (gsum n (b1 mv) (oneL n (b1 mv) (b0 mv)) 49 (b1 mv))) := by
  have hp := h.pos (c := 0) (by omega)
  have h0 : sb (b0 mv) (mA n) := hp.1
  have h1 : sb (b1 mv) (mA n) := hp.2.1
  have hg := h.grid
  have hn := h.okn
  unfold fX0_groupsWithOneLiberty
  rw [h.weq, hg]
  dsimp only
  rw [one_eq hn h0, Option.bind_some, one_eq hn h1, Option.bind_some]
end AGR5
