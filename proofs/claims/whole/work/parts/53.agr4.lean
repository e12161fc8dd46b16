section AGR4
variable {n rule mv ps pr c0 c1 : Nat} {w : GSt} {b0 b1 : Nat → Int64} {g : RSt} {f : Nat → Int64}
theorem group_agr (h : GR n rule mv ps pr c0 c1 w b0 b1 g f) (p0 p1 : Int32) (y : MSt) (o : Nat → Int64) : agrL y (fL_group o w g p0 p1) (fX8_group y f p0 p1) := by
  have hn := h.okn
  have hin := in0_iff p1 (m := 1) (by omega)
  by_cases q : fX2_has g p0 = true
  · have q' : fX2_has (gridOf n) p0 = true := by rw [← h.grid]; exact q
    by_cases q1 : fX8_in p1.toInt64 0 (nL 1) = true
    · obtain ⟨k, k1, k2⟩ := hasG_pt hn q'
      obtain ⟨v, v1, v2⟩ := hin.mp q1
      subst k2
      subst v2
      rcases stone_or_free b0 b1 mv k with ⟨c, hc, s⟩ | s
      · have e1 := groupAt_c h k1 hc s
        have e2 := libertiesAt_c h k1 hc s
        have e3 := groupAt_m h k1 hc s
        have e4 := freeOf_m (S := pt k) h hc
        have e5 := group_ne h hc s
        rcases (show v = 0 ∨ v = 1 by omega) with e | e
        · subst e
          refine agrL_val (a := cl n (sOf b0 b1 mv c) (pt k)) (o := o) (y' := setM y 0) ?_ ?_ rfl (setM_same y 0)
          · unfold fL_group fX7_group
            rw [if_pos q, if_pos (show nI 0 = 0 from rfl), if_pos (show nI 0 = 0 from rfl), e1]
            rfl
          · unfold fX8_group bnd
            dsimp only
            rw [isPoint_eq hn h.f0, Option.bind_some, if_pos q', if_pos (show fX8_in (nI 0).toInt64 0 1 = true from q1), refused0]
            dsimp only
            rw [if_neg (by decide), e3, Option.bind_some, if_pos (show nI 0 = 0 from rfl)]
        · subst e
          refine agrL_val (a := fvO n (b0 mv ||| b1 mv) (cl n (sOf b0 b1 mv c) (pt k))) (o := o) (y' := setM y 0) ?_ ?_ rfl (setM_same y 0)
          · unfold fL_group fX7_group
            rw [if_pos q, if_neg (by decide), if_pos (show nI 1 = 1 from rfl), if_neg (by decide), e2]
            rfl
          · unfold fX8_group bnd
            dsimp only
            rw [isPoint_eq hn h.f0, Option.bind_some, if_pos q', if_pos (show fX8_in (nI 1).toInt64 0 1 = true from q1), refused0]
            dsimp only
            rw [if_neg (by decide), e3, Option.bind_some, if_neg (by decide), if_neg e5, e4, Option.bind_some]
      · obtain ⟨e1, e2, e3⟩ := at_free h k1 s
        refine agrL_val (a := 0) (o := o) (y' := setM y 0) ?_ ?_ rfl (setM_same y 0)
        · unfold fL_group fX7_group
          rcases (show v = 0 ∨ v = 1 by omega) with e | e
          · subst e
            rw [if_pos q, if_pos (show nI 0 = 0 from rfl), if_pos (show nI 0 = 0 from rfl), e1]
            rfl
          · subst e
            rw [if_pos q, if_neg (by decide), if_pos (show nI 1 = 1 from rfl), if_neg (by decide), e2]
            rfl
        · unfold fX8_group bnd
          dsimp only
          rw [isPoint_eq hn h.f0, Option.bind_some, if_pos q', if_pos (show fX8_in (nI v).toInt64 0 1 = true from q1), refused0]
          dsimp only
          rw [if_neg (by decide), e3, Option.bind_some]
          rw [if_pos (show (0 : Int64) = 0 from rfl)]
          split <;> rfl
    · refine agrL_ex (k := 2) (a := 0) (o := o) (y' := setM y 2) (by decide) ?_ ?_ rfl (setM_same y 2)
      · have z0 : ¬ p1 = 0 := fun z => q1 (hin.mpr ⟨0, by omega, z⟩)
        have z1 : ¬ p1 = 1 := fun z => q1 (hin.mpr ⟨1, by omega, z⟩)
        unfold fL_group fX7_group
        rw [if_pos q, if_neg z0, if_neg z1]
        rfl
      · unfold fX8_group bnd
        dsimp only
        rw [isPoint_eq hn h.f0, Option.bind_some, if_pos q', if_neg (show ¬ fX8_in p1.toInt64 0 1 = true from q1), refused2]
        dsimp only
        rw [if_pos rfl]
  · have q' : ¬ fX2_has (gridOf n) p0 = true := by rw [← h.grid]; exact q
    refine agrL_ex (k := 1) (a := 0) (o := o) (y' := setM y 1) (by decide) ?_ ?_ rfl (setM_same y 1)
    · unfold fL_group fX7_group
      rw [if_neg q]
      rfl
    · unfold fX8_group bnd
      dsimp only
      rw [isPoint_eq hn h.f0, Option.bind_some, if_neg q', refused1]
      dsimp only
      rw [if_pos rfl]
end AGR4
