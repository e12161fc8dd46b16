section AGR2
variable {n rule mv ps pr c0 c1 : Nat} {w : GSt} {b0 b1 : Nat → Int64} {g : RSt} {f : Nat → Int64}
theorem ifPlayed_agr (h : GR n rule mv ps pr c0 c1 w b0 b1 g f) (p0 p1 : Int32) (y : MSt) (o : Nat → Int64) : agr y (fL_ifPlayed o w b0 b1 g p0 p1) (fX8_ifPlayed y f p0 p1) := by
  have hn := h.okn
  have hin := in0_iff p1 (m := 3) (by omega)
  have hin' := in0_lt p1 (m := 3) (by omega)
  by_cases q : fX2_has (gridOf n) p0 = true
  · by_cases q1 : fX8_in p1.toInt64 0 (nL 3) = true
    · obtain ⟨k, k1, k2⟩ := hasG_pt hn q
      obtain ⟨v, v1, v2⟩ := hin.mp q1
      subst k2
      subst v2
      have hr := reason_eq h k1
      have he := effect_eq h (v := v) k1 (by omega)
      rw [h.grid] at hr he
      have hl := why_le (n := n) (rule := rule) (mv := mv) (b0 := b0) (b1 := b1) k
      have n1 : ¬ nI v < 0 := nI_pos (by omega)
      have n2 : nI v ≤ 3 := nI_le (b := 3) v1 (by omega)
      by_cases z : why n rule mv b0 b1 k = 0
      · have e2 : tried n b0 b1 mv k (setM y 0) = laid n b0 b1 mv k (setM y 0) := by
          unfold tried
          rw [if_neg (why_0 z).1]
        refine agr_val (a := nI (eff n b0 b1 mv k v)) (o := o) (y' := laid n b0 b1 mv k (setM y 0)) ?_ ?_ rfl ⟨rfl, rfl⟩
        · rw [h.grid]
          unfold fL_ifPlayed fX7_ifPlayed
          rw [if_pos q, if_neg n1, if_pos n2, hr, Option.bind_some, if_pos ((nI_eq0 (by omega)).mpr z), he]
          rfl
        · unfold fX8_ifPlayed bnd
          dsimp only
          rw [isPoint_eq hn h.f0, Option.bind_some, if_pos q, if_pos (show fX8_in (nI v).toInt64 0 3 = true from q1), refused0]
          dsimp only
          rw [if_neg (by decide), whyNot_eq h k1, Option.bind_some, e2]
          dsimp only
          rw [if_pos ((nI_eq0 (by omega)).mpr z), if_pos (by decide), rows_eq h.f0, shl_pt]
          exact meff_eq h k1 (by omega) (setM y 0)
      · refine agr_val (a := -1) (o := o) (y' := tried n b0 b1 mv k (setM y 0)) ?_ ?_ (tried_ref n b0 b1 mv k y) (tried_same n b0 b1 mv k y)
        · rw [h.grid]
          unfold fL_ifPlayed fX7_ifPlayed
          rw [if_pos q, if_neg n1, if_pos n2, hr, Option.bind_some, if_neg (fun r => z ((nI_eq0 (by omega)).mp r))]
          rfl
        · unfold fX8_ifPlayed bnd
          dsimp only
          rw [isPoint_eq hn h.f0, Option.bind_some, if_pos q, if_pos (show fX8_in (nI v).toInt64 0 3 = true from q1), refused0]
          dsimp only
          rw [if_neg (by decide), whyNot_eq h k1, Option.bind_some]
          dsimp only
          rw [if_neg (fun r => z ((nI_eq0 (by omega)).mp r))]
    · refine agr_ex (k := 2) (a := 0) (o := o) (y' := setM y 2) (by decide) ?_ ?_ rfl (setM_same y 2)
      · rw [h.grid]
        unfold fL_ifPlayed fX7_ifPlayed
        rw [if_pos q]
        rcases hin' q1 with r | r
        · rw [if_pos r]
          rfl
        · by_cases s : p1 < 0
          · rw [if_pos s]
            rfl
          · rw [if_neg s, if_neg (show ¬ p1 ≤ 3 from r)]
            rfl
      · unfold fX8_ifPlayed bnd
        dsimp only
        rw [isPoint_eq hn h.f0, Option.bind_some, if_pos q, if_neg (show ¬ fX8_in p1.toInt64 0 3 = true from q1), refused2]
        dsimp only
        rw [if_pos rfl]
  · refine agr_ex (k := 1) (a := 0) (o := o) (y' := setM y 1) (by decide) ?_ ?_ rfl (setM_same y 1)
    · rw [h.grid]
      unfold fL_ifPlayed fX7_ifPlayed
      rw [if_neg q]
      rfl
    · unfold fX8_ifPlayed bnd
      dsimp only
      rw [isPoint_eq hn h.f0, Option.bind_some, if_neg q, refused1]
      dsimp only
      rw [if_pos rfl]
end AGR2
