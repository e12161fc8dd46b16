section AGR8
variable {n rule mv ps pr c0 c1 : Nat} {w : GSt} {b0 b1 : Nat → Int64} {g : RSt} {f : Nat → Int64}
theorem capt_eq (h : GR n rule mv ps pr c0 c1 w b0 b1 g f) {c : Nat} (hc : c < 2) : ∃ t, t ≤ 6000 ∧ fX0_captivesOf w (nI c) = nI t ∧ (f (5 + c)) = nL t := by
  have hw := h.weq
  have hf := h.fs
  have hm := h.mvl
  have h0 : c0 ≤ 49 * mv := h.2.2.2.2.2.2.1
  have h1 : c1 ≤ 49 * mv := h.2.2.2.2.2.2.2.1
  rcases (show c = 0 ∨ c = 1 by omega) with e | e
  · subst e
    refine ⟨c0, by omega, ?_, hf.2.2.1⟩
    unfold fX0_captivesOf
    rw [if_pos (show nI 0 = 0 from rfl), hw]
  · subst e
    refine ⟨c1, by omega, ?_, hf.2.2.2.1⟩
    unfold fX0_captivesOf
    rw [if_neg (by decide), hw]
theorem in_m (f : Nat → Int64) {c t : Nat} (hc : c < 2) (hf : f (5 + c) = nL t) : inB (5 + nI c) 250 = true ∧ (f (5 + nI c).toNatClampNeg).toInt32 = nI t := by
  have e : (5 : Int32) + nI c = nI (5 + c) := by rw [show (5 : Int32) = nI 5 from rfl, nI_add]
  rw [e]
  refine ⟨inB_nI (by omega) (by decide), ?_⟩
  rw [nI_clamp (by omega), hf, nL_I]
theorem colour_agr (h : GR n rule mv ps pr c0 c1 w b0 b1 g f) (p0 p1 : Int32) (y : MSt) (o : Nat → Int64) : agr y (fL_colour o w g p0 p1) (fX8_colour y f p0 p1) := by
  have hn := h.okn
  have hin := in0_iff p1 (m := 5) (by omega)
  by_cases q : p0 = 0 ∨ p0 = 1
  · have i1 := (isCol_c p0).mpr q
    have i2 := (isCol_m p0).mpr q
    obtain ⟨c, hc, e⟩ : ∃ c, c < 2 ∧ p0 = nI c := by
      rcases q with e | e
      · exact ⟨0, by omega, e⟩
      · exact ⟨1, by omega, e⟩
    subst e
    have hp := h.pos hc
    have hs : sb (sOf b0 b1 mv c) (mA n) := hp.1
    obtain ⟨t, t1, t2, t3⟩ := capt_eq h hc
    have tm := in_m f hc t3
    by_cases q1 : fX8_in p1.toInt64 0 (nL 5) = true
    · obtain ⟨v, v1, v2⟩ := hin.mp q1
      subst v2
      have q' : fX8_in (nI v).toInt64 0 5 = true := q1
      have key : ∀ a : Int32, fX7_colour w g (nI c) (nI v) = some (Sum.inr a) → fX8_colour y f (nI c) (nI v) = some (a, setM y 0) → agr y (fL_colour o w g (nI c) (nI v)) (fX8_colour y f (nI c) (nI v)) := by
        intro a k1 k2
        refine agr_val (a := a) (o := o) (y' := setM y 0) ?_ k2 rfl (setM_same y 0)
        unfold fL_colour
        rw [k1]
        rfl
      have x3 : eyX n (sOf b0 b1 mv c) (sOf b0 b1 mv (1 - c)) 1 = fE n (sOf b0 b1 mv c) (sOf b0 b1 mv (1 - c)) := rfl
      have E1 : sb (eyX n (sOf b0 b1 mv c) (sOf b0 b1 mv (1 - c)) 1) (mA n) := eyX_sb hn
      have E2 : sb (eyX n (sOf b0 b1 mv c) (sOf b0 b1 mv (1 - c)) 2) (mA n) := eyX_sb hn
      have e1 : fX8_eyes f (nI c) 1 = _ := eyes_eq h hc (v := 1) (.inl rfl)
      have e2 : fX8_eyes f (nI c) 2 = _ := eyes_eq h hc (v := 2) (.inr rfl)
      rcases (show v = 0 ∨ v = 1 ∨ v = 2 ∨ v = 3 ∨ v = 4 ∨ v = 5 by omega) with e | e | e | e | e | e
      all_goals subst e
      · refine key (nI (cn (sOf b0 b1 mv c) 49)) ?_ ?_
        · unfold fX7_colour
          rw [if_pos i1, if_pos (by decide), h.wc hc, bc49 hn hs]
        · unfold fX8_colour bnd
          dsimp only
          rw [if_pos i2, if_pos q', refused0]
          dsimp only
          rw [if_neg (by decide), if_pos (by decide), h.sc hc, Option.bind_some, bits_eq, Option.bind_some]
      · refine key (nI t) ?_ ?_
        · unfold fX7_colour
          rw [if_pos i1, if_neg (by decide), if_pos (by decide), t2]
        · unfold fX8_colour bnd
          dsimp only
          rw [if_pos i2, if_pos q', refused0]
          dsimp only
          rw [if_neg (by decide), if_neg (by decide), if_pos (by decide), if_pos tm.1, tm.2]
      · refine key (nI (cn (sOf b0 b1 mv c) 49 + cn (enc n (sOf b0 b1 mv c) (sOf b0 b1 mv (1 - c))) 49)) ?_ ?_
        · unfold fX7_colour
          rw [if_pos i1, if_neg (by decide), if_neg (by decide), if_pos (by decide), areaOf_eq h hc, Option.bind_some]
        · unfold fX8_colour bnd
          dsimp only
          rw [if_pos i2, if_pos q', refused0]
          dsimp only
          rw [if_neg (by decide), if_neg (by decide), if_neg (by decide), if_pos (by decide), area_eq h hc, Option.bind_some]
      · refine key (nI (cn (eyX n (sOf b0 b1 mv c) (sOf b0 b1 mv (1 - c)) 2) 49)) ?_ ?_
        · unfold fX7_colour
          rw [if_pos i1, if_neg (by decide), if_neg (by decide), if_neg (by decide), if_pos (by decide), trueEyes_eq h hc, Option.bind_some, bc49 hn E2]
        · unfold fX8_colour bnd
          dsimp only
          rw [if_pos i2, if_pos q', refused0]
          dsimp only
          rw [if_neg (by decide), if_neg (by decide), if_neg (by decide), if_neg (by decide), if_pos (by decide), e2, Option.bind_some]
      · refine key (nI (cn (eyX n (sOf b0 b1 mv c) (sOf b0 b1 mv (1 - c)) 1) 49)) ?_ ?_
        · unfold fX7_colour
          rw [if_pos i1, if_neg (by decide), if_neg (by decide), if_neg (by decide), if_neg (by decide), if_pos (by decide), falseEyes_eq h hc, Option.bind_some, ← x3, bc49 hn E1]
        · unfold fX8_colour bnd
          dsimp only
          rw [if_pos i2, if_pos q', refused0]
          dsimp only
          rw [if_neg (by decide), if_neg (by decide), if_neg (by decide), if_neg (by decide), if_neg (by decide), if_pos (by decide), e1, Option.bind_some]
      · refine key (nI (gsum n (sOf b0 b1 mv c) (fun _ => 1) 49 (sOf b0 b1 mv c))) ?_ ?_
        · unfold fX7_colour
          rw [if_pos i1, if_neg (by decide), if_neg (by decide), if_neg (by decide), if_neg (by decide), if_neg (by decide), if_pos (by decide), groupsOf_eq h hc, Option.bind_some]
        · unfold fX8_colour bnd
          dsimp only
          rw [if_pos i2, if_pos q', refused0]
          dsimp only
          rw [if_neg (by decide), if_neg (by decide), if_neg (by decide), if_neg (by decide), if_neg (by decide), if_neg (by decide), mgroupsOf_eq h hc false, Option.bind_some, gval_false]
    · have z : ∀ v, v ≤ 5 → ¬ p1 = nI v := fun v hv e => q1 (hin.mpr ⟨v, hv, e⟩)
      refine agr_ex (k := 2) (a := 0) (o := o) (y' := setM y 2) (by decide) ?_ ?_ rfl (setM_same y 2)
      · unfold fL_colour fX7_colour
        rw [if_pos i1, if_neg (show ¬ p1 = 0 from z 0 (by omega)), if_neg (show ¬ p1 = 1 from z 1 (by omega)), if_neg (show ¬ p1 = 2 from z 2 (by omega)), if_neg (show ¬ p1 = 3 from z 3 (by omega)), if_neg (show ¬ p1 = 4 from z 4 (by omega)), if_neg (show ¬ p1 = 5 from z 5 (by omega))]
        rfl
      · unfold fX8_colour bnd
        dsimp only
        rw [if_pos i2, if_neg (show ¬ fX8_in p1.toInt64 0 5 = true from q1), refused2]
        dsimp only
        rw [if_pos rfl]
  · refine agr_ex (k := 1) (a := 0) (o := o) (y' := setM y 1) (by decide) ?_ ?_ rfl (setM_same y 1)
    · unfold fL_colour fX7_colour
      rw [if_neg (fun z => q ((isCol_c _).mp z))]
      rfl
    · unfold fX8_colour bnd
      dsimp only
      rw [if_neg (fun z => q ((isCol_m _).mp z)), refused1]
      dsimp only
      rw [if_pos rfl]
end AGR8
