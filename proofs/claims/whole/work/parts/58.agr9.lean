section AGR9
variable {n rule mv ps pr c0 c1 : Nat} {w : GSt} {b0 b1 : Nat → Int64} {g : RSt} {f : Nat → Int64}
theorem point_agr (h : GR n rule mv ps pr c0 c1 w b0 b1 g f) (p0 p1 : Int32) (y : MSt) (o : Nat → Int64) : agr y (fL_point o w g p0 p1) (fX8_point y f p0 p1) := by
  have hn := h.okn
  have hin := in0_iff p1 (m := 5) (by omega)
  by_cases q : fX2_has g p0 = true
  · have q' : fX2_has (gridOf n) p0 = true := by rw [← h.grid]; exact q
    obtain ⟨k, k1, k2⟩ := hasG_pt hn q'
    subst k2
    have hk64 : k < 64 := by have := (okN_sq hn).2; omega
    by_cases q1 : fX8_in p1.toInt64 0 (nL 5) = true
    · obtain ⟨v, v1, v2⟩ := hin.mp q1
      subst v2
      have q2 : fX8_in (nI v).toInt64 0 5 = true := q1
      have key : ∀ a : Int32, fX7_point w g (nI k) (nI v) = some (Sum.inr a) → fX8_point y f (nI k) (nI v) = some (a, setM y 0) → agr y (fL_point o w g (nI k) (nI v)) (fX8_point y f (nI k) (nI v)) := by
        intro a k1 k2
        refine agr_val (a := a) (o := o) (y' := setM y 0) ?_ k2 rfl (setM_same y 0)
        unfold fL_point
        rw [k1]
        rfl
      rcases stone_or_free b0 b1 mv k with ⟨c, hc, s⟩ | s
      · have hs : sb (sOf b0 b1 mv c) (mA n) := (h.pos hc).1
        have e1 := groupAt_c h k1 hc s
        have e2 := libertiesAt_c h k1 hc s
        have e3 := groupAt_m h k1 hc s
        have e4 := freeOf_m (S := pt k) h hc
        have e5 := group_ne h hc s
        have s0 : tb (b0 mv ||| b1 mv) k = true := by
          rw [← sOf_or' (b0 := b0) (b1 := b1) (mv := mv) hc]
          exact m_or.mpr (.inl s)
        have G : sb (cl n (sOf b0 b1 mv c) (pt k)) (mA n) := sb_trans (cl_sb hn hs) hs
        have j0 : fJ13_bitCount_95d88 0 = 0 := by rw [bc_eq, cn_zero]; rfl
        have es : fX8_stonesOf f 0 = some (b0 mv) := h.s0
        have eh := has_pt hk64 (b0 mv)
        have ep := part_stone (n := n) hn hk64 s0
        have epc := partAt_c h k
        rw [ep] at epc
        have eb := eyesBeside_eq (S := pt k) h hc
        have et := trueEyesAt_eq h k1 hc s
        have ecol : (if tb (b0 mv) k = true then (some ((0 : Int32), setM y 0)) else some (1, setM y 0)) = some (nI c, setM y 0) := by
          rcases (show c = 0 ∨ c = 1 by omega) with e | e
          · subst e
            rw [if_pos (show tb (b0 mv) k = true from s)]
            rfl
          · subst e
            rw [if_neg (show ¬ tb (b0 mv) k = true from fun z => (m_and0.mp (h.pos (c := 1) (by omega)).2.2.1 k s) z)]
            rfl
        rcases (show v = 0 ∨ v = 1 ∨ v = 2 ∨ v = 3 ∨ v = 4 ∨ v = 5 by omega) with e | e | e | e | e | e
        all_goals subst e
        · refine key (nI c) ?_ ?_
          · unfold fX7_point
            rw [if_pos q, if_pos (by decide), col_stone h hk64 hc s]
          · unfold fX8_point bnd
            dsimp only
            rw [isPoint_eq hn h.f0, Option.bind_some, if_pos q', if_pos q2, refused0]
            dsimp only
            rw [if_neg (by decide), e3, Option.bind_some, if_neg e5, if_pos (by decide), if_pos rfl, es, Option.bind_some, eh, ecol]
        · refine key (nI (cn (cl n (sOf b0 b1 mv c) (pt k)) 49)) ?_ ?_
          · unfold fX7_point
            rw [if_pos q, if_neg (by decide), if_pos (by decide), e1, Option.bind_some, bc49 hn G]
          · unfold fX8_point bnd
            dsimp only
            rw [isPoint_eq hn h.f0, Option.bind_some, if_pos q', if_pos q2, refused0]
            dsimp only
            rw [if_neg (by decide), e3, Option.bind_some, if_neg e5, if_neg (by decide), if_pos (by decide), bits_eq, Option.bind_some]
        · refine key (nI (cn (fvO n (b0 mv ||| b1 mv) (cl n (sOf b0 b1 mv c) (pt k))) 49)) ?_ ?_
          · unfold fX7_point
            rw [if_pos q, if_neg (by decide), if_neg (by decide), if_pos (by decide), e2, Option.bind_some, bc49 hn fvO_sb]
          · unfold fX8_point bnd
            dsimp only
            rw [isPoint_eq hn h.f0, Option.bind_some, if_pos q', if_pos q2, refused0]
            dsimp only
            rw [if_neg (by decide), e3, Option.bind_some, if_neg e5, if_neg (by decide), if_neg (by decide), if_pos (by decide), if_pos rfl, e4, Option.bind_some, bits_eq, Option.bind_some]
        · refine key (nI (eyeE n (b0 mv) (b1 mv) k)) ?_ ?_
          · unfold fX7_point
            rw [if_pos q, if_neg (by decide), if_neg (by decide), if_neg (by decide), if_pos (by decide), eyeAt_eq h k1, Option.bind_some]
          · unfold fX8_point bnd
            dsimp only
            rw [isPoint_eq hn h.f0, Option.bind_some, if_pos q', if_pos q2, refused0]
            dsimp only
            rw [if_neg (by decide), e3, Option.bind_some, if_neg e5, if_neg (by decide), if_neg (by decide), if_neg (by decide), if_pos (by decide), eyeOfAny_eq h k1, Option.bind_some]
        · refine key (0) ?_ ?_
          · unfold fX7_point
            rw [if_pos q, if_neg (by decide), if_neg (by decide), if_neg (by decide), if_neg (by decide), if_pos (by decide), epc, Option.bind_some, j0]
          · unfold fX8_point bnd
            dsimp only
            rw [isPoint_eq hn h.f0, Option.bind_some, if_pos q', if_pos q2, refused0]
            dsimp only
            rw [if_neg (by decide), e3, Option.bind_some, if_neg e5, if_neg (by decide), if_neg (by decide), if_neg (by decide), if_neg (by decide), if_pos (by decide), if_pos rfl]
        · refine key (nI (cn (fvO n (b0 mv ||| b1 mv) (cl n (sOf b0 b1 mv c) (pt k)) &&& eyX n (sOf b0 b1 mv c) (sOf b0 b1 mv (1 - c)) 2) 49)) ?_ ?_
          · unfold fX7_point
            rw [if_pos q, if_neg (by decide), if_neg (by decide), if_neg (by decide), if_neg (by decide), if_neg (by decide), if_pos (by decide), et, Option.bind_some]
          · unfold fX8_point bnd
            dsimp only
            rw [isPoint_eq hn h.f0, Option.bind_some, if_pos q', if_pos q2, refused0]
            dsimp only
            rw [if_neg (by decide), e3, Option.bind_some, if_neg e5, if_neg (by decide), if_neg (by decide), if_neg (by decide), if_neg (by decide), if_neg (by decide), if_pos rfl, eb, Option.bind_some]
      · obtain ⟨e1, e2, e3⟩ := at_free h k1 s
        have F : sb (fre n (b0 mv ||| b1 mv)) (mA n) := fre_sb
        have G : sb (cl n (fre n (b0 mv ||| b1 mv)) (pt k)) (mA n) := sb_trans (cl_sb hn F) F
        have epc := partAt_c h k
        have epm := part_free h k1 s
        have et := trueEyesAt_free h k1 s
        have b0' : fX8_bits 0 = some 0 := by rw [bits_eq, cn_zero]; rfl
        have j0 : fJ13_bitCount_95d88 0 = 0 := by rw [bc_eq, cn_zero]; rfl
        rcases (show v = 0 ∨ v = 1 ∨ v = 2 ∨ v = 3 ∨ v = 4 ∨ v = 5 by omega) with e | e | e | e | e | e
        all_goals subst e
        · refine key (-1) ?_ ?_
          · unfold fX7_point
            rw [if_pos q, if_pos (by decide), col_free h hk64 s]
          · unfold fX8_point bnd
            dsimp only
            rw [isPoint_eq hn h.f0, Option.bind_some, if_pos q', if_pos q2, refused0]
            dsimp only
            rw [if_neg (by decide), e3, Option.bind_some, if_pos rfl, if_pos (by decide), if_neg (by decide)]
        · refine key (0) ?_ ?_
          · unfold fX7_point
            rw [if_pos q, if_neg (by decide), if_pos (by decide), e1, Option.bind_some, j0]
          · unfold fX8_point bnd
            dsimp only
            rw [isPoint_eq hn h.f0, Option.bind_some, if_pos q', if_pos q2, refused0]
            dsimp only
            rw [if_neg (by decide), e3, Option.bind_some, if_pos rfl, if_neg (by decide), if_pos (by decide), b0', Option.bind_some]
        · refine key (0) ?_ ?_
          · unfold fX7_point
            rw [if_pos q, if_neg (by decide), if_neg (by decide), if_pos (by decide), e2, Option.bind_some, j0]
          · unfold fX8_point bnd
            dsimp only
            rw [isPoint_eq hn h.f0, Option.bind_some, if_pos q', if_pos q2, refused0]
            dsimp only
            rw [if_neg (by decide), e3, Option.bind_some, if_pos rfl, if_neg (by decide), if_neg (by decide), if_pos (by decide), if_neg (by decide)]
        · refine key (nI (eyeE n (b0 mv) (b1 mv) k)) ?_ ?_
          · unfold fX7_point
            rw [if_pos q, if_neg (by decide), if_neg (by decide), if_neg (by decide), if_pos (by decide), eyeAt_eq h k1, Option.bind_some]
          · unfold fX8_point bnd
            dsimp only
            rw [isPoint_eq hn h.f0, Option.bind_some, if_pos q', if_pos q2, refused0]
            dsimp only
            rw [if_neg (by decide), e3, Option.bind_some, if_pos rfl, if_neg (by decide), if_neg (by decide), if_neg (by decide), if_pos (by decide), eyeOfAny_eq h k1, Option.bind_some]
        · refine key (nI (cn (cl n (fre n (b0 mv ||| b1 mv)) (pt k)) 49)) ?_ ?_
          · unfold fX7_point
            rw [if_pos q, if_neg (by decide), if_neg (by decide), if_neg (by decide), if_neg (by decide), if_pos (by decide), epc, Option.bind_some, bc49 hn G]
          · unfold fX8_point bnd
            dsimp only
            rw [isPoint_eq hn h.f0, Option.bind_some, if_pos q', if_pos q2, refused0]
            dsimp only
            rw [if_neg (by decide), e3, Option.bind_some, if_pos rfl, if_neg (by decide), if_neg (by decide), if_neg (by decide), if_neg (by decide), if_pos (by decide), if_neg (by decide), epm, Option.bind_some, bits_eq, Option.bind_some]
        · refine key (0) ?_ ?_
          · unfold fX7_point
            rw [if_pos q, if_neg (by decide), if_neg (by decide), if_neg (by decide), if_neg (by decide), if_neg (by decide), if_pos (by decide), et, Option.bind_some]
          · unfold fX8_point bnd
            dsimp only
            rw [isPoint_eq hn h.f0, Option.bind_some, if_pos q', if_pos q2, refused0]
            dsimp only
            rw [if_neg (by decide), e3, Option.bind_some, if_pos rfl, if_neg (by decide), if_neg (by decide), if_neg (by decide), if_neg (by decide), if_neg (by decide), if_neg (by decide)]
    · have z : ∀ v, v ≤ 5 → ¬ p1 = nI v := fun v hv e => q1 (hin.mpr ⟨v, hv, e⟩)
      refine agr_ex (k := 2) (a := 0) (o := o) (y' := setM y 2) (by decide) ?_ ?_ rfl (setM_same y 2)
      · unfold fL_point fX7_point
        rw [if_pos q, if_neg (show ¬ p1 = 0 from z 0 (by omega)), if_neg (show ¬ p1 = 1 from z 1 (by omega)), if_neg (show ¬ p1 = 2 from z 2 (by omega)), if_neg (show ¬ p1 = 3 from z 3 (by omega)), if_neg (show ¬ p1 = 4 from z 4 (by omega)), if_neg (show ¬ p1 = 5 from z 5 (by omega))]
        rfl
      · unfold fX8_point bnd
        dsimp only
        rw [isPoint_eq hn h.f0, Option.bind_some, if_pos q', if_neg (show ¬ fX8_in p1.toInt64 0 5 = true from q1), refused2]
        dsimp only
        rw [if_pos rfl]
  · have q' : ¬ fX2_has (gridOf n) p0 = true := by rw [← h.grid]; exact q
    refine agr_ex (k := 1) (a := 0) (o := o) (y' := setM y 1) (by decide) ?_ ?_ rfl (setM_same y 1)
    · unfold fL_point fX7_point
      rw [if_neg q]
      rfl
    · unfold fX8_point bnd
      dsimp only
      rw [isPoint_eq hn h.f0, Option.bind_some, if_neg q', refused1]
      dsimp only
      rw [if_pos rfl]
end AGR9
